/-! THE REFERENCE: answers -/
abbrev rmX11_thingOf : Room := { frames := 2, cells := 0, slots := 0, locals := 43 }
set_option maxHeartbeats 4000000 in
set_option maxRecDepth 100000 in
theorem kX11_thingOf {D : va_G} {ct : Nat → ClassId} {l : Launch} (o : Nat → Nat) (v : MS) (R : va_W) (x1 : Int32) (x2 : Int32) (y : YS) (hy : yI y) (hq : RelI y (m_g v)) : MI D ct l yX11_thingOf wsX11_thingOf rmX11_thingOf (MW ct o v R) [.ref (o 0), .int (x1), .int (x2)] (fun r0 (_ : Unit) => r0 = a_thing y x1 x2) (fun _ : Unit => MW ct o v R) := by
  refine MIof (cc := cX11_thingOf) (maxL := 4) (ret := (some .int)) (by decide) rfl (Nat.le_of_ble_eq_true rfl) ?_
  intro p e s m args below meth c A H locs F hP hK hD hS hA ls hl
  obtain ⟨hx, hb, hr, hlocks, hml, hown, hts, hin⟩ := F
  have hl : lv_has ls 4 [(0, .ref (o 0)), (1, .int (x1)), (2, .int (x2))] := hl
  have hB : y_n y ≤ 12 ∧ y_cn y ≤ 4 ∧ y_rn y ≤ 5 := ⟨hy.1, hy.2.1, hy.2.2.1⟩
  have hn : y_n y ≤ 12 := hy.1
  have hcn : y_cn y ≤ 4 := hy.2.1
  have hrn : y_rn y ≤ 5 := hy.2.2.1
  refine lv_aload_n hx hb dX11_thingOf_0 rfl (lv_at hl 0 rfl) ?_
  refine lv_iload_n hx hb dX11_thingOf_1 rfl (lv_at hl 1 rfl) ?_
  refine zVI [.int (x1)] [] (kX11_isThing (o) (v) (R) (x1) (y) (show y_n (y) ≤ 12 ∧ y_cn (y) ≤ 4 ∧ y_rn (y) ≤ 5 from hB) (show RelI (y) (m_g v) from hq)) hx hb hml hown hts (cwV 1 hts gX11_thingOf_X11_isThing rfl rfl rfl (by decide +kernel) ⟨(Nat.le_of_ble_eq_true rfl), (Nat.le_of_ble_eq_true rfl)⟩) hK hP hD hS hA (va_recv hK hP (ci := 10) (q0 := 0) rfl rfl) rfl hl.1 rfl (Nat.le_of_ble_eq_true rfl) dX11_thingOf_2 ⟨(Nat.le_of_ble_eq_true rfl), (Nat.le_of_ble_eq_true rfl)⟩ (fun r_2 _ H locs hr_2 hP hD hS => ?_)
  subst hr_2
  have hP : va_P D vwCl (MW ct o v R) H := hP
  have hD : va_D A (MW ct o v R) := hD
  refine zB_if_ne (tgt := 10) hx hb dX11_thingOf_5 (by decide) (fun c5_1 => ?_) (fun c5_1 => ?_)
  · skip
    obtain ⟨k1, hk1, ek1⟩ := p_in_ex (n := y_n y) (by omega) c5_1
    subst ek1
    have hclk1 : (nI k1).toNatClampNeg = k1 := nI_clamp (by omega)
    refine lv_aload_n hx hb dX11_thingOf_10 rfl (lv_at hl 0 rfl) ?_
    refine lv_iload_n hx hb dX11_thingOf_11 rfl (lv_at hl 1 rfl) ?_
    refine lv_iconst (v := nI (2)) hx hb dX11_thingOf_12 (by decide) ?_
    refine zVI [.int (nI (k1)), .int (nI (2))] [] (kX11_t (o) (v) (R) (k1) (2) (show (k1) < 12 from by omega) (show (2) < 4 from by omega)) hx hb hml hown hts (cwV 2 hts gX11_thingOf_X11_t rfl rfl rfl (by decide +kernel) ⟨(Nat.le_of_ble_eq_true rfl), (Nat.le_of_ble_eq_true rfl)⟩) hK hP hD hS hA (va_recv hK hP (ci := 10) (q0 := 0) rfl rfl) rfl hl.1 rfl (Nat.le_of_ble_eq_true rfl) dX11_thingOf_13 ⟨(Nat.le_of_ble_eq_true rfl), (Nat.le_of_ble_eq_true rfl)⟩ (fun r_13 _ H locs hr_13 hP hD hS => ?_)
    subst hr_13
    have hP : va_P D vwCl (MW ct o v R) H := hP
    have hD : va_D A (MW ct o v R) := hD
    rcases (hq.2.2.2.1 k1 (by omega)).2.2 with ⟨e1, e2, e3, e4⟩ | ⟨cc9, q9, hc9, hq9, e1, e2, e3, e4⟩
    · skip
      refine zTop (y := nI (0)) e3 ?_
      refine lv_if_le (tgt := 23) hx hb dX11_thingOf_16 (by decide) (fun c9 => ?_) (fun c9 => absurd (by decide) c9)
      refine lv_iconst (v := nI (0)) hx hb dX11_thingOf_23 (by decide) ?_
      refine lv_istore_n (lv' := [(3, .int (nI (0))), (0, .ref (o 0)), (1, .int (nI (k1))), (2, .int (x2))]) hx hb dX11_thingOf_24 rfl hl (by decide) rfl (fun ls hl => ?_)
      refine lv_iload_n hx hb dX11_thingOf_25 rfl (lv_at hl 3 rfl) ?_
      rcases zSw 0 3 (x2) (by decide) (by decide) with sw3 | ⟨j, sw3, sw3e⟩
      · refine lv_tableOut (tgt := 97) hx hb dX11_thingOf_26 (zSwO sw3) (by decide) ?_
        have hd0 : ¬ x2 = nI 0 := zSwN (j := 0) sw3 (by decide) (by decide) (by decide)
        have hd1 : ¬ x2 = nI 1 := zSwN (j := 1) sw3 (by decide) (by decide) (by decide)
        have hd2 : ¬ x2 = nI 2 := zSwN (j := 2) sw3 (by decide) (by decide) (by decide)
        have hd3 : ¬ x2 = nI 3 := zSwN (j := 3) sw3 (by decide) (by decide) (by decide)
        refine lv_bipush (v := (-2)) hx hb dX11_thingOf_97 (by decide) ?_
        exact zIret () hx hb hr hlocks hK hP hD hS dX11_thingOf_99 (show (-2) = a_thing y (nI k1) x2 from (by simp only [a_thing, nI_sub1, ixI, c5_1, hclk1, e1, e2, hd0, hd1, hd2, hd3, p_in, p_worn, p_wi, p_creak, p_le0, p_lt1, p_rng, not_true_eq_false, not_false_eq_true, if_true, if_false, and_true, true_and, and_false, false_and, or_true, true_or, or_false, false_or, and_self, or_self, iff_true, true_iff, iff_false, false_iff, decide_eq_true_eq, decide_true, decide_false, Int32.add_zero, Nat.add_zero, ne_eq, Bool.false_eq_true, eq_self]))
      · rcases (show j = 0 ∨ j = 1 ∨ j = 2 ∨ j = 3 by omega) with rfl | rfl | rfl | rfl
        · refine lv_tableIn (off := 30) (tgt := 56) hx hb dX11_thingOf_26 (by rw [sw3e]; decide) (by rw [sw3e]; decide) (by rw [sw3e]; rfl) (by decide) ?_
          subst sw3e
          have hj : (nI 0 : Int32) = nI 0 := rfl
          refine lv_aload_n hx hb dX11_thingOf_56 rfl (lv_at hl 1 rfl) ?_
          refine lv_iload_n hx hb dX11_thingOf_57 rfl (lv_at hl 2 rfl) ?_
          refine lv_iload_n hx hb dX11_thingOf_58 rfl (lv_at hl 3 rfl) ?_
          refine zVI [.int (nI (k1)), .int (nI (0))] [] (kX11_t (o) (v) (R) (k1) (0) (show (k1) < 12 from by omega) (show (0) < 4 from by omega)) hx hb hml hown hts (cwV 2 hts gX11_thingOf_X11_t rfl rfl rfl (by decide +kernel) ⟨(Nat.le_of_ble_eq_true rfl), (Nat.le_of_ble_eq_true rfl)⟩) hK hP hD hS hA (va_recv hK hP (ci := 10) (q0 := 0) rfl rfl) rfl hl.1 rfl (Nat.le_of_ble_eq_true rfl) dX11_thingOf_59 ⟨(Nat.le_of_ble_eq_true rfl), (Nat.le_of_ble_eq_true rfl)⟩ (fun r_59 _ H locs hr_59 hP hD hS => ?_)
          subst hr_59
          have hP : va_P D vwCl (MW ct o v R) H := hP
          have hD : va_D A (MW ct o v R) := hD
          refine zTop (y := (y_kd y (k1))) (rel_kd hq (k := k1) (by omega)) ?_
          exact zIret () hx hb hr hlocks hK hP hD hS dX11_thingOf_62 (show (y_kd y (k1)) = a_thing y (nI k1) (nI 0) from (by simp only [a_thing, nI_sub1, ixI, c5_1, hclk1, e1, e2, p_in, p_worn, p_wi, p_creak, p_le0, p_lt1, p_rng, not_true_eq_false, not_false_eq_true, if_true, if_false, and_true, true_and, and_false, false_and, or_true, true_or, or_false, false_or, and_self, or_self, iff_true, true_iff, iff_false, false_iff, decide_eq_true_eq, decide_true, decide_false, Int32.add_zero, Nat.add_zero, ne_eq, Bool.false_eq_true, eq_self]))
        · refine lv_tableIn (off := 30) (tgt := 56) hx hb dX11_thingOf_26 (by rw [sw3e]; decide) (by rw [sw3e]; decide) (by rw [sw3e]; rfl) (by decide) ?_
          subst sw3e
          have hj : (nI 1 : Int32) = nI 1 := rfl
          have hn0 : ¬ (nI 1 = nI 0) := by decide
          refine lv_aload_n hx hb dX11_thingOf_56 rfl (lv_at hl 1 rfl) ?_
          refine lv_iload_n hx hb dX11_thingOf_57 rfl (lv_at hl 2 rfl) ?_
          refine lv_iload_n hx hb dX11_thingOf_58 rfl (lv_at hl 3 rfl) ?_
          refine zVI [.int (nI (k1)), .int (nI (1))] [] (kX11_t (o) (v) (R) (k1) (1) (show (k1) < 12 from by omega) (show (1) < 4 from by omega)) hx hb hml hown hts (cwV 2 hts gX11_thingOf_X11_t rfl rfl rfl (by decide +kernel) ⟨(Nat.le_of_ble_eq_true rfl), (Nat.le_of_ble_eq_true rfl)⟩) hK hP hD hS hA (va_recv hK hP (ci := 10) (q0 := 0) rfl rfl) rfl hl.1 rfl (Nat.le_of_ble_eq_true rfl) dX11_thingOf_59 ⟨(Nat.le_of_ble_eq_true rfl), (Nat.le_of_ble_eq_true rfl)⟩ (fun r_59 _ H locs hr_59 hP hD hS => ?_)
          subst hr_59
          have hP : va_P D vwCl (MW ct o v R) H := hP
          have hD : va_D A (MW ct o v R) := hD
          refine zTop (y := (y_w y (k1))) (rel_w hq (k := k1) (by omega)) ?_
          exact zIret () hx hb hr hlocks hK hP hD hS dX11_thingOf_62 (show (y_w y (k1)) = a_thing y (nI k1) (nI 1) from (by simp only [a_thing, nI_sub1, ixI, c5_1, hclk1, e1, e2, hn0, p_in, p_worn, p_wi, p_creak, p_le0, p_lt1, p_rng, not_true_eq_false, not_false_eq_true, if_true, if_false, and_true, true_and, and_false, false_and, or_true, true_or, or_false, false_or, and_self, or_self, iff_true, true_iff, iff_false, false_iff, decide_eq_true_eq, decide_true, decide_false, Int32.add_zero, Nat.add_zero, ne_eq, Bool.false_eq_true, eq_self]))
        · refine lv_tableIn (off := 37) (tgt := 63) hx hb dX11_thingOf_26 (by rw [sw3e]; decide) (by rw [sw3e]; decide) (by rw [sw3e]; rfl) (by decide) ?_
          subst sw3e
          have hj : (nI 2 : Int32) = nI 2 := rfl
          have hn0 : ¬ (nI 2 = nI 0) := by decide
          have hn1 : ¬ (nI 2 = nI 1) := by decide
          refine lv_iload_n hx hb dX11_thingOf_63 rfl (lv_at hl 0 rfl) ?_
          refine lv_if_eq (tgt := 78) hx hb dX11_thingOf_64 (by decide) (fun c9 => ?_) (fun c9 => absurd (by decide) c9)
          refine lv_bipush (v := (-4)) hx hb dX11_thingOf_78 (by decide) ?_
          exact zIret () hx hb hr hlocks hK hP hD hS dX11_thingOf_80 (show (-4) = a_thing y (nI k1) (nI 2) from (by simp only [a_thing, nI_sub1, ixI, c5_1, hclk1, e1, e2, hn0, hn1, p_in, p_worn, p_wi, p_creak, p_le0, p_lt1, p_rng, not_true_eq_false, not_false_eq_true, if_true, if_false, and_true, true_and, and_false, false_and, or_true, true_or, or_false, false_or, and_self, or_self, iff_true, true_iff, iff_false, false_iff, decide_eq_true_eq, decide_true, decide_false, Int32.add_zero, Nat.add_zero, ne_eq, Bool.false_eq_true, eq_self]))
        · refine lv_tableIn (off := 55) (tgt := 81) hx hb dX11_thingOf_26 (by rw [sw3e]; decide) (by rw [sw3e]; decide) (by rw [sw3e]; rfl) (by decide) ?_
          subst sw3e
          have hj : (nI 3 : Int32) = nI 3 := rfl
          have hn0 : ¬ (nI 3 = nI 0) := by decide
          have hn1 : ¬ (nI 3 = nI 1) := by decide
          have hn2 : ¬ (nI 3 = nI 2) := by decide
          refine lv_iload_n hx hb dX11_thingOf_81 rfl (lv_at hl 0 rfl) ?_
          refine lv_if_eq (tgt := 94) hx hb dX11_thingOf_82 (by decide) (fun c9 => ?_) (fun c9 => absurd (by decide) c9)
          refine lv_bipush (v := (-4)) hx hb dX11_thingOf_94 (by decide) ?_
          exact zIret () hx hb hr hlocks hK hP hD hS dX11_thingOf_96 (show (-4) = a_thing y (nI k1) (nI 3) from (by simp only [a_thing, nI_sub1, ixI, c5_1, hclk1, e1, e2, hn0, hn1, hn2, p_in, p_worn, p_wi, p_creak, p_le0, p_lt1, p_rng, not_true_eq_false, not_false_eq_true, if_true, if_false, and_true, true_and, and_false, false_and, or_true, true_or, or_false, false_or, and_self, or_self, iff_true, true_iff, iff_false, false_iff, decide_eq_true_eq, decide_true, decide_false, Int32.add_zero, Nat.add_zero, ne_eq, Bool.false_eq_true, eq_self]))
    · skip
      refine zTop (y := nI (cc9 + 1)) e3 ?_
      refine zN_if_le (tgt := 23) hx hb (by omega) dX11_thingOf_16 (by decide) (fun c16_6 => ?_) (fun c16_6 => ?_)
      · skip
        exact absurd c16_6 (by omega)
      · skip
        refine lv_iconst (v := nI (1)) hx hb dX11_thingOf_19 (by decide) ?_
        refine lv_goto (tgt := 24) hx hb dX11_thingOf_20 (by decide) ?_
        refine lv_istore_n (lv' := [(3, .int (nI (1))), (0, .ref (o 0)), (1, .int (nI (k1))), (2, .int (x2))]) hx hb dX11_thingOf_24 rfl hl (by decide) rfl (fun ls hl => ?_)
        refine lv_iload_n hx hb dX11_thingOf_25 rfl (lv_at hl 3 rfl) ?_
        rcases zSw 0 3 (x2) (by decide) (by decide) with sw7 | ⟨j, sw7, sw7e⟩
        · refine lv_tableOut (tgt := 97) hx hb dX11_thingOf_26 (zSwO sw7) (by decide) ?_
          have hd0 : ¬ x2 = nI 0 := zSwN (j := 0) sw7 (by decide) (by decide) (by decide)
          have hd1 : ¬ x2 = nI 1 := zSwN (j := 1) sw7 (by decide) (by decide) (by decide)
          have hd2 : ¬ x2 = nI 2 := zSwN (j := 2) sw7 (by decide) (by decide) (by decide)
          have hd3 : ¬ x2 = nI 3 := zSwN (j := 3) sw7 (by decide) (by decide) (by decide)
          refine lv_bipush (v := (-2)) hx hb dX11_thingOf_97 (by decide) ?_
          exact zIret () hx hb hr hlocks hK hP hD hS dX11_thingOf_99 (show (-2) = a_thing y (nI k1) x2 from (by simp only [a_thing, nI_sub1, ixI, c5_1, hclk1, e1, e2, nI_ne4 (k := cc9) (by omega), c16_6, hd0, hd1, hd2, hd3, p_in, p_worn, p_wi, p_creak, p_le0, p_lt1, p_rng, not_true_eq_false, not_false_eq_true, if_true, if_false, and_true, true_and, and_false, false_and, or_true, true_or, or_false, false_or, and_self, or_self, iff_true, true_iff, iff_false, false_iff, decide_eq_true_eq, decide_true, decide_false, Int32.add_zero, Nat.add_zero, ne_eq, Bool.false_eq_true, eq_self]))
        · rcases (show j = 0 ∨ j = 1 ∨ j = 2 ∨ j = 3 by omega) with rfl | rfl | rfl | rfl
          · refine lv_tableIn (off := 30) (tgt := 56) hx hb dX11_thingOf_26 (by rw [sw7e]; decide) (by rw [sw7e]; decide) (by rw [sw7e]; rfl) (by decide) ?_
            subst sw7e
            have hj : (nI 0 : Int32) = nI 0 := rfl
            refine lv_aload_n hx hb dX11_thingOf_56 rfl (lv_at hl 1 rfl) ?_
            refine lv_iload_n hx hb dX11_thingOf_57 rfl (lv_at hl 2 rfl) ?_
            refine lv_iload_n hx hb dX11_thingOf_58 rfl (lv_at hl 3 rfl) ?_
            refine zVI [.int (nI (k1)), .int (nI (0))] [] (kX11_t (o) (v) (R) (k1) (0) (show (k1) < 12 from by omega) (show (0) < 4 from by omega)) hx hb hml hown hts (cwV 2 hts gX11_thingOf_X11_t rfl rfl rfl (by decide +kernel) ⟨(Nat.le_of_ble_eq_true rfl), (Nat.le_of_ble_eq_true rfl)⟩) hK hP hD hS hA (va_recv hK hP (ci := 10) (q0 := 0) rfl rfl) rfl hl.1 rfl (Nat.le_of_ble_eq_true rfl) dX11_thingOf_59 ⟨(Nat.le_of_ble_eq_true rfl), (Nat.le_of_ble_eq_true rfl)⟩ (fun r_59 _ H locs hr_59 hP hD hS => ?_)
            subst hr_59
            have hP : va_P D vwCl (MW ct o v R) H := hP
            have hD : va_D A (MW ct o v R) := hD
            refine zTop (y := (y_kd y (k1))) (rel_kd hq (k := k1) (by omega)) ?_
            exact zIret () hx hb hr hlocks hK hP hD hS dX11_thingOf_62 (show (y_kd y (k1)) = a_thing y (nI k1) (nI 0) from (by simp only [a_thing, nI_sub1, ixI, c5_1, hclk1, e1, e2, nI_ne4 (k := cc9) (by omega), c16_6, p_in, p_worn, p_wi, p_creak, p_le0, p_lt1, p_rng, not_true_eq_false, not_false_eq_true, if_true, if_false, and_true, true_and, and_false, false_and, or_true, true_or, or_false, false_or, and_self, or_self, iff_true, true_iff, iff_false, false_iff, decide_eq_true_eq, decide_true, decide_false, Int32.add_zero, Nat.add_zero, ne_eq, Bool.false_eq_true, eq_self]))
          · refine lv_tableIn (off := 30) (tgt := 56) hx hb dX11_thingOf_26 (by rw [sw7e]; decide) (by rw [sw7e]; decide) (by rw [sw7e]; rfl) (by decide) ?_
            subst sw7e
            have hj : (nI 1 : Int32) = nI 1 := rfl
            have hn0 : ¬ (nI 1 = nI 0) := by decide
            refine lv_aload_n hx hb dX11_thingOf_56 rfl (lv_at hl 1 rfl) ?_
            refine lv_iload_n hx hb dX11_thingOf_57 rfl (lv_at hl 2 rfl) ?_
            refine lv_iload_n hx hb dX11_thingOf_58 rfl (lv_at hl 3 rfl) ?_
            refine zVI [.int (nI (k1)), .int (nI (1))] [] (kX11_t (o) (v) (R) (k1) (1) (show (k1) < 12 from by omega) (show (1) < 4 from by omega)) hx hb hml hown hts (cwV 2 hts gX11_thingOf_X11_t rfl rfl rfl (by decide +kernel) ⟨(Nat.le_of_ble_eq_true rfl), (Nat.le_of_ble_eq_true rfl)⟩) hK hP hD hS hA (va_recv hK hP (ci := 10) (q0 := 0) rfl rfl) rfl hl.1 rfl (Nat.le_of_ble_eq_true rfl) dX11_thingOf_59 ⟨(Nat.le_of_ble_eq_true rfl), (Nat.le_of_ble_eq_true rfl)⟩ (fun r_59 _ H locs hr_59 hP hD hS => ?_)
            subst hr_59
            have hP : va_P D vwCl (MW ct o v R) H := hP
            have hD : va_D A (MW ct o v R) := hD
            refine zTop (y := (y_w y (k1))) (rel_w hq (k := k1) (by omega)) ?_
            exact zIret () hx hb hr hlocks hK hP hD hS dX11_thingOf_62 (show (y_w y (k1)) = a_thing y (nI k1) (nI 1) from (by simp only [a_thing, nI_sub1, ixI, c5_1, hclk1, e1, e2, nI_ne4 (k := cc9) (by omega), c16_6, hn0, p_in, p_worn, p_wi, p_creak, p_le0, p_lt1, p_rng, not_true_eq_false, not_false_eq_true, if_true, if_false, and_true, true_and, and_false, false_and, or_true, true_or, or_false, false_or, and_self, or_self, iff_true, true_iff, iff_false, false_iff, decide_eq_true_eq, decide_true, decide_false, Int32.add_zero, Nat.add_zero, ne_eq, Bool.false_eq_true, eq_self]))
          · refine lv_tableIn (off := 37) (tgt := 63) hx hb dX11_thingOf_26 (by rw [sw7e]; decide) (by rw [sw7e]; decide) (by rw [sw7e]; rfl) (by decide) ?_
            subst sw7e
            have hj : (nI 2 : Int32) = nI 2 := rfl
            have hn0 : ¬ (nI 2 = nI 0) := by decide
            have hn1 : ¬ (nI 2 = nI 1) := by decide
            refine lv_iload_n hx hb dX11_thingOf_63 rfl (lv_at hl 0 rfl) ?_
            refine lv_if_eq (tgt := 78) hx hb dX11_thingOf_64 (by decide) (fun c9 => absurd c9 (by decide)) (fun c9 => ?_)
            refine lv_aload_n hx hb dX11_thingOf_67 rfl (lv_at hl 1 rfl) ?_
            refine lv_iload_n hx hb dX11_thingOf_68 rfl (lv_at hl 2 rfl) ?_
            refine lv_iconst (v := nI (2)) hx hb dX11_thingOf_69 (by decide) ?_
            refine zVI [.int (nI (k1)), .int (nI (2))] [] (kX11_t (o) (v) (R) (k1) (2) (show (k1) < 12 from by omega) (show (2) < 4 from by omega)) hx hb hml hown hts (cwV 2 hts gX11_thingOf_X11_t rfl rfl rfl (by decide +kernel) ⟨(Nat.le_of_ble_eq_true rfl), (Nat.le_of_ble_eq_true rfl)⟩) hK hP hD hS hA (va_recv hK hP (ci := 10) (q0 := 0) rfl rfl) rfl hl.1 rfl (Nat.le_of_ble_eq_true rfl) dX11_thingOf_70 ⟨(Nat.le_of_ble_eq_true rfl), (Nat.le_of_ble_eq_true rfl)⟩ (fun r_70 _ H locs hr_70 hP hD hS => ?_)
            subst hr_70
            have hP : va_P D vwCl (MW ct o v R) H := hP
            have hD : va_D A (MW ct o v R) := hD
            refine zTop (y := nI (cc9 + 1)) e3 ?_
            refine lv_iconst (v := nI (1)) hx hb dX11_thingOf_73 (by decide) ?_
            refine lv_isub hx hb dX11_thingOf_74 ?_
            refine lv_goto (tgt := 80) hx hb dX11_thingOf_75 (by decide) ?_
            exact zIret () hx hb hr hlocks hK hP hD hS dX11_thingOf_80 (show (nI (cc9 + 1) - nI (1)) = a_thing y (nI k1) (nI 2) from (by simp only [a_thing, nI_sub1, ixI, c5_1, hclk1, e1, e2, nI_ne4 (k := cc9) (by omega), c16_6, hn0, hn1, p_in, p_worn, p_wi, p_creak, p_le0, p_lt1, p_rng, not_true_eq_false, not_false_eq_true, if_true, if_false, and_true, true_and, and_false, false_and, or_true, true_or, or_false, false_or, and_self, or_self, iff_true, true_iff, iff_false, false_iff, decide_eq_true_eq, decide_true, decide_false, Int32.add_zero, Nat.add_zero, ne_eq, Bool.false_eq_true, eq_self]))
          · refine lv_tableIn (off := 55) (tgt := 81) hx hb dX11_thingOf_26 (by rw [sw7e]; decide) (by rw [sw7e]; decide) (by rw [sw7e]; rfl) (by decide) ?_
            subst sw7e
            have hj : (nI 3 : Int32) = nI 3 := rfl
            have hn0 : ¬ (nI 3 = nI 0) := by decide
            have hn1 : ¬ (nI 3 = nI 1) := by decide
            have hn2 : ¬ (nI 3 = nI 2) := by decide
            refine lv_iload_n hx hb dX11_thingOf_81 rfl (lv_at hl 0 rfl) ?_
            refine lv_if_eq (tgt := 94) hx hb dX11_thingOf_82 (by decide) (fun c9 => absurd c9 (by decide)) (fun c9 => ?_)
            refine lv_aload_n hx hb dX11_thingOf_85 rfl (lv_at hl 1 rfl) ?_
            refine lv_iload_n hx hb dX11_thingOf_86 rfl (lv_at hl 2 rfl) ?_
            refine lv_iconst (v := nI (3)) hx hb dX11_thingOf_87 (by decide) ?_
            refine zVI [.int (nI (k1)), .int (nI (3))] [] (kX11_t (o) (v) (R) (k1) (3) (show (k1) < 12 from by omega) (show (3) < 4 from by omega)) hx hb hml hown hts (cwV 2 hts gX11_thingOf_X11_t rfl rfl rfl (by decide +kernel) ⟨(Nat.le_of_ble_eq_true rfl), (Nat.le_of_ble_eq_true rfl)⟩) hK hP hD hS hA (va_recv hK hP (ci := 10) (q0 := 0) rfl rfl) rfl hl.1 rfl (Nat.le_of_ble_eq_true rfl) dX11_thingOf_88 ⟨(Nat.le_of_ble_eq_true rfl), (Nat.le_of_ble_eq_true rfl)⟩ (fun r_88 _ H locs hr_88 hP hD hS => ?_)
            subst hr_88
            have hP : va_P D vwCl (MW ct o v R) H := hP
            have hD : va_D A (MW ct o v R) := hD
            refine zTop (y := nI (q9)) e4 ?_
            refine lv_goto (tgt := 96) hx hb dX11_thingOf_91 (by decide) ?_
            exact zIret () hx hb hr hlocks hK hP hD hS dX11_thingOf_96 (show nI (q9) = a_thing y (nI k1) (nI 3) from (by simp only [a_thing, nI_sub1, ixI, c5_1, hclk1, e1, e2, nI_ne4 (k := cc9) (by omega), c16_6, hn0, hn1, hn2, p_in, p_worn, p_wi, p_creak, p_le0, p_lt1, p_rng, not_true_eq_false, not_false_eq_true, if_true, if_false, and_true, true_and, and_false, false_and, or_true, true_or, or_false, false_or, and_self, or_self, iff_true, true_iff, iff_false, false_iff, decide_eq_true_eq, decide_true, decide_false, Int32.add_zero, Nat.add_zero, ne_eq, Bool.false_eq_true, eq_self]))
  · skip
    refine lv_iconst (v := (-1)) hx hb dX11_thingOf_8 (by decide) ?_
    exact zIret () hx hb hr hlocks hK hP hD hS dX11_thingOf_9 (show (-1) = a_thing y x1 x2 from (by simp only [a_thing, nI_sub1, ixI, c5_1, p_in, p_worn, p_wi, p_creak, p_le0, p_lt1, p_rng, not_true_eq_false, not_false_eq_true, if_true, if_false, and_true, true_and, and_false, false_and, or_true, true_or, or_false, false_or, and_self, or_self, iff_true, true_iff, iff_false, false_iff, decide_eq_true_eq, decide_true, decide_false, Int32.add_zero, Nat.add_zero, ne_eq, Bool.false_eq_true, eq_self]))
abbrev rmX11_cartOf : Room := { frames := 6, cells := 0, slots := 0, locals := 134 }
theorem in_X11_cartOf_X11 : ∀ w ∈ u_ws RX11 TX11 19, w ∈ wsX11_cartOf := by decide +kernel
set_option maxHeartbeats 4000000 in
set_option maxRecDepth 100000 in
theorem kX11_cartOf {D : va_G} {ct : Nat → ClassId} {l : Launch} (o : Nat → Nat) (v : MS) (R : va_W) (x1 : Int32) (x2 : Int32) (y : YS) (hy : yI y) (hq : RelI y (m_g v)) (htr : ∀ c, c < y_cn y → m_g v (53 + 2 * c + 1) = y_tr y c) : MI D ct l yX11_cartOf wsX11_cartOf rmX11_cartOf (MW ct o v R) [.ref (o 0), .int (x1), .int (x2)] (fun r0 (_ : Unit) => r0 = a_cart y x1 x2) (fun _ : Unit => MW ct o v R) := by
  refine MIof (cc := cX11_cartOf) (maxL := 3) (ret := (some .int)) (by decide) rfl (Nat.le_of_ble_eq_true rfl) ?_
  intro p e s m args below meth c A H locs F hP hK hD hS hA ls hl
  obtain ⟨hx, hb, hr, hlocks, hml, hown, hts, hin⟩ := F
  have hl : lv_has ls 3 [(0, .ref (o 0)), (1, .int (x1)), (2, .int (x2))] := hl
  have hB : y_n y ≤ 12 ∧ y_cn y ≤ 4 ∧ y_rn y ≤ 5 := ⟨hy.1, hy.2.1, hy.2.2.1⟩
  have hn : y_n y ≤ 12 := hy.1
  have hcn : y_cn y ≤ 4 := hy.2.1
  have hrn : y_rn y ≤ 5 := hy.2.2.1
  have h_X11 := in_X11_cartOf_X11
  have f9 := hts (.fieldLink RX11 9 "CartArgumentsModel" "all" "[I") (by decide +kernel)
  refine lv_aload_n hx hb dX11_cartOf_0 rfl (lv_at hl 0 rfl) ?_
  refine lv_iload_n hx hb dX11_cartOf_1 rfl (lv_at hl 1 rfl) ?_
  refine zVI [.int (x1)] [] (kX11_isCart (o) (v) (R) (x1) (y) (show y_n (y) ≤ 12 ∧ y_cn (y) ≤ 4 ∧ y_rn (y) ≤ 5 from hB) (show RelI (y) (m_g v) from hq)) hx hb hml hown hts (cwV 1 hts gX11_cartOf_X11_isCart rfl rfl rfl (by decide +kernel) ⟨(Nat.le_of_ble_eq_true rfl), (Nat.le_of_ble_eq_true rfl)⟩) hK hP hD hS hA (va_recv hK hP (ci := 10) (q0 := 0) rfl rfl) rfl hl.1 rfl (Nat.le_of_ble_eq_true rfl) dX11_cartOf_2 ⟨(Nat.le_of_ble_eq_true rfl), (Nat.le_of_ble_eq_true rfl)⟩ (fun r_2 _ H locs hr_2 hP hD hS => ?_)
  subst hr_2
  have hP : va_P D vwCl (MW ct o v R) H := hP
  have hD : va_D A (MW ct o v R) := hD
  refine zB_if_ne (tgt := 10) hx hb dX11_cartOf_5 (by decide) (fun c5_1 => ?_) (fun c5_1 => ?_)
  · skip
    obtain ⟨k1, hk1, ek1⟩ := p_in_ex (n := y_cn y) (by omega) c5_1
    subst ek1
    have hclk1 : (nI k1).toNatClampNeg = k1 := nI_clamp (by omega)
    refine lv_iload_n hx hb dX11_cartOf_10 rfl (lv_at hl 2 rfl) ?_
    rcases zSw 0 7 (x2) (by decide) (by decide) with sw2 | ⟨j, sw2, sw2e⟩
    · refine lv_tableOut (tgt := 118) hx hb dX11_cartOf_11 (zSwO sw2) (by decide) ?_
      have hd0 : ¬ x2 = nI 0 := zSwN (j := 0) sw2 (by decide) (by decide) (by decide)
      have hd1 : ¬ x2 = nI 1 := zSwN (j := 1) sw2 (by decide) (by decide) (by decide)
      have hd2 : ¬ x2 = nI 2 := zSwN (j := 2) sw2 (by decide) (by decide) (by decide)
      have hd3 : ¬ x2 = nI 3 := zSwN (j := 3) sw2 (by decide) (by decide) (by decide)
      have hd4 : ¬ x2 = nI 4 := zSwN (j := 4) sw2 (by decide) (by decide) (by decide)
      have hd5 : ¬ x2 = nI 5 := zSwN (j := 5) sw2 (by decide) (by decide) (by decide)
      have hd6 : ¬ x2 = nI 6 := zSwN (j := 6) sw2 (by decide) (by decide) (by decide)
      have hd7 : ¬ x2 = nI 7 := zSwN (j := 7) sw2 (by decide) (by decide) (by decide)
      refine lv_bipush (v := (-2)) hx hb dX11_cartOf_118 (by decide) ?_
      exact zIret () hx hb hr hlocks hK hP hD hS dX11_cartOf_120 (show (-2) = a_cart y (nI k1) x2 from (by simp only [a_cart, oc_pn, ixI, c5_1, hclk1, hd0, hd1, hd2, hd3, hd4, hd5, hd6, hd7, p_in, p_worn, p_wi, p_creak, p_le0, p_lt1, p_rng, not_true_eq_false, not_false_eq_true, if_true, if_false, and_true, true_and, and_false, false_and, or_true, true_or, or_false, false_or, and_self, or_self, iff_true, true_iff, iff_false, false_iff, decide_eq_true_eq, decide_true, decide_false, Int32.add_zero, Nat.add_zero, ne_eq, Bool.false_eq_true, eq_self]))
    · rcases (show j = 0 ∨ j = 1 ∨ j = 2 ∨ j = 3 ∨ j = 4 ∨ j = 5 ∨ j = 6 ∨ j = 7 by omega) with rfl | rfl | rfl | rfl | rfl | rfl | rfl | rfl
      · refine lv_tableIn (off := 45) (tgt := 56) hx hb dX11_cartOf_11 (by rw [sw2e]; decide) (by rw [sw2e]; decide) (by rw [sw2e]; rfl) (by decide) ?_
        subst sw2e
        have hj : (nI 0 : Int32) = nI 0 := rfl
        refine lv_aload_n hx hb dX11_cartOf_56 rfl (lv_at hl 0 rfl) ?_
        refine lv_iload_n hx hb dX11_cartOf_57 rfl (lv_at hl 1 rfl) ?_
        refine zVI [.int (nI (k1))] [] (kX11_strength (o) (v) (R) (k1) (y) (show y_n (y) ≤ 12 ∧ y_cn (y) ≤ 4 ∧ y_rn (y) ≤ 5 from hB) (show RelI (y) (m_g v) from hq) (show (k1) < y_cn (y) from by omega)) hx hb hml hown hts (cwV 1 hts gX11_cartOf_X11_strength rfl rfl rfl (by decide +kernel) ⟨(Nat.le_of_ble_eq_true rfl), (Nat.le_of_ble_eq_true rfl)⟩) hK hP hD hS hA (va_recv hK hP (ci := 10) (q0 := 0) rfl rfl) rfl hl.1 rfl (Nat.le_of_ble_eq_true rfl) dX11_cartOf_58 ⟨(Nat.le_of_ble_eq_true rfl), (Nat.le_of_ble_eq_true rfl)⟩ (fun r_58 _ H locs hr_58 hP hD hS => ?_)
        subst hr_58
        have hP : va_P D vwCl (MW ct o v R) H := hP
        have hD : va_D A (MW ct o v R) := hD
        exact zIret () hx hb hr hlocks hK hP hD hS dX11_cartOf_61 (show (y_st (y) (k1)) = a_cart y (nI k1) (nI 0) from (by simp only [a_cart, oc_pn, ixI, c5_1, hclk1, p_in, p_worn, p_wi, p_creak, p_le0, p_lt1, p_rng, not_true_eq_false, not_false_eq_true, if_true, if_false, and_true, true_and, and_false, false_and, or_true, true_or, or_false, false_or, and_self, or_self, iff_true, true_iff, iff_false, false_iff, decide_eq_true_eq, decide_true, decide_false, Int32.add_zero, Nat.add_zero, ne_eq, Bool.false_eq_true, eq_self]))
      · refine lv_tableIn (off := 51) (tgt := 62) hx hb dX11_cartOf_11 (by rw [sw2e]; decide) (by rw [sw2e]; decide) (by rw [sw2e]; rfl) (by decide) ?_
        subst sw2e
        have hj : (nI 1 : Int32) = nI 1 := rfl
        have hn0 : ¬ (nI 1 = nI 0) := by decide
        refine lv_aload_n hx hb dX11_cartOf_62 rfl (lv_at hl 0 rfl) ?_
        refine lv_iload_n hx hb dX11_cartOf_63 rfl (lv_at hl 1 rfl) ?_
        refine lv_iconst (v := nI (0)) hx hb dX11_cartOf_64 (by decide) ?_
        refine lv_iconst (v := nI (0)) hx hb dX11_cartOf_65 (by decide) ?_
        refine zVI [.int (nI (k1)), .int (nI (0)), .int (nI (0))] [] (kX11_onCart_c (o) (v) (R) (k1) (nI (0)) (y) (show y_n (y) ≤ 12 ∧ y_cn (y) ≤ 4 ∧ y_rn (y) ≤ 5 from hB) (show RelI (y) (m_g v) from hq) (show (k1) < 4 from by omega)) hx hb hml hown hts (cwV 3 hts gX11_cartOf_X11_onCart rfl rfl rfl (by decide +kernel) ⟨(Nat.le_of_ble_eq_true rfl), (Nat.le_of_ble_eq_true rfl)⟩) hK hP hD hS hA (va_recv hK hP (ci := 10) (q0 := 0) rfl rfl) rfl hl.1 rfl (Nat.le_of_ble_eq_true rfl) dX11_cartOf_66 ⟨(Nat.le_of_ble_eq_true rfl), (Nat.le_of_ble_eq_true rfl)⟩ (fun r_66 _ H locs hr_66 hP hD hS => ?_)
        subst hr_66
        have hP : va_P D vwCl (MW ct o v R) H := hP
        have hD : va_D A (MW ct o v R) := hD
        exact zIret () hx hb hr hlocks hK hP hD hS dX11_cartOf_69 (show (t_oc (y) (nI (k1)) (nI (0))) = a_cart y (nI k1) (nI 1) from (by simp only [a_cart, oc_pn, ixI, c5_1, hclk1, hn0, p_in, p_worn, p_wi, p_creak, p_le0, p_lt1, p_rng, not_true_eq_false, not_false_eq_true, if_true, if_false, and_true, true_and, and_false, false_and, or_true, true_or, or_false, false_or, and_self, or_self, iff_true, true_iff, iff_false, false_iff, decide_eq_true_eq, decide_true, decide_false, Int32.add_zero, Nat.add_zero, ne_eq, Bool.false_eq_true, eq_self]))
      · refine lv_tableIn (off := 59) (tgt := 70) hx hb dX11_cartOf_11 (by rw [sw2e]; decide) (by rw [sw2e]; decide) (by rw [sw2e]; rfl) (by decide) ?_
        subst sw2e
        have hj : (nI 2 : Int32) = nI 2 := rfl
        have hn0 : ¬ (nI 2 = nI 0) := by decide
        have hn1 : ¬ (nI 2 = nI 1) := by decide
        refine lv_aload_n hx hb dX11_cartOf_70 rfl (lv_at hl 0 rfl) ?_
        refine lv_iload_n hx hb dX11_cartOf_71 rfl (lv_at hl 1 rfl) ?_
        refine lv_iconst (v := nI (0)) hx hb dX11_cartOf_72 (by decide) ?_
        refine lv_iconst (v := nI (1)) hx hb dX11_cartOf_73 (by decide) ?_
        refine zVI [.int (nI (k1)), .int (nI (0)), .int (nI (1))] [] (kX11_onCart_w (o) (v) (R) (k1) (nI (0)) (y) (show y_n (y) ≤ 12 ∧ y_cn (y) ≤ 4 ∧ y_rn (y) ≤ 5 from hB) (show RelI (y) (m_g v) from hq) (show (k1) < 4 from by omega)) hx hb hml hown hts (cwV 3 hts gX11_cartOf_X11_onCart rfl rfl rfl (by decide +kernel) ⟨(Nat.le_of_ble_eq_true rfl), (Nat.le_of_ble_eq_true rfl)⟩) hK hP hD hS hA (va_recv hK hP (ci := 10) (q0 := 0) rfl rfl) rfl hl.1 rfl (Nat.le_of_ble_eq_true rfl) dX11_cartOf_74 ⟨(Nat.le_of_ble_eq_true rfl), (Nat.le_of_ble_eq_true rfl)⟩ (fun r_74 _ H locs hr_74 hP hD hS => ?_)
        subst hr_74
        have hP : va_P D vwCl (MW ct o v R) H := hP
        have hD : va_D A (MW ct o v R) := hD
        exact zIret () hx hb hr hlocks hK hP hD hS dX11_cartOf_77 (show (t_wo (y) (nI (k1)) (nI (0))) = a_cart y (nI k1) (nI 2) from (by simp only [a_cart, oc_pn, ixI, c5_1, hclk1, hn0, hn1, p_in, p_worn, p_wi, p_creak, p_le0, p_lt1, p_rng, not_true_eq_false, not_false_eq_true, if_true, if_false, and_true, true_and, and_false, false_and, or_true, true_or, or_false, false_or, and_self, or_self, iff_true, true_iff, iff_false, false_iff, decide_eq_true_eq, decide_true, decide_false, Int32.add_zero, Nat.add_zero, ne_eq, Bool.false_eq_true, eq_self]))
      · refine lv_tableIn (off := 67) (tgt := 78) hx hb dX11_cartOf_11 (by rw [sw2e]; decide) (by rw [sw2e]; decide) (by rw [sw2e]; rfl) (by decide) ?_
        subst sw2e
        have hj : (nI 3 : Int32) = nI 3 := rfl
        have hn0 : ¬ (nI 3 = nI 0) := by decide
        have hn1 : ¬ (nI 3 = nI 1) := by decide
        have hn2 : ¬ (nI 3 = nI 2) := by decide
        refine lv_aload_n hx hb dX11_cartOf_78 rfl (lv_at hl 0 rfl) ?_
        refine lv_iload_n hx hb dX11_cartOf_79 rfl (lv_at hl 1 rfl) ?_
        refine lv_bipush (v := nI (6)) hx hb dX11_cartOf_80 (by decide) ?_
        refine zVI [.int (nI (k1)), .int (nI (6))] [] (kX11_thingAt (o) (v) (R) (k1) (nI (6)) (y) (show y_n (y) ≤ 12 ∧ y_cn (y) ≤ 4 ∧ y_rn (y) ≤ 5 from hB) (show RelI (y) (m_g v) from hq) (show (k1) < 4 from by omega)) hx hb hml hown hts (cwV 2 hts gX11_cartOf_X11_thingAt rfl rfl rfl (by decide +kernel) ⟨(Nat.le_of_ble_eq_true rfl), (Nat.le_of_ble_eq_true rfl)⟩) hK hP hD hS hA (va_recv hK hP (ci := 10) (q0 := 0) rfl rfl) rfl hl.1 rfl (Nat.le_of_ble_eq_true rfl) dX11_cartOf_82 ⟨(Nat.le_of_ble_eq_true rfl), (Nat.le_of_ble_eq_true rfl)⟩ (fun r_82 _ H locs hr_82 hP hD hS => ?_)
        subst hr_82
        have hP : va_P D vwCl (MW ct o v R) H := hP
        have hD : va_D A (MW ct o v R) := hD
        exact zIret () hx hb hr hlocks hK hP hD hS dX11_cartOf_85 (show (t_at (y) (nI (k1)) (nI (6))) = a_cart y (nI k1) (nI 3) from (by simp only [a_cart, oc_pn, ixI, c5_1, hclk1, hn0, hn1, hn2, p_in, p_worn, p_wi, p_creak, p_le0, p_lt1, p_rng, not_true_eq_false, not_false_eq_true, if_true, if_false, and_true, true_and, and_false, false_and, or_true, true_or, or_false, false_or, and_self, or_self, iff_true, true_iff, iff_false, false_iff, decide_eq_true_eq, decide_true, decide_false, Int32.add_zero, Nat.add_zero, ne_eq, Bool.false_eq_true, eq_self]))
      · refine lv_tableIn (off := 75) (tgt := 86) hx hb dX11_cartOf_11 (by rw [sw2e]; decide) (by rw [sw2e]; decide) (by rw [sw2e]; rfl) (by decide) ?_
        subst sw2e
        have hj : (nI 4 : Int32) = nI 4 := rfl
        have hn0 : ¬ (nI 4 = nI 0) := by decide
        have hn1 : ¬ (nI 4 = nI 1) := by decide
        have hn2 : ¬ (nI 4 = nI 2) := by decide
        have hn3 : ¬ (nI 4 = nI 3) := by decide
        refine lv_aload_n hx hb dX11_cartOf_86 rfl (lv_at hl 0 rfl) ?_
        refine lv_iload_n hx hb dX11_cartOf_87 rfl (lv_at hl 1 rfl) ?_
        refine zVI [.int (nI (k1))] [] (kX11_weightOf (o) (v) (R) (k1) (y) (show y_n (y) ≤ 12 ∧ y_cn (y) ≤ 4 ∧ y_rn (y) ≤ 5 from hB) (show RelI (y) (m_g v) from hq) (show (k1) < 4 from by omega)) hx hb hml hown hts (cwV 1 hts gX11_cartOf_X11_weightOf rfl rfl rfl (by decide +kernel) ⟨(Nat.le_of_ble_eq_true rfl), (Nat.le_of_ble_eq_true rfl)⟩) hK hP hD hS hA (va_recv hK hP (ci := 10) (q0 := 0) rfl rfl) rfl hl.1 rfl (Nat.le_of_ble_eq_true rfl) dX11_cartOf_88 ⟨(Nat.le_of_ble_eq_true rfl), (Nat.le_of_ble_eq_true rfl)⟩ (fun r_88 _ H locs hr_88 hP hD hS => ?_)
        subst hr_88
        have hP : va_P D vwCl (MW ct o v R) H := hP
        have hD : va_D A (MW ct o v R) := hD
        exact zIret () hx hb hr hlocks hK hP hD hS dX11_cartOf_91 (show (t_all (y) (nI (k1))) = a_cart y (nI k1) (nI 4) from (by simp only [a_cart, oc_pn, ixI, c5_1, hclk1, hn0, hn1, hn2, hn3, p_in, p_worn, p_wi, p_creak, p_le0, p_lt1, p_rng, not_true_eq_false, not_false_eq_true, if_true, if_false, and_true, true_and, and_false, false_and, or_true, true_or, or_false, false_or, and_self, or_self, iff_true, true_iff, iff_false, false_iff, decide_eq_true_eq, decide_true, decide_false, Int32.add_zero, Nat.add_zero, ne_eq, Bool.false_eq_true, eq_self]))
      · refine lv_tableIn (off := 81) (tgt := 92) hx hb dX11_cartOf_11 (by rw [sw2e]; decide) (by rw [sw2e]; decide) (by rw [sw2e]; rfl) (by decide) ?_
        subst sw2e
        have hj : (nI 5 : Int32) = nI 5 := rfl
        have hn0 : ¬ (nI 5 = nI 0) := by decide
        have hn1 : ¬ (nI 5 = nI 1) := by decide
        have hn2 : ¬ (nI 5 = nI 2) := by decide
        have hn3 : ¬ (nI 5 = nI 3) := by decide
        have hn4 : ¬ (nI 5 = nI 4) := by decide
        refine lv_aload_n hx hb dX11_cartOf_92 rfl (lv_at hl 0 rfl) ?_
        refine va_get (ci := 10) (v := .ref (o 1)) hx hb hts h_X11 hown hK hP 0 rfl rfl 0 (by decide) f9 (fun _ h9 => h9) rfl dX11_cartOf_93 ?_
        refine lv_bipush (v := nI (53)) hx hb dX11_cartOf_96 (by decide) ?_
        refine lv_iconst (v := nI (2)) hx hb dX11_cartOf_98 (by decide) ?_
        refine lv_iload_n hx hb dX11_cartOf_99 rfl (lv_at hl 1 rfl) ?_
        refine zNmul hx hb dX11_cartOf_100 ?_
        refine zNadd hx hb dX11_cartOf_101 ?_
        refine lv_iconst (v := nI (1)) hx hb dX11_cartOf_102 (by decide) ?_
        refine zNadd hx hb dX11_cartOf_103 ?_
        refine zIald (n := 972) (f := m_g v) (i := ((53 + (2 * k1)) + 1)) hx hb hK hP 1 rfl (by omega) (by decide) dX11_cartOf_104 ?_
        exact zIret () hx hb hr hlocks hK hP hD hS dX11_cartOf_105 (show (m_g v (((53 + (2 * k1)) + 1))) = a_cart y (nI k1) (nI 5) from ((htr k1 hk1).trans (by simp only [a_cart, ixI, c5_1, hclk1, hn0, hn1, hn2, hn3, hn4, p_in, p_worn, p_wi, p_creak, p_le0, p_lt1, p_rng, not_true_eq_false, not_false_eq_true, if_true, if_false, and_true, true_and, and_false, false_and, or_true, true_or, or_false, false_or, and_self, or_self, iff_true, true_iff, iff_false, false_iff, decide_eq_true_eq, decide_true, decide_false, Int32.add_zero, Nat.add_zero, ne_eq, Bool.false_eq_true, eq_self])))
      · refine lv_tableIn (off := 95) (tgt := 106) hx hb dX11_cartOf_11 (by rw [sw2e]; decide) (by rw [sw2e]; decide) (by rw [sw2e]; rfl) (by decide) ?_
        subst sw2e
        have hj : (nI 6 : Int32) = nI 6 := rfl
        have hn0 : ¬ (nI 6 = nI 0) := by decide
        have hn1 : ¬ (nI 6 = nI 1) := by decide
        have hn2 : ¬ (nI 6 = nI 2) := by decide
        have hn3 : ¬ (nI 6 = nI 3) := by decide
        have hn4 : ¬ (nI 6 = nI 4) := by decide
        have hn5 : ¬ (nI 6 = nI 5) := by decide
        refine lv_aload_n hx hb dX11_cartOf_106 rfl (lv_at hl 0 rfl) ?_
        refine lv_iload_n hx hb dX11_cartOf_107 rfl (lv_at hl 1 rfl) ?_
        refine zVI [.int (nI (k1))] [] (kX11_imbalance (o) (v) (R) (k1) (y) (show y_n (y) ≤ 12 ∧ y_cn (y) ≤ 4 ∧ y_rn (y) ≤ 5 from hB) (show RelI (y) (m_g v) from hq) (show (k1) < 4 from by omega)) hx hb hml hown hts (cwV 1 hts gX11_cartOf_X11_imbalance rfl rfl rfl (by decide +kernel) ⟨(Nat.le_of_ble_eq_true rfl), (Nat.le_of_ble_eq_true rfl)⟩) hK hP hD hS hA (va_recv hK hP (ci := 10) (q0 := 0) rfl rfl) rfl hl.1 rfl (Nat.le_of_ble_eq_true rfl) dX11_cartOf_108 ⟨(Nat.le_of_ble_eq_true rfl), (Nat.le_of_ble_eq_true rfl)⟩ (fun r_108 _ H locs hr_108 hP hD hS => ?_)
        subst hr_108
        have hP : va_P D vwCl (MW ct o v R) H := hP
        have hD : va_D A (MW ct o v R) := hD
        exact zIret () hx hb hr hlocks hK hP hD hS dX11_cartOf_111 (show (t_im (y) (nI (k1))) = a_cart y (nI k1) (nI 6) from (by simp only [a_cart, oc_pn, ixI, c5_1, hclk1, hn0, hn1, hn2, hn3, hn4, hn5, p_in, p_worn, p_wi, p_creak, p_le0, p_lt1, p_rng, not_true_eq_false, not_false_eq_true, if_true, if_false, and_true, true_and, and_false, false_and, or_true, true_or, or_false, false_or, and_self, or_self, iff_true, true_iff, iff_false, false_iff, decide_eq_true_eq, decide_true, decide_false, Int32.add_zero, Nat.add_zero, ne_eq, Bool.false_eq_true, eq_self]))
      · refine lv_tableIn (off := 101) (tgt := 112) hx hb dX11_cartOf_11 (by rw [sw2e]; decide) (by rw [sw2e]; decide) (by rw [sw2e]; rfl) (by decide) ?_
        subst sw2e
        have hj : (nI 7 : Int32) = nI 7 := rfl
        have hn0 : ¬ (nI 7 = nI 0) := by decide
        have hn1 : ¬ (nI 7 = nI 1) := by decide
        have hn2 : ¬ (nI 7 = nI 2) := by decide
        have hn3 : ¬ (nI 7 = nI 3) := by decide
        have hn4 : ¬ (nI 7 = nI 4) := by decide
        have hn5 : ¬ (nI 7 = nI 5) := by decide
        have hn6 : ¬ (nI 7 = nI 6) := by decide
        refine lv_aload_n hx hb dX11_cartOf_112 rfl (lv_at hl 0 rfl) ?_
        refine lv_iload_n hx hb dX11_cartOf_113 rfl (lv_at hl 1 rfl) ?_
        refine zVI [.int (nI (k1))] [] (kX11_creaking (o) (v) (R) (k1) (y) (show yI (y) from hy) (show RelI (y) (m_g v) from hq) (show (k1) < y_cn (y) from by omega)) hx hb hml hown hts (cwV 1 hts gX11_cartOf_X11_creaking rfl rfl rfl (by decide +kernel) ⟨(Nat.le_of_ble_eq_true rfl), (Nat.le_of_ble_eq_true rfl)⟩) hK hP hD hS hA (va_recv hK hP (ci := 10) (q0 := 0) rfl rfl) rfl hl.1 rfl (Nat.le_of_ble_eq_true rfl) dX11_cartOf_114 ⟨(Nat.le_of_ble_eq_true rfl), (Nat.le_of_ble_eq_true rfl)⟩ (fun r_114 _ H locs hr_114 hP hD hS => ?_)
        subst hr_114
        have hP : va_P D vwCl (MW ct o v R) H := hP
        have hD : va_D A (MW ct o v R) := hD
        have q114 := t_cr_le (y) (k1)
        exact zIret () hx hb hr hlocks hK hP hD hS dX11_cartOf_117 (show nI (t_cr (y) (k1)) = a_cart y (nI k1) (nI 7) from (by simp only [a_cart, oc_pn, ixI, c5_1, hclk1, hn0, hn1, hn2, hn3, hn4, hn5, hn6, p_in, p_worn, p_wi, p_creak, p_le0, p_lt1, p_rng, not_true_eq_false, not_false_eq_true, if_true, if_false, and_true, true_and, and_false, false_and, or_true, true_or, or_false, false_or, and_self, or_self, iff_true, true_iff, iff_false, false_iff, decide_eq_true_eq, decide_true, decide_false, Int32.add_zero, Nat.add_zero, ne_eq, Bool.false_eq_true, eq_self]))
  · skip
    refine lv_iconst (v := (-1)) hx hb dX11_cartOf_8 (by decide) ?_
    exact zIret () hx hb hr hlocks hK hP hD hS dX11_cartOf_9 (show (-1) = a_cart y x1 x2 from (by simp only [a_cart, oc_pn, ixI, c5_1, p_in, p_worn, p_wi, p_creak, p_le0, p_lt1, p_rng, not_true_eq_false, not_false_eq_true, if_true, if_false, and_true, true_and, and_false, false_and, or_true, true_or, or_false, false_or, and_self, or_self, iff_true, true_iff, iff_false, false_iff, decide_eq_true_eq, decide_true, decide_false, Int32.add_zero, Nat.add_zero, ne_eq, Bool.false_eq_true, eq_self]))
abbrev rmX11_at : Room := { frames := 3, cells := 0, slots := 0, locals := 67 }
set_option maxHeartbeats 4000000 in
set_option maxRecDepth 100000 in
theorem kX11_at {D : va_G} {ct : Nat → ClassId} {l : Launch} (o : Nat → Nat) (v : MS) (R : va_W) (x1 : Int32) (x2 : Int32) (y : YS) (hy : yI y) (hq : RelI y (m_g v)) : MI D ct l yX11_at wsX11_at rmX11_at (MW ct o v R) [.ref (o 0), .int (x1), .int (x2)] (fun r0 (_ : Unit) => r0 = a_at y x1 x2) (fun _ : Unit => MW ct o v R) := by
  refine MIof (cc := cX11_at) (maxL := 3) (ret := (some .int)) (by decide) rfl (Nat.le_of_ble_eq_true rfl) ?_
  intro p e s m args below meth c A H locs F hP hK hD hS hA ls hl
  obtain ⟨hx, hb, hr, hlocks, hml, hown, hts, hin⟩ := F
  have hl : lv_has ls 3 [(0, .ref (o 0)), (1, .int (x1)), (2, .int (x2))] := hl
  have hB : y_n y ≤ 12 ∧ y_cn y ≤ 4 ∧ y_rn y ≤ 5 := ⟨hy.1, hy.2.1, hy.2.2.1⟩
  have hn : y_n y ≤ 12 := hy.1
  have hcn : y_cn y ≤ 4 := hy.2.1
  have hrn : y_rn y ≤ 5 := hy.2.2.1
  refine lv_aload_n hx hb dX11_at_0 rfl (lv_at hl 0 rfl) ?_
  refine lv_iload_n hx hb dX11_at_1 rfl (lv_at hl 1 rfl) ?_
  refine zVI [.int (x1)] [] (kX11_isCart (o) (v) (R) (x1) (y) (show y_n (y) ≤ 12 ∧ y_cn (y) ≤ 4 ∧ y_rn (y) ≤ 5 from hB) (show RelI (y) (m_g v) from hq)) hx hb hml hown hts (cwV 1 hts gX11_at_X11_isCart rfl rfl rfl (by decide +kernel) ⟨(Nat.le_of_ble_eq_true rfl), (Nat.le_of_ble_eq_true rfl)⟩) hK hP hD hS hA (va_recv hK hP (ci := 10) (q0 := 0) rfl rfl) rfl hl.1 rfl (Nat.le_of_ble_eq_true rfl) dX11_at_2 ⟨(Nat.le_of_ble_eq_true rfl), (Nat.le_of_ble_eq_true rfl)⟩ (fun r_2 _ H locs hr_2 hP hD hS => ?_)
  subst hr_2
  have hP : va_P D vwCl (MW ct o v R) H := hP
  have hD : va_D A (MW ct o v R) := hD
  refine zB_if_ne (tgt := 12) hx hb dX11_at_5 (by decide) (fun c5_1 => ?_) (fun c5_1 => ?_)
  · skip
    obtain ⟨k1, hk1, ek1⟩ := p_in_ex (n := y_cn y) (by omega) c5_1
    subst ek1
    have hclk1 : (nI k1).toNatClampNeg = k1 := nI_clamp (by omega)
    refine lv_iload_n hx hb dX11_at_12 rfl (lv_at hl 2 rfl) ?_
    refine lv_iconst (v := nI (0)) hx hb dX11_at_13 (by decide) ?_
    refine lv_bipush (v := nI (6)) hx hb dX11_at_14 (by decide) ?_
    refine zSI [.int (x2), .int (nI (0)), .int (nI (6))] [] (kX11_in (MW ct o v R) (x2) (nI (0)) (nI (6))) hx hb hml hown hts (va_cwS 3 hts gX11_at_X11_in rfl rfl rfl (by decide +kernel) ⟨(Nat.le_of_ble_eq_true rfl), (Nat.le_of_ble_eq_true rfl)⟩) hK hP hD hS hA rfl hl.1 rfl (Nat.le_of_ble_eq_true rfl) dX11_at_16 ⟨(Nat.le_of_ble_eq_true rfl), (Nat.le_of_ble_eq_true rfl)⟩ (fun r_16 _ H locs hr_16 hP hD hS => ?_)
    subst hr_16
    have hP : va_P D vwCl (MW ct o v R) H := hP
    have hD : va_D A (MW ct o v R) := hD
    refine zB_if_eq (tgt := 31) hx hb dX11_at_19 (by decide) (fun c19_2 => ?_) (fun c19_2 => ?_)
    · skip
      refine lv_bipush (v := (-2)) hx hb dX11_at_31 (by decide) ?_
      exact zIret () hx hb hr hlocks hK hP hD hS dX11_at_33 (show (-2) = a_at y (nI k1) x2 from (by simp only [a_at, ixI, c5_1, hclk1, c19_2, rng_out c19_2, p_in, p_worn, p_wi, p_creak, p_le0, p_lt1, p_rng, not_true_eq_false, not_false_eq_true, if_true, if_false, and_true, true_and, and_false, false_and, or_true, true_or, or_false, false_or, and_self, or_self, iff_true, true_iff, iff_false, false_iff, decide_eq_true_eq, decide_true, decide_false, Int32.add_zero, Nat.add_zero, ne_eq, Bool.false_eq_true, eq_self]))
    · skip
      refine lv_aload_n hx hb dX11_at_22 rfl (lv_at hl 0 rfl) ?_
      refine lv_iload_n hx hb dX11_at_23 rfl (lv_at hl 1 rfl) ?_
      refine lv_iload_n hx hb dX11_at_24 rfl (lv_at hl 2 rfl) ?_
      refine zVI [.int (nI (k1)), .int (x2)] [] (kX11_thingAt (o) (v) (R) (k1) (x2) (y) (show y_n (y) ≤ 12 ∧ y_cn (y) ≤ 4 ∧ y_rn (y) ≤ 5 from hB) (show RelI (y) (m_g v) from hq) (show (k1) < 4 from by omega)) hx hb hml hown hts (cwV 2 hts gX11_at_X11_thingAt rfl rfl rfl (by decide +kernel) ⟨(Nat.le_of_ble_eq_true rfl), (Nat.le_of_ble_eq_true rfl)⟩) hK hP hD hS hA (va_recv hK hP (ci := 10) (q0 := 0) rfl rfl) rfl hl.1 rfl (Nat.le_of_ble_eq_true rfl) dX11_at_25 ⟨(Nat.le_of_ble_eq_true rfl), (Nat.le_of_ble_eq_true rfl)⟩ (fun r_25 _ H locs hr_25 hP hD hS => ?_)
      subst hr_25
      have hP : va_P D vwCl (MW ct o v R) H := hP
      have hD : va_D A (MW ct o v R) := hD
      refine lv_goto (tgt := 33) hx hb dX11_at_28 (by decide) ?_
      exact zIret () hx hb hr hlocks hK hP hD hS dX11_at_33 (show (t_at (y) (nI (k1)) (x2)) = a_at y (nI k1) x2 from (by simp only [a_at, ixI, c5_1, hclk1, c19_2, rng_in2 c19_2, p_in, p_worn, p_wi, p_creak, p_le0, p_lt1, p_rng, not_true_eq_false, not_false_eq_true, if_true, if_false, and_true, true_and, and_false, false_and, or_true, true_or, or_false, false_or, and_self, or_self, iff_true, true_iff, iff_false, false_iff, decide_eq_true_eq, decide_true, decide_false, Int32.add_zero, Nat.add_zero, ne_eq, Bool.false_eq_true, eq_self]))
  · skip
    refine lv_iconst (v := (-1)) hx hb dX11_at_8 (by decide) ?_
    refine lv_goto (tgt := 33) hx hb dX11_at_9 (by decide) ?_
    exact zIret () hx hb hr hlocks hK hP hD hS dX11_at_33 (show (-1) = a_at y x1 x2 from (by simp only [a_at, ixI, c5_1, p_in, p_worn, p_wi, p_creak, p_le0, p_lt1, p_rng, not_true_eq_false, not_false_eq_true, if_true, if_false, and_true, true_and, and_false, false_and, or_true, true_or, or_false, false_or, and_self, or_self, iff_true, true_iff, iff_false, false_iff, decide_eq_true_eq, decide_true, decide_false, Int32.add_zero, Nat.add_zero, ne_eq, Bool.false_eq_true, eq_self]))
abbrev rmX11_roadOf : Room := { frames := 2, cells := 0, slots := 0, locals := 43 }
set_option maxHeartbeats 4000000 in
set_option maxRecDepth 100000 in
theorem kX11_roadOf {D : va_G} {ct : Nat → ClassId} {l : Launch} (o : Nat → Nat) (v : MS) (R : va_W) (x1 : Int32) (x2 : Int32) (y : YS) (hy : yI y) (hq : RelI y (m_g v)) (hrt : ∀ r, r < y_rn y → m_g v (61 + 4 * r + 3) = y_rt y r) : MI D ct l yX11_roadOf wsX11_roadOf rmX11_roadOf (MW ct o v R) [.ref (o 0), .int (x1), .int (x2)] (fun r0 (_ : Unit) => r0 = a_road y x1 x2) (fun _ : Unit => MW ct o v R) := by
  refine MIof (cc := cX11_roadOf) (maxL := 3) (ret := (some .int)) (by decide) rfl (Nat.le_of_ble_eq_true rfl) ?_
  intro p e s m args below meth c A H locs F hP hK hD hS hA ls hl
  obtain ⟨hx, hb, hr, hlocks, hml, hown, hts, hin⟩ := F
  have hl : lv_has ls 3 [(0, .ref (o 0)), (1, .int (x1)), (2, .int (x2))] := hl
  have hB : y_n y ≤ 12 ∧ y_cn y ≤ 4 ∧ y_rn y ≤ 5 := ⟨hy.1, hy.2.1, hy.2.2.1⟩
  have hn : y_n y ≤ 12 := hy.1
  have hcn : y_cn y ≤ 4 := hy.2.1
  have hrn : y_rn y ≤ 5 := hy.2.2.1
  refine lv_aload_n hx hb dX11_roadOf_0 rfl (lv_at hl 0 rfl) ?_
  refine lv_iload_n hx hb dX11_roadOf_1 rfl (lv_at hl 1 rfl) ?_
  refine zVI [.int (x1)] [] (kX11_isRoad (o) (v) (R) (x1) (y) (show y_n (y) ≤ 12 ∧ y_cn (y) ≤ 4 ∧ y_rn (y) ≤ 5 from hB) (show RelI (y) (m_g v) from hq)) hx hb hml hown hts (cwV 1 hts gX11_roadOf_X11_isRoad rfl rfl rfl (by decide +kernel) ⟨(Nat.le_of_ble_eq_true rfl), (Nat.le_of_ble_eq_true rfl)⟩) hK hP hD hS hA (va_recv hK hP (ci := 10) (q0 := 0) rfl rfl) rfl hl.1 rfl (Nat.le_of_ble_eq_true rfl) dX11_roadOf_2 ⟨(Nat.le_of_ble_eq_true rfl), (Nat.le_of_ble_eq_true rfl)⟩ (fun r_2 _ H locs hr_2 hP hD hS => ?_)
  subst hr_2
  have hP : va_P D vwCl (MW ct o v R) H := hP
  have hD : va_D A (MW ct o v R) := hD
  refine zB_if_ne (tgt := 12) hx hb dX11_roadOf_5 (by decide) (fun c5_1 => ?_) (fun c5_1 => ?_)
  · skip
    obtain ⟨k1, hk1, ek1⟩ := p_in_ex (n := y_rn y) (by omega) c5_1
    subst ek1
    have hclk1 : (nI k1).toNatClampNeg = k1 := nI_clamp (by omega)
    refine lv_iload_n hx hb dX11_roadOf_12 rfl (lv_at hl 2 rfl) ?_
    refine lv_iconst (v := nI (0)) hx hb dX11_roadOf_13 (by decide) ?_
    refine lv_iconst (v := nI (3)) hx hb dX11_roadOf_14 (by decide) ?_
    refine zSI [.int (x2), .int (nI (0)), .int (nI (3))] [] (kX11_in (MW ct o v R) (x2) (nI (0)) (nI (3))) hx hb hml hown hts (va_cwS 3 hts gX11_roadOf_X11_in rfl rfl rfl (by decide +kernel) ⟨(Nat.le_of_ble_eq_true rfl), (Nat.le_of_ble_eq_true rfl)⟩) hK hP hD hS hA rfl hl.1 rfl (Nat.le_of_ble_eq_true rfl) dX11_roadOf_15 ⟨(Nat.le_of_ble_eq_true rfl), (Nat.le_of_ble_eq_true rfl)⟩ (fun r_15 _ H locs hr_15 hP hD hS => ?_)
    subst hr_15
    have hP : va_P D vwCl (MW ct o v R) H := hP
    have hD : va_D A (MW ct o v R) := hD
    refine zB_if_eq (tgt := 30) hx hb dX11_roadOf_18 (by decide) (fun c18_2 => ?_) (fun c18_2 => ?_)
    · skip
      refine lv_bipush (v := (-2)) hx hb dX11_roadOf_30 (by decide) ?_
      exact zIret () hx hb hr hlocks hK hP hD hS dX11_roadOf_32 (show (-2) = a_road y (nI k1) x2 from (by simp only [a_road, ixI, c5_1, hclk1, c18_2, rng_ne (j := 0) (by decide) (by decide) c18_2, rng_ne (j := 1) (by decide) (by decide) c18_2, rng_ne (j := 2) (by decide) (by decide) c18_2, rng_ne (j := 3) (by decide) (by decide) c18_2, p_in, p_worn, p_wi, p_creak, p_le0, p_lt1, p_rng, not_true_eq_false, not_false_eq_true, if_true, if_false, and_true, true_and, and_false, false_and, or_true, true_or, or_false, false_or, and_self, or_self, iff_true, true_iff, iff_false, false_iff, decide_eq_true_eq, decide_true, decide_false, Int32.add_zero, Nat.add_zero, ne_eq, Bool.false_eq_true, eq_self]))
    · skip
      obtain ⟨j, hj, ej⟩ := rng_ex (by decide) (by decide) c18_2
      rcases (show j = 0 ∨ j = 1 ∨ j = 2 ∨ j = 3 by omega) with rfl | rfl | rfl | rfl
      · subst ej
        refine lv_aload_n hx hb dX11_roadOf_21 rfl (lv_at hl 0 rfl) ?_
        refine lv_iload_n hx hb dX11_roadOf_22 rfl (lv_at hl 1 rfl) ?_
        refine lv_iload_n hx hb dX11_roadOf_23 rfl (lv_at hl 2 rfl) ?_
        refine zVI [.int (nI (k1)), .int (nI (0))] [] (kX11_r (o) (v) (R) (k1) (0) (show (k1) < 5 from by omega) (show (0) < 4 from by omega)) hx hb hml hown hts (cwV 2 hts gX11_roadOf_X11_r rfl rfl rfl (by decide +kernel) ⟨(Nat.le_of_ble_eq_true rfl), (Nat.le_of_ble_eq_true rfl)⟩) hK hP hD hS hA (va_recv hK hP (ci := 10) (q0 := 0) rfl rfl) rfl hl.1 rfl (Nat.le_of_ble_eq_true rfl) dX11_roadOf_24 ⟨(Nat.le_of_ble_eq_true rfl), (Nat.le_of_ble_eq_true rfl)⟩ (fun r_24 _ H locs hr_24 hP hD hS => ?_)
        subst hr_24
        have hP : va_P D vwCl (MW ct o v R) H := hP
        have hD : va_D A (MW ct o v R) := hD
        refine zTop (y := (y_li y (k1))) (hq.2.2.2.2.2 k1 (by omega)).1 ?_
        refine lv_goto (tgt := 32) hx hb dX11_roadOf_27 (by decide) ?_
        exact zIret () hx hb hr hlocks hK hP hD hS dX11_roadOf_32 (show (y_li y (k1)) = a_road y (nI k1) (nI 0) from (by simp only [a_road, ixI, c5_1, hclk1, c18_2, p_in, p_worn, p_wi, p_creak, p_le0, p_lt1, p_rng, not_true_eq_false, not_false_eq_true, if_true, if_false, and_true, true_and, and_false, false_and, or_true, true_or, or_false, false_or, and_self, or_self, iff_true, true_iff, iff_false, false_iff, decide_eq_true_eq, decide_true, decide_false, Int32.add_zero, Nat.add_zero, ne_eq, Bool.false_eq_true, eq_self]))
      · subst ej
        have hn0 : ¬ (nI 1 = nI 0) := by decide
        refine lv_aload_n hx hb dX11_roadOf_21 rfl (lv_at hl 0 rfl) ?_
        refine lv_iload_n hx hb dX11_roadOf_22 rfl (lv_at hl 1 rfl) ?_
        refine lv_iload_n hx hb dX11_roadOf_23 rfl (lv_at hl 2 rfl) ?_
        refine zVI [.int (nI (k1)), .int (nI (1))] [] (kX11_r (o) (v) (R) (k1) (1) (show (k1) < 5 from by omega) (show (1) < 4 from by omega)) hx hb hml hown hts (cwV 2 hts gX11_roadOf_X11_r rfl rfl rfl (by decide +kernel) ⟨(Nat.le_of_ble_eq_true rfl), (Nat.le_of_ble_eq_true rfl)⟩) hK hP hD hS hA (va_recv hK hP (ci := 10) (q0 := 0) rfl rfl) rfl hl.1 rfl (Nat.le_of_ble_eq_true rfl) dX11_roadOf_24 ⟨(Nat.le_of_ble_eq_true rfl), (Nat.le_of_ble_eq_true rfl)⟩ (fun r_24 _ H locs hr_24 hP hD hS => ?_)
        subst hr_24
        have hP : va_P D vwCl (MW ct o v R) H := hP
        have hD : va_D A (MW ct o v R) := hD
        refine zTop (y := (y_mi y (k1))) (hq.2.2.2.2.2 k1 (by omega)).2.1 ?_
        refine lv_goto (tgt := 32) hx hb dX11_roadOf_27 (by decide) ?_
        exact zIret () hx hb hr hlocks hK hP hD hS dX11_roadOf_32 (show (y_mi y (k1)) = a_road y (nI k1) (nI 1) from (by simp only [a_road, ixI, c5_1, hclk1, c18_2, hn0, p_in, p_worn, p_wi, p_creak, p_le0, p_lt1, p_rng, not_true_eq_false, not_false_eq_true, if_true, if_false, and_true, true_and, and_false, false_and, or_true, true_or, or_false, false_or, and_self, or_self, iff_true, true_iff, iff_false, false_iff, decide_eq_true_eq, decide_true, decide_false, Int32.add_zero, Nat.add_zero, ne_eq, Bool.false_eq_true, eq_self]))
      · subst ej
        have hn0 : ¬ (nI 2 = nI 0) := by decide
        have hn1 : ¬ (nI 2 = nI 1) := by decide
        refine lv_aload_n hx hb dX11_roadOf_21 rfl (lv_at hl 0 rfl) ?_
        refine lv_iload_n hx hb dX11_roadOf_22 rfl (lv_at hl 1 rfl) ?_
        refine lv_iload_n hx hb dX11_roadOf_23 rfl (lv_at hl 2 rfl) ?_
        refine zVI [.int (nI (k1)), .int (nI (2))] [] (kX11_r (o) (v) (R) (k1) (2) (show (k1) < 5 from by omega) (show (2) < 4 from by omega)) hx hb hml hown hts (cwV 2 hts gX11_roadOf_X11_r rfl rfl rfl (by decide +kernel) ⟨(Nat.le_of_ble_eq_true rfl), (Nat.le_of_ble_eq_true rfl)⟩) hK hP hD hS hA (va_recv hK hP (ci := 10) (q0 := 0) rfl rfl) rfl hl.1 rfl (Nat.le_of_ble_eq_true rfl) dX11_roadOf_24 ⟨(Nat.le_of_ble_eq_true rfl), (Nat.le_of_ble_eq_true rfl)⟩ (fun r_24 _ H locs hr_24 hP hD hS => ?_)
        subst hr_24
        have hP : va_P D vwCl (MW ct o v R) H := hP
        have hD : va_D A (MW ct o v R) := hD
        refine zTop (y := (y_ra y (k1))) (hq.2.2.2.2.2 k1 (by omega)).2.2 ?_
        refine lv_goto (tgt := 32) hx hb dX11_roadOf_27 (by decide) ?_
        exact zIret () hx hb hr hlocks hK hP hD hS dX11_roadOf_32 (show (y_ra y (k1)) = a_road y (nI k1) (nI 2) from (by simp only [a_road, ixI, c5_1, hclk1, c18_2, hn0, hn1, p_in, p_worn, p_wi, p_creak, p_le0, p_lt1, p_rng, not_true_eq_false, not_false_eq_true, if_true, if_false, and_true, true_and, and_false, false_and, or_true, true_or, or_false, false_or, and_self, or_self, iff_true, true_iff, iff_false, false_iff, decide_eq_true_eq, decide_true, decide_false, Int32.add_zero, Nat.add_zero, ne_eq, Bool.false_eq_true, eq_self]))
      · subst ej
        have hn0 : ¬ (nI 3 = nI 0) := by decide
        have hn1 : ¬ (nI 3 = nI 1) := by decide
        have hn2 : ¬ (nI 3 = nI 2) := by decide
        refine lv_aload_n hx hb dX11_roadOf_21 rfl (lv_at hl 0 rfl) ?_
        refine lv_iload_n hx hb dX11_roadOf_22 rfl (lv_at hl 1 rfl) ?_
        refine lv_iload_n hx hb dX11_roadOf_23 rfl (lv_at hl 2 rfl) ?_
        refine zVI [.int (nI (k1)), .int (nI (3))] [] (kX11_r (o) (v) (R) (k1) (3) (show (k1) < 5 from by omega) (show (3) < 4 from by omega)) hx hb hml hown hts (cwV 2 hts gX11_roadOf_X11_r rfl rfl rfl (by decide +kernel) ⟨(Nat.le_of_ble_eq_true rfl), (Nat.le_of_ble_eq_true rfl)⟩) hK hP hD hS hA (va_recv hK hP (ci := 10) (q0 := 0) rfl rfl) rfl hl.1 rfl (Nat.le_of_ble_eq_true rfl) dX11_roadOf_24 ⟨(Nat.le_of_ble_eq_true rfl), (Nat.le_of_ble_eq_true rfl)⟩ (fun r_24 _ H locs hr_24 hP hD hS => ?_)
        subst hr_24
        have hP : va_P D vwCl (MW ct o v R) H := hP
        have hD : va_D A (MW ct o v R) := hD
        refine lv_goto (tgt := 32) hx hb dX11_roadOf_27 (by decide) ?_
        exact zIret () hx hb hr hlocks hK hP hD hS dX11_roadOf_32 (show (m_g v (61 + 4 * (k1) + (3))) = a_road y (nI k1) (nI 3) from ((hrt k1 hk1).trans (by simp only [a_road, ixI, c5_1, hclk1, c18_2, hn0, hn1, hn2, p_in, p_worn, p_wi, p_creak, p_le0, p_lt1, p_rng, not_true_eq_false, not_false_eq_true, if_true, if_false, and_true, true_and, and_false, false_and, or_true, true_or, or_false, false_or, and_self, or_self, iff_true, true_iff, iff_false, false_iff, decide_eq_true_eq, decide_true, decide_false, Int32.add_zero, Nat.add_zero, ne_eq, Bool.false_eq_true, eq_self])))
  · skip
    refine lv_iconst (v := (-1)) hx hb dX11_roadOf_8 (by decide) ?_
    refine lv_goto (tgt := 32) hx hb dX11_roadOf_9 (by decide) ?_
    exact zIret () hx hb hr hlocks hK hP hD hS dX11_roadOf_32 (show (-1) = a_road y x1 x2 from (by simp only [a_road, ixI, c5_1, p_in, p_worn, p_wi, p_creak, p_le0, p_lt1, p_rng, not_true_eq_false, not_false_eq_true, if_true, if_false, and_true, true_and, and_false, false_and, or_true, true_or, or_false, false_or, and_self, or_self, iff_true, true_iff, iff_false, false_iff, decide_eq_true_eq, decide_true, decide_false, Int32.add_zero, Nat.add_zero, ne_eq, Bool.false_eq_true, eq_self]))
abbrev rmX11_tenths : Room := { frames := 3, cells := 0, slots := 0, locals := 69 }
set_option maxHeartbeats 4000000 in
set_option maxRecDepth 100000 in
theorem kX11_tenths {D : va_G} {ct : Nat → ClassId} {l : Launch} (o : Nat → Nat) (v : MS) (R : va_W) (x1 : Int32) (x2 : Int32) (y : YS) (hy : yI y) (hq : RelI y (m_g v)) : MI D ct l yX11_tenths wsX11_tenths rmX11_tenths (MW ct o v R) [.ref (o 0), .int (x1), .int (x2)] (fun r0 (_ : Unit) => r0 = a_ten y x1 x2) (fun _ : Unit => MW ct o v R) := by
  refine MIof (cc := cX11_tenths) (maxL := 3) (ret := (some .int)) (by decide) rfl (Nat.le_of_ble_eq_true rfl) ?_
  intro p e s m args below meth c A H locs F hP hK hD hS hA ls hl
  obtain ⟨hx, hb, hr, hlocks, hml, hown, hts, hin⟩ := F
  have hl : lv_has ls 3 [(0, .ref (o 0)), (1, .int (x1)), (2, .int (x2))] := hl
  have hB : y_n y ≤ 12 ∧ y_cn y ≤ 4 ∧ y_rn y ≤ 5 := ⟨hy.1, hy.2.1, hy.2.2.1⟩
  have hn : y_n y ≤ 12 := hy.1
  have hcn : y_cn y ≤ 4 := hy.2.1
  have hrn : y_rn y ≤ 5 := hy.2.2.1
  refine lv_aload_n hx hb dX11_tenths_0 rfl (lv_at hl 0 rfl) ?_
  refine lv_iload_n hx hb dX11_tenths_1 rfl (lv_at hl 1 rfl) ?_
  refine zVI [.int (x1)] [] (kX11_isCart (o) (v) (R) (x1) (y) (show y_n (y) ≤ 12 ∧ y_cn (y) ≤ 4 ∧ y_rn (y) ≤ 5 from hB) (show RelI (y) (m_g v) from hq)) hx hb hml hown hts (cwV 1 hts gX11_tenths_X11_isCart rfl rfl rfl (by decide +kernel) ⟨(Nat.le_of_ble_eq_true rfl), (Nat.le_of_ble_eq_true rfl)⟩) hK hP hD hS hA (va_recv hK hP (ci := 10) (q0 := 0) rfl rfl) rfl hl.1 rfl (Nat.le_of_ble_eq_true rfl) dX11_tenths_2 ⟨(Nat.le_of_ble_eq_true rfl), (Nat.le_of_ble_eq_true rfl)⟩ (fun r_2 _ H locs hr_2 hP hD hS => ?_)
  subst hr_2
  have hP : va_P D vwCl (MW ct o v R) H := hP
  have hD : va_D A (MW ct o v R) := hD
  refine zB_if_eq (tgt := 17) hx hb dX11_tenths_5 (by decide) (fun c5_1 => ?_) (fun c5_1 => ?_)
  · skip
    refine lv_iconst (v := (-1)) hx hb dX11_tenths_17 (by decide) ?_
    exact zIret () hx hb hr hlocks hK hP hD hS dX11_tenths_18 (show (-1) = a_ten y x1 x2 from (by simp only [a_ten, ixI, c5_1, p_in, p_worn, p_wi, p_creak, p_le0, p_lt1, p_rng, not_true_eq_false, not_false_eq_true, if_true, if_false, and_true, true_and, and_false, false_and, or_true, true_or, or_false, false_or, and_self, or_self, iff_true, true_iff, iff_false, false_iff, decide_eq_true_eq, decide_true, decide_false, Int32.add_zero, Nat.add_zero, ne_eq, Bool.false_eq_true, eq_self]))
  · skip
    obtain ⟨k1, hk1, ek1⟩ := p_in_ex (n := y_cn y) (by omega) c5_1
    subst ek1
    have hclk1 : (nI k1).toNatClampNeg = k1 := nI_clamp (by omega)
    refine lv_aload_n hx hb dX11_tenths_8 rfl (lv_at hl 0 rfl) ?_
    refine lv_iload_n hx hb dX11_tenths_9 rfl (lv_at hl 1 rfl) ?_
    refine lv_iload_n hx hb dX11_tenths_10 rfl (lv_at hl 2 rfl) ?_
    refine zVI [.int (nI (k1)), .int (x2)] [] (kX11_tenthsOf (o) (v) (R) (k1) (x2) (y) (show y_n (y) ≤ 12 ∧ y_cn (y) ≤ 4 ∧ y_rn (y) ≤ 5 from hB) (show RelI (y) (m_g v) from hq) (show (k1) < 4 from by omega)) hx hb hml hown hts (cwV 2 hts gX11_tenths_X11_tenthsOf rfl rfl rfl (by decide +kernel) ⟨(Nat.le_of_ble_eq_true rfl), (Nat.le_of_ble_eq_true rfl)⟩) hK hP hD hS hA (va_recv hK hP (ci := 10) (q0 := 0) rfl rfl) rfl hl.1 rfl (Nat.le_of_ble_eq_true rfl) dX11_tenths_11 ⟨(Nat.le_of_ble_eq_true rfl), (Nat.le_of_ble_eq_true rfl)⟩ (fun r_11 _ H locs hr_11 hP hD hS => ?_)
    subst hr_11
    have hP : va_P D vwCl (MW ct o v R) H := hP
    have hD : va_D A (MW ct o v R) := hD
    refine lv_goto (tgt := 18) hx hb dX11_tenths_14 (by decide) ?_
    exact zIret () hx hb hr hlocks hK hP hD hS dX11_tenths_18 (show (t_te (y) (nI (k1)) (x2)) = a_ten y (nI k1) x2 from (by simp only [a_ten, ixI, c5_1, hclk1, p_in, p_worn, p_wi, p_creak, p_le0, p_lt1, p_rng, not_true_eq_false, not_false_eq_true, if_true, if_false, and_true, true_and, and_false, false_and, or_true, true_or, or_false, false_or, and_self, or_self, iff_true, true_iff, iff_false, false_iff, decide_eq_true_eq, decide_true, decide_false, Int32.add_zero, Nat.add_zero, ne_eq, Bool.false_eq_true, eq_self]))
abbrev rmX11_tenthsAgain : Room := { frames := 4, cells := 0, slots := 0, locals := 91 }
set_option maxHeartbeats 4000000 in
set_option maxRecDepth 100000 in
theorem kX11_tenthsAgain {D : va_G} {ct : Nat → ClassId} {l : Launch} (o : Nat → Nat) (v : MS) (R : va_W) (x1 : Int32) (x2 : Int32) (y : YS) (hy : yI y) (hq : RelI y (m_g v)) : MI D ct l yX11_tenthsAgain wsX11_tenthsAgain rmX11_tenthsAgain (MW ct o v R) [.ref (o 0), .int (x1), .int (x2)] (fun r0 (_ : Unit) => r0 = a_ten y x1 x2) (fun _ : Unit => MW ct o v R) := by
  refine MIof (cc := cX11_tenthsAgain) (maxL := 3) (ret := (some .int)) (by decide) rfl (Nat.le_of_ble_eq_true rfl) ?_
  intro p e s m args below meth c A H locs F hP hK hD hS hA ls hl
  obtain ⟨hx, hb, hr, hlocks, hml, hown, hts, hin⟩ := F
  have hl : lv_has ls 3 [(0, .ref (o 0)), (1, .int (x1)), (2, .int (x2))] := hl
  have hB : y_n y ≤ 12 ∧ y_cn y ≤ 4 ∧ y_rn y ≤ 5 := ⟨hy.1, hy.2.1, hy.2.2.1⟩
  have hn : y_n y ≤ 12 := hy.1
  have hcn : y_cn y ≤ 4 := hy.2.1
  have hrn : y_rn y ≤ 5 := hy.2.2.1
  refine lv_aload_n hx hb dX11_tenthsAgain_0 rfl (lv_at hl 0 rfl) ?_
  refine lv_iload_n hx hb dX11_tenthsAgain_1 rfl (lv_at hl 1 rfl) ?_
  refine lv_iload_n hx hb dX11_tenthsAgain_2 rfl (lv_at hl 2 rfl) ?_
  refine zVI [.int (x1), .int (x2)] [] (kX11_tenths (o) (v) (R) (x1) (x2) (y) (show yI (y) from hy) (show RelI (y) (m_g v) from hq)) hx hb hml hown hts (cwV 2 hts gX11_tenthsAgain_X11_tenths rfl rfl rfl (by decide +kernel) ⟨(Nat.le_of_ble_eq_true rfl), (Nat.le_of_ble_eq_true rfl)⟩) hK hP hD hS hA (va_recv hK hP (ci := 10) (q0 := 0) rfl rfl) rfl hl.1 rfl (Nat.le_of_ble_eq_true rfl) dX11_tenthsAgain_3 ⟨(Nat.le_of_ble_eq_true rfl), (Nat.le_of_ble_eq_true rfl)⟩ (fun r_3 _ H locs hr_3 hP hD hS => ?_)
  subst hr_3
  have hP : va_P D vwCl (MW ct o v R) H := hP
  have hD : va_D A (MW ct o v R) := hD
  exact zIret () hx hb hr hlocks hK hP hD hS dX11_tenthsAgain_6 (show (a_ten (y) (x1) (x2)) = a_ten y x1 x2 from rfl)
abbrev rmX11_axle : Room := { frames := 4, cells := 0, slots := 0, locals := 91 }
set_option maxHeartbeats 4000000 in
set_option maxRecDepth 100000 in
theorem kX11_axle {D : va_G} {ct : Nat → ClassId} {l : Launch} (o : Nat → Nat) (v : MS) (R : va_W) (x1 : Int32) (x2 : Int32) (y : YS) (hy : yI y) (hq : RelI y (m_g v)) : MF D ct l yX11_axle wsX11_axle rmX11_axle (MW ct o v R) [.ref (o 0), .int (x1), .int (x2)] (fun r0 (_ : Unit) => r0 = a_axle y x1 x2) (fun _ : Unit => MW ct o v R) := by
  refine MFof (cc := cX11_axle) (maxL := 3) (ret := (some .float)) (by decide) rfl (Nat.le_of_ble_eq_true rfl) ?_
  intro p e s m args below meth c A H locs F hP hK hD hS hA ls hl
  obtain ⟨hx, hb, hr, hlocks, hml, hown, hts, hin⟩ := F
  have hl : lv_has ls 3 [(0, .ref (o 0)), (1, .int (x1)), (2, .int (x2))] := hl
  have hB : y_n y ≤ 12 ∧ y_cn y ≤ 4 ∧ y_rn y ≤ 5 := ⟨hy.1, hy.2.1, hy.2.2.1⟩
  have hn : y_n y ≤ 12 := hy.1
  have hcn : y_cn y ≤ 4 := hy.2.1
  have hrn : y_rn y ≤ 5 := hy.2.2.1
  refine lv_aload_n hx hb dX11_axle_0 rfl (lv_at hl 0 rfl) ?_
  refine lv_iload_n hx hb dX11_axle_1 rfl (lv_at hl 1 rfl) ?_
  refine zVI [.int (x1)] [] (kX11_isCart (o) (v) (R) (x1) (y) (show y_n (y) ≤ 12 ∧ y_cn (y) ≤ 4 ∧ y_rn (y) ≤ 5 from hB) (show RelI (y) (m_g v) from hq)) hx hb hml hown hts (cwV 1 hts gX11_axle_X11_isCart rfl rfl rfl (by decide +kernel) ⟨(Nat.le_of_ble_eq_true rfl), (Nat.le_of_ble_eq_true rfl)⟩) hK hP hD hS hA (va_recv hK hP (ci := 10) (q0 := 0) rfl rfl) rfl hl.1 rfl (Nat.le_of_ble_eq_true rfl) dX11_axle_2 ⟨(Nat.le_of_ble_eq_true rfl), (Nat.le_of_ble_eq_true rfl)⟩ (fun r_2 _ H locs hr_2 hP hD hS => ?_)
  subst hr_2
  have hP : va_P D vwCl (MW ct o v R) H := hP
  have hD : va_D A (MW ct o v R) := hD
  refine zB_if_eq (tgt := 17) hx hb dX11_axle_5 (by decide) (fun c5_1 => ?_) (fun c5_1 => ?_)
  · skip
    refine lv_ldcf (v := 3212836864) hx hb hown (hts (.constantFloat RX11 168 (3212836864)) (by decide +kernel)) dX11_axle_17 ?_
    exact zFret () hx hb hr hlocks hK hP hD hS dX11_axle_19 (show 3212836864 = a_axle y x1 x2 from (by simp only [a_axle, ixI, c5_1, p_in, p_worn, p_wi, p_creak, p_le0, p_lt1, p_rng, not_true_eq_false, not_false_eq_true, if_true, if_false, and_true, true_and, and_false, false_and, or_true, true_or, or_false, false_or, and_self, or_self, iff_true, true_iff, iff_false, false_iff, decide_eq_true_eq, decide_true, decide_false, Int32.add_zero, Nat.add_zero, ne_eq, Bool.false_eq_true, eq_self]))
  · skip
    obtain ⟨k1, hk1, ek1⟩ := p_in_ex (n := y_cn y) (by omega) c5_1
    subst ek1
    have hclk1 : (nI k1).toNatClampNeg = k1 := nI_clamp (by omega)
    refine lv_aload_n hx hb dX11_axle_8 rfl (lv_at hl 0 rfl) ?_
    refine lv_iload_n hx hb dX11_axle_9 rfl (lv_at hl 1 rfl) ?_
    refine lv_iload_n hx hb dX11_axle_10 rfl (lv_at hl 2 rfl) ?_
    refine zVF [.int (nI (k1)), .int (x2)] [] (kX11_loadOf (o) (v) (R) (k1) (x2) (y) (show yI (y) from hy) (show RelI (y) (m_g v) from hq) (show (k1) < y_cn (y) from by omega)) hx hb hml hown hts (cwV 2 hts gX11_axle_X11_loadOf rfl rfl rfl (by decide +kernel) ⟨(Nat.le_of_ble_eq_true rfl), (Nat.le_of_ble_eq_true rfl)⟩) hK hP hD hS hA (va_recv hK hP (ci := 10) (q0 := 0) rfl rfl) rfl hl.1 rfl (Nat.le_of_ble_eq_true rfl) dX11_axle_11 ⟨(Nat.le_of_ble_eq_true rfl), (Nat.le_of_ble_eq_true rfl)⟩ (fun r_11 _ H locs hr_11 hP hD hS => ?_)
    subst hr_11
    have hP : va_P D vwCl (MW ct o v R) H := hP
    have hD : va_D A (MW ct o v R) := hD
    refine lv_goto (tgt := 19) hx hb dX11_axle_14 (by decide) ?_
    exact zFret () hx hb hr hlocks hK hP hD hS dX11_axle_19 (show (t_ld (y) (k1) (x2)) = a_axle y (nI k1) x2 from (by simp only [a_axle, ixI, c5_1, hclk1, p_in, p_worn, p_wi, p_creak, p_le0, p_lt1, p_rng, not_true_eq_false, not_false_eq_true, if_true, if_false, and_true, true_and, and_false, false_and, or_true, true_or, or_false, false_or, and_self, or_self, iff_true, true_iff, iff_false, false_iff, decide_eq_true_eq, decide_true, decide_false, Int32.add_zero, Nat.add_zero, ne_eq, Bool.false_eq_true, eq_self]))
abbrev rmX11_wear : Room := { frames := 2, cells := 0, slots := 0, locals := 43 }
set_option maxHeartbeats 4000000 in
set_option maxRecDepth 100000 in
theorem kX11_wear {D : va_G} {ct : Nat → ClassId} {l : Launch} (o : Nat → Nat) (v : MS) (R : va_W) (x1 : Int32) (x2 : Int32) (y : YS) (hy : yI y) (hq : RelI y (m_g v)) (hwr : ∀ j, j < 2 * y_cn y → m_fl v j = y_wr y j) : MF D ct l yX11_wear wsX11_wear rmX11_wear (MW ct o v R) [.ref (o 0), .int (x1), .int (x2)] (fun r0 (_ : Unit) => r0 = a_wear y x1 x2) (fun _ : Unit => MW ct o v R) := by
  refine MFof (cc := cX11_wear) (maxL := 3) (ret := (some .float)) (by decide) rfl (Nat.le_of_ble_eq_true rfl) ?_
  intro p e s m args below meth c A H locs F hP hK hD hS hA ls hl
  obtain ⟨hx, hb, hr, hlocks, hml, hown, hts, hin⟩ := F
  have hl : lv_has ls 3 [(0, .ref (o 0)), (1, .int (x1)), (2, .int (x2))] := hl
  have hB : y_n y ≤ 12 ∧ y_cn y ≤ 4 ∧ y_rn y ≤ 5 := ⟨hy.1, hy.2.1, hy.2.2.1⟩
  have hn : y_n y ≤ 12 := hy.1
  have hcn : y_cn y ≤ 4 := hy.2.1
  have hrn : y_rn y ≤ 5 := hy.2.2.1
  refine lv_aload_n hx hb dX11_wear_0 rfl (lv_at hl 0 rfl) ?_
  refine lv_iload_n hx hb dX11_wear_1 rfl (lv_at hl 1 rfl) ?_
  refine zVI [.int (x1)] [] (kX11_isCart (o) (v) (R) (x1) (y) (show y_n (y) ≤ 12 ∧ y_cn (y) ≤ 4 ∧ y_rn (y) ≤ 5 from hB) (show RelI (y) (m_g v) from hq)) hx hb hml hown hts (cwV 1 hts gX11_wear_X11_isCart rfl rfl rfl (by decide +kernel) ⟨(Nat.le_of_ble_eq_true rfl), (Nat.le_of_ble_eq_true rfl)⟩) hK hP hD hS hA (va_recv hK hP (ci := 10) (q0 := 0) rfl rfl) rfl hl.1 rfl (Nat.le_of_ble_eq_true rfl) dX11_wear_2 ⟨(Nat.le_of_ble_eq_true rfl), (Nat.le_of_ble_eq_true rfl)⟩ (fun r_2 _ H locs hr_2 hP hD hS => ?_)
  subst hr_2
  have hP : va_P D vwCl (MW ct o v R) H := hP
  have hD : va_D A (MW ct o v R) := hD
  refine zB_if_eq (tgt := 17) hx hb dX11_wear_5 (by decide) (fun c5_1 => ?_) (fun c5_1 => ?_)
  · skip
    refine lv_ldcf (v := 3212836864) hx hb hown (hts (.constantFloat RX11 168 (3212836864)) (by decide +kernel)) dX11_wear_17 ?_
    exact zFret () hx hb hr hlocks hK hP hD hS dX11_wear_19 (show 3212836864 = a_wear y x1 x2 from (by simp only [a_wear, ixI, c5_1, p_in, p_worn, p_wi, p_creak, p_le0, p_lt1, p_rng, not_true_eq_false, not_false_eq_true, if_true, if_false, and_true, true_and, and_false, false_and, or_true, true_or, or_false, false_or, and_self, or_self, iff_true, true_iff, iff_false, false_iff, decide_eq_true_eq, decide_true, decide_false, Int32.add_zero, Nat.add_zero, ne_eq, Bool.false_eq_true, eq_self]))
  · skip
    obtain ⟨k1, hk1, ek1⟩ := p_in_ex (n := y_cn y) (by omega) c5_1
    subst ek1
    have hclk1 : (nI k1).toNatClampNeg = k1 := nI_clamp (by omega)
    refine lv_aload_n hx hb dX11_wear_8 rfl (lv_at hl 0 rfl) ?_
    refine lv_iload_n hx hb dX11_wear_9 rfl (lv_at hl 1 rfl) ?_
    refine lv_iload_n hx hb dX11_wear_10 rfl (lv_at hl 2 rfl) ?_
    refine zVF [.int (nI (k1)), .int (x2)] [] (kX11_wearOf (o) (v) (R) (k1) (x2) (show (k1) < 4 from by omega)) hx hb hml hown hts (cwV 2 hts gX11_wear_X11_wearOf rfl rfl rfl (by decide +kernel) ⟨(Nat.le_of_ble_eq_true rfl), (Nat.le_of_ble_eq_true rfl)⟩) hK hP hD hS hA (va_recv hK hP (ci := 10) (q0 := 0) rfl rfl) rfl hl.1 rfl (Nat.le_of_ble_eq_true rfl) dX11_wear_11 ⟨(Nat.le_of_ble_eq_true rfl), (Nat.le_of_ble_eq_true rfl)⟩ (fun r_11 _ H locs hr_11 hP hD hS => ?_)
    subst hr_11
    have hP : va_P D vwCl (MW ct o v R) H := hP
    have hD : va_D A (MW ct o v R) := hD
    refine lv_goto (tgt := 19) hx hb dX11_wear_14 (by decide) ?_
    exact zFret () hx hb hr hlocks hK hP hD hS dX11_wear_19 (show (m_fl v (wix (k1) (x2))) = a_wear y (nI k1) x2 from ((hwr _ (wix_lt2 hk1)).trans (by simp only [a_wear, ixI, c5_1, hclk1, p_in, p_worn, p_wi, p_creak, p_le0, p_lt1, p_rng, not_true_eq_false, not_false_eq_true, if_true, if_false, and_true, true_and, and_false, false_and, or_true, true_or, or_false, false_or, and_self, or_self, iff_true, true_iff, iff_false, false_iff, decide_eq_true_eq, decide_true, decide_false, Int32.add_zero, Nat.add_zero, ne_eq, Bool.false_eq_true, eq_self])))
abbrev rmX11_tolls : Room := { frames := 0, cells := 0, slots := 0, locals := 0 }
theorem in_X11_tolls_X11 : ∀ w ∈ u_ws RX11 TX11 19, w ∈ wsX11_tolls := by decide +kernel
set_option maxHeartbeats 4000000 in
set_option maxRecDepth 100000 in
theorem kX11_tolls {D : va_G} {ct : Nat → ClassId} {l : Launch} (o : Nat → Nat) (v : MS) (R : va_W)  : MF D ct l yX11_tolls wsX11_tolls rmX11_tolls (MW ct o v R) [.ref (o 0)] (fun r0 (_ : Unit) => r0 = m_fl v 8) (fun _ : Unit => MW ct o v R) := by
  refine MFof (cc := cX11_tolls) (maxL := 1) (ret := (some .float)) (by decide) rfl (Nat.le_of_ble_eq_true rfl) ?_
  intro p e s m args below meth c A H locs F hP hK hD hS hA ls hl
  obtain ⟨hx, hb, hr, hlocks, hml, hown, hts, hin⟩ := F
  have hl : lv_has ls 1 [(0, .ref (o 0))] := hl
  have h_X11 := in_X11_tolls_X11
  have f13 := hts (.fieldLink RX11 13 "CartArgumentsModel" "floats" "[F") (by decide +kernel)
  refine lv_aload_n hx hb dX11_tolls_0 rfl (lv_at hl 0 rfl) ?_
  refine va_get (ci := 10) (v := .ref (o 2)) hx hb hts h_X11 hown hK hP 0 rfl rfl 1 (by decide) f13 (fun _ h9 => h9) rfl dX11_tolls_1 ?_
  refine lv_bipush (v := nI (8)) hx hb dX11_tolls_4 (by decide) ?_
  refine zFald (n := 108) (f := m_fl v) (i := 8) hx hb hK hP 2 rfl (by omega) (by decide) dX11_tolls_6 ?_
  exact zFret () hx hb hr hlocks hK hP hD hS dX11_tolls_7 (show (m_fl v (8)) = m_fl v 8 from rfl)
abbrev rmX11_takes : Room := { frames := 4, cells := 0, slots := 0, locals := 90 }
theorem in_X11_takes_X11 : ∀ w ∈ u_ws RX11 TX11 19, w ∈ wsX11_takes := by decide +kernel
set_option maxHeartbeats 4000000 in
set_option maxRecDepth 100000 in
theorem kX11_takes {D : va_G} {ct : Nat → ClassId} {l : Launch} (o : Nat → Nat) (v : MS) (R : va_W) (x1 : Int32) (y : YS) (hy : yI y) (hq : RelI y (m_g v)) : MI D ct l yX11_takes wsX11_takes rmX11_takes (MW ct o v R) [.ref (o 0), .int (x1)] (fun r0 (_ : Unit) => r0 = a_takes y x1) (fun _ : Unit => MW ct o v R) := by
  refine MIof (cc := cX11_takes) (maxL := 4) (ret := (some .int)) (by decide) rfl (Nat.le_of_ble_eq_true rfl) ?_
  intro p e s m args below meth c A H locs F hP hK hD hS hA ls hl
  obtain ⟨hx, hb, hr, hlocks, hml, hown, hts, hin⟩ := F
  have hl : lv_has ls 4 [(0, .ref (o 0)), (1, .int (x1))] := hl
  have hB : y_n y ≤ 12 ∧ y_cn y ≤ 4 ∧ y_rn y ≤ 5 := ⟨hy.1, hy.2.1, hy.2.2.1⟩
  have hn : y_n y ≤ 12 := hy.1
  have hcn : y_cn y ≤ 4 := hy.2.1
  have hrn : y_rn y ≤ 5 := hy.2.2.1
  have h_X11 := in_X11_takes_X11
  have f9 := hts (.fieldLink RX11 9 "CartArgumentsModel" "all" "[I") (by decide +kernel)
  refine lv_aload_n hx hb dX11_takes_0 rfl (lv_at hl 0 rfl) ?_
  refine lv_iload_n hx hb dX11_takes_1 rfl (lv_at hl 1 rfl) ?_
  refine zVI [.int (x1)] [] (kX11_isCart (o) (v) (R) (x1) (y) (show y_n (y) ≤ 12 ∧ y_cn (y) ≤ 4 ∧ y_rn (y) ≤ 5 from hB) (show RelI (y) (m_g v) from hq)) hx hb hml hown hts (cwV 1 hts gX11_takes_X11_isCart rfl rfl rfl (by decide +kernel) ⟨(Nat.le_of_ble_eq_true rfl), (Nat.le_of_ble_eq_true rfl)⟩) hK hP hD hS hA (va_recv hK hP (ci := 10) (q0 := 0) rfl rfl) rfl hl.1 rfl (Nat.le_of_ble_eq_true rfl) dX11_takes_2 ⟨(Nat.le_of_ble_eq_true rfl), (Nat.le_of_ble_eq_true rfl)⟩ (fun r_2 _ H locs hr_2 hP hD hS => ?_)
  subst hr_2
  have hP : va_P D vwCl (MW ct o v R) H := hP
  have hD : va_D A (MW ct o v R) := hD
  refine zB_if_ne (tgt := 10) hx hb dX11_takes_5 (by decide) (fun c5_1 => ?_) (fun c5_1 => ?_)
  · skip
    obtain ⟨k1, hk1, ek1⟩ := p_in_ex (n := y_cn y) (by omega) c5_1
    subst ek1
    have hclk1 : (nI k1).toNatClampNeg = k1 := nI_clamp (by omega)
    refine lv_iconst (v := nI (0)) hx hb dX11_takes_10 (by decide) ?_
    refine lv_istore_n (lv' := [(2, .int (nI (0))), (0, .ref (o 0)), (1, .int (nI (k1)))]) hx hb dX11_takes_11 rfl hl (by decide) rfl (fun ls hl => ?_)
    refine lv_iconst (v := nI (0)) hx hb dX11_takes_12 (by decide) ?_
    refine lv_istore_n (lv' := [(3, .int (nI (0))), (2, .int (nI (0))), (0, .ref (o 0)), (1, .int (nI (k1)))]) hx hb dX11_takes_13 rfl hl (by decide) rfl (fun ls hl => ?_)
    have lp14 : ∀ (fu : Nat) (k : Nat) (acc : Int32) (H : Heap) (locs : List Loc) (ls : Array Slot), (k ≤ y_rn y) → (acc = tkF y (nI k1) k) → y_rn y - k < fu → va_P D vwCl (MW ct o v R) H → va_D A (MW ct o v R) → va_S A s.heap H locs → lv_has ls 4 [(0, .ref (o 0)), (1, .int (nI (k1))), (2, .int (acc)), (3, .int (nI (k)))] → W p l e rmX11_takes s m args below meth c H locs 0 0 (MQ below (va_Qi (fun r0 (_ : Unit) => r0 = a_takes y (nI k1)) (zB D ct A (fun _ : Unit => MW ct o v R)) A) args s rmX11_takes.cells rmX11_takes.slots A) (F0 m 14 ls []) := by
      intro fu
      induction fu with
      | zero => intro k acc H locs ls hk hacc hfu; exact absurd hfu (Nat.not_lt_zero _)
      | succ fu ih14 =>
        intro k acc H locs ls hk hacc hfu hP hD hS hl
        refine lv_iload_n hx hb dX11_takes_14 rfl (lv_at hl 3 rfl) ?_
        refine lv_aload_n hx hb dX11_takes_15 rfl (lv_at hl 0 rfl) ?_
        refine va_get (ci := 10) (v := .ref (o 1)) hx hb hts h_X11 hown hK hP 0 rfl rfl 0 (by decide) f9 (fun _ h9 => h9) rfl dX11_takes_16 ?_
        refine lv_iconst (v := nI (2)) hx hb dX11_takes_19 (by decide) ?_
        refine zIald (n := 972) (f := m_g v) (i := 2) hx hb hK hP 1 rfl (by omega) (by decide) dX11_takes_20 ?_
        refine zTop (y := nI (y_rn y)) hq.2.2.1 ?_
        refine zN_icmp_ge (tgt := 54) hx hb (by omega) (by omega) dX11_takes_21 (by decide) (fun c21_2 => ?_) (fun c21_2 => ?_)
        · skip
          refine lv_iload_n hx hb dX11_takes_54 rfl (lv_at hl 2 rfl) ?_
          exact zIret () hx hb hr hlocks hK hP hD hS dX11_takes_55 (show acc = a_takes y (nI k1) from (by rw [hacc, a_takes, if_neg (Decidable.not_not.mpr c5_1)]; congr 1; omega))
        · skip
          refine lv_iload_n hx hb dX11_takes_24 rfl (lv_at hl 2 rfl) ?_
          refine lv_aload_n hx hb dX11_takes_25 rfl (lv_at hl 0 rfl) ?_
          refine lv_iload_n hx hb dX11_takes_26 rfl (lv_at hl 1 rfl) ?_
          refine zVI [.int (nI (k1))] [.int (acc)] (kX11_weightOf (o) (v) (R) (k1) (y) (show y_n (y) ≤ 12 ∧ y_cn (y) ≤ 4 ∧ y_rn (y) ≤ 5 from hB) (show RelI (y) (m_g v) from hq) (show (k1) < 4 from by omega)) hx hb hml hown hts (cwV 1 hts gX11_takes_X11_weightOf rfl rfl rfl (by decide +kernel) ⟨(Nat.le_of_ble_eq_true rfl), (Nat.le_of_ble_eq_true rfl)⟩) hK hP hD hS hA (va_recv hK hP (ci := 10) (q0 := 0) rfl rfl) rfl hl.1 rfl (Nat.le_of_ble_eq_true rfl) dX11_takes_27 ⟨(Nat.le_of_ble_eq_true rfl), (Nat.le_of_ble_eq_true rfl)⟩ (fun r_27 _ H locs hr_27 hP hD hS => ?_)
          subst hr_27
          have hP : va_P D vwCl (MW ct o v R) H := hP
          have hD : va_D A (MW ct o v R) := hD
          refine lv_aload_n hx hb dX11_takes_30 rfl (lv_at hl 0 rfl) ?_
          refine lv_iload_n hx hb dX11_takes_31 rfl (lv_at hl 3 rfl) ?_
          refine lv_iconst (v := nI (0)) hx hb dX11_takes_32 (by decide) ?_
          refine zVI [.int (nI (k)), .int (nI (0))] [.int ((t_all (y) (nI (k1)))), .int (acc)] (kX11_r (o) (v) (R) (k) (0) (show (k) < 5 from by omega) (show (0) < 4 from by omega)) hx hb hml hown hts (cwV 2 hts gX11_takes_X11_r rfl rfl rfl (by decide +kernel) ⟨(Nat.le_of_ble_eq_true rfl), (Nat.le_of_ble_eq_true rfl)⟩) hK hP hD hS hA (va_recv hK hP (ci := 10) (q0 := 0) rfl rfl) rfl hl.1 rfl (Nat.le_of_ble_eq_true rfl) dX11_takes_33 ⟨(Nat.le_of_ble_eq_true rfl), (Nat.le_of_ble_eq_true rfl)⟩ (fun r_33 _ H locs hr_33 hP hD hS => ?_)
          subst hr_33
          have hP : va_P D vwCl (MW ct o v R) H := hP
          have hD : va_D A (MW ct o v R) := hD
          refine zTop (y := (y_li y (k))) (hq.2.2.2.2.2 k (by omega)).1 ?_
          refine lv_icmp_gt (tgt := 45) hx hb dX11_takes_36 (by decide) (fun c36_3 => ?_) (fun c36_3 => ?_)
          · skip
            refine lv_iconst (v := nI (0)) hx hb dX11_takes_45 (by decide) ?_
            refine lv_ior hx hb dX11_takes_46 ?_
            refine lv_istore_n (lv' := [(2, .int ((acc ||| nI (0)))), (0, .ref (o 0)), (1, .int (nI (k1))), (3, .int (nI (k)))]) hx hb dX11_takes_47 rfl hl (by decide) rfl (fun ls hl => ?_)
            refine lv_iinc (v := nI ((k + 1))) (lv' := [(3, .int (nI ((k + 1)))), (2, .int ((acc ||| nI (0)))), (0, .ref (o 0)), (1, .int (nI (k1)))]) hx hb dX11_takes_48 hl (k := 3) rfl (zInc _) (by decide) rfl (fun ls hl => ?_)
            refine lv_goto (tgt := 14) hx hb dX11_takes_51 (by decide) ?_
            exact ih14 ((k + 1)) ((acc ||| nI (0))) H locs ls (by omega) (by simp only [tkF, hacc, or_0, nI_0, c5_1, hclk1, c21_2, c36_3, p_in, p_worn, p_wi, p_creak, p_le0, p_lt1, p_rng, not_true_eq_false, not_false_eq_true, if_true, if_false, and_true, true_and, and_false, false_and, or_true, true_or, or_false, false_or, and_self, or_self, iff_true, true_iff, iff_false, false_iff, decide_eq_true_eq, decide_true, decide_false, Int32.add_zero, Nat.add_zero, ne_eq, Bool.false_eq_true, eq_self]) (by omega) hP hD hS (lv_sub hl [2, 3, 1, 0] rfl)
          · skip
            refine lv_iconst (v := nI (1)) hx hb dX11_takes_39 (by decide) ?_
            refine lv_iload_n hx hb dX11_takes_40 rfl (lv_at hl 3 rfl) ?_
            refine lv_ishl hx hb dX11_takes_41 ?_
            refine lv_goto (tgt := 46) hx hb dX11_takes_42 (by decide) ?_
            refine lv_ior hx hb dX11_takes_46 ?_
            refine lv_istore_n (lv' := [(2, .int ((acc ||| (nI (1) <<< (nI (k) &&& 31))))), (0, .ref (o 0)), (1, .int (nI (k1))), (3, .int (nI (k)))]) hx hb dX11_takes_47 rfl hl (by decide) rfl (fun ls hl => ?_)
            refine lv_iinc (v := nI ((k + 1))) (lv' := [(3, .int (nI ((k + 1)))), (2, .int ((acc ||| (nI (1) <<< (nI (k) &&& 31))))), (0, .ref (o 0)), (1, .int (nI (k1)))]) hx hb dX11_takes_48 hl (k := 3) rfl (zInc _) (by decide) rfl (fun ls hl => ?_)
            refine lv_goto (tgt := 14) hx hb dX11_takes_51 (by decide) ?_
            exact ih14 ((k + 1)) ((acc ||| (nI (1) <<< (nI (k) &&& 31)))) H locs ls (by omega) (by simp only [tkF, hacc, or_0, nI_0, c5_1, hclk1, c21_2, c36_3, p_in, p_worn, p_wi, p_creak, p_le0, p_lt1, p_rng, not_true_eq_false, not_false_eq_true, if_true, if_false, and_true, true_and, and_false, false_and, or_true, true_or, or_false, false_or, and_self, or_self, iff_true, true_iff, iff_false, false_iff, decide_eq_true_eq, decide_true, decide_false, Int32.add_zero, Nat.add_zero, ne_eq, Bool.false_eq_true, eq_self]) (by omega) hP hD hS (lv_sub hl [2, 3, 1, 0] rfl)
    exact lp14 ((y_rn y - (0)) + 1) (0) (nI 0) H locs ls (by omega) rfl (Nat.lt_succ_self _) hP hD hS (lv_sub hl [2, 3, 1, 0] rfl)
  · skip
    refine lv_iconst (v := (-1)) hx hb dX11_takes_8 (by decide) ?_
    exact zIret () hx hb hr hlocks hK hP hD hS dX11_takes_9 (show (-1) = a_takes y x1 from (by simp only [a_takes, ixI, c5_1, p_in, p_worn, p_wi, p_creak, p_le0, p_lt1, p_rng, not_true_eq_false, not_false_eq_true, if_true, if_false, and_true, true_and, and_false, false_and, or_true, true_or, or_false, false_or, and_self, or_self, iff_true, true_iff, iff_false, false_iff, decide_eq_true_eq, decide_true, decide_false, Int32.add_zero, Nat.add_zero, ne_eq, Bool.false_eq_true, eq_self]))
