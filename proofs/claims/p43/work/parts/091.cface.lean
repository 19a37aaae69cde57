/-! THE CLASS: its face -/
abbrev rmX10_thingOf : Room := { frames := 1, cells := 0, slots := 0, locals := 21 }
theorem in_X10_thingOf_X10 : ∀ w ∈ u_ws RX10 TX10 12, w ∈ wsX10_thingOf := by decide +kernel
theorem in_X10_thingOf_X9 : ∀ w ∈ u_ws RX9 TX9 16, w ∈ wsX10_thingOf := by decide +kernel
set_option maxHeartbeats 4000000 in
set_option maxRecDepth 100000 in
theorem kX10_thingOf {D : va_G} {g : XG} {ct : Nat → ClassId} {l : Launch} (a : Nat → Nat) (y : YS) (b : Nat → Nat) (rs : RS) (d : Nat → Nat) (bz : BS) (i : Nat → Nat) (iv : IS) (lb : Nat → Nat) (lz : LST) (sa : Nat → Nat) (sy : YS) (x : Nat → Nat) (xv : Int32 × Int32) (h : Nat → Nat) (ha : Nat → Nat → Nat) (hz : HS) (R : va_W) (x1 : Int32) (x2 : Int32) (hy : yI y) (hf : yF y) : MX D ct g l yX10_thingOf wsX10_thingOf rmX10_thingOf (YW ct a y (KR a b rs (BW ct a d bz (IW ct i (xE g) iv (LW ct lb lz (YW ct sa sy (XO x a sa h b d i lb xv (HW ct h ha hz R)))))))) [.ref (x 0), .int (x1), .int (x2)] (QI D ct (fun r0 (_ : Unit) => r0 = a_thing y x1 x2) (fun _ : Unit => YW ct a y (KR a b rs (BW ct a d bz (IW ct i (xE g) iv (LW ct lb lz (YW ct sa sy (XO x a sa h b d i lb xv (HW ct h ha hz R))))))))) := by
  refine MXof (cc := cX10_thingOf) (maxL := 3) (ret := (some .int)) (by decide) rfl (Nat.le_of_ble_eq_true rfl) ?_
  intro p e s m args below meth c A H locs F hP hK hD hS hA hX ls hl
  obtain ⟨hx, hb, hr, hlocks, hml, hown, hts, hin⟩ := F
  have hl : lv_has ls 3 [(0, .ref (x 0)), (1, .int (x1)), (2, .int (x2))] := hl
  have hkd : ∀ j9, j9 < y_n y → y_kd y j9 = nI 0 ∨ y_kd y j9 = nI 1 := fun j9 hj9 => (hy.2.2.2.1 j9 hj9).1
  have hn : y_n y ≤ 12 := hy.1
  have hcn : y_cn y ≤ 4 := hy.2.1
  have hrn : y_rn y ≤ 5 := hy.2.2.1
  have h_X10 := in_X10_thingOf_X10
  have h_X9 := in_X10_thingOf_X9
  have f10 := hts (.fieldLink RX10 10 "CartArguments" "yard" "LCartArguments$Yard;") (by decide +kernel)
  have f196 := hts (.fieldLink RX10 196 "CartArguments$Yard" "kinds" "[I") (by decide +kernel)
  have f199 := hts (.fieldLink RX10 199 "CartArguments$Yard" "weights" "[I") (by decide +kernel)
  have f202 := hts (.fieldLink RX10 202 "CartArguments$Yard" "cartsUnder" "[I") (by decide +kernel)
  have f205 := hts (.fieldLink RX10 205 "CartArguments$Yard" "places" "[I") (by decide +kernel)
  refine lv_aload_n hx hb dX10_thingOf_0 rfl (lv_at hl 0 rfl) ?_
  refine va_get (ci := 9) (v := .ref (a 0)) hx hb hts h_X10 hown hK hP 38 rfl rfl 0 (by decide) f10 (fun _ h9 => h9) rfl dX10_thingOf_1 ?_
  refine lv_iload_n hx hb dX10_thingOf_4 rfl (lv_at hl 1 rfl) ?_
  refine zVI [.int (x1)] [] (kX9_isThing (a) (y) (KR a b rs (BW ct a d bz (IW ct i (xE g) iv (LW ct lb lz (YW ct sa sy (XO x a sa h b d i lb xv (HW ct h ha hz R))))))) (x1)) hx hb hml hown hts (cwV 1 hts gX10_thingOf_X9_isThing rfl rfl rfl (by decide +kernel) ⟨(Nat.le_of_ble_eq_true rfl), (Nat.le_of_ble_eq_true rfl)⟩) hK hP hD hS hA (va_recv hK hP (ci := 8) (q0 := 0) rfl rfl) rfl hl.1 rfl (Nat.le_of_ble_eq_true rfl) dX10_thingOf_5 ⟨(Nat.le_of_ble_eq_true rfl), (Nat.le_of_ble_eq_true rfl)⟩ (fun r_5 _ H locs hr_5 hP hD hS => ?_)
  subst hr_5
  have hP : va_P D vwCl (YW ct a y (KR a b rs (BW ct a d bz (IW ct i (xE g) iv (LW ct lb lz (YW ct sa sy (XO x a sa h b d i lb xv (HW ct h ha hz R)))))))) H := hP
  have hD : va_D A (YW ct a y (KR a b rs (BW ct a d bz (IW ct i (xE g) iv (LW ct lb lz (YW ct sa sy (XO x a sa h b d i lb xv (HW ct h ha hz R)))))))) := hD
  refine zB_if_ne (tgt := 13) hx hb dX10_thingOf_8 (by decide) (fun c8_1 => ?_) (fun c8_1 => ?_)
  · skip
    obtain ⟨k1, hk1, ek1⟩ := p_in_ex (n := y_n y) (by omega) c8_1
    subst ek1
    have hclk1 : (nI k1).toNatClampNeg = k1 := nI_clamp (by omega)
    refine lv_iload_n hx hb dX10_thingOf_13 rfl (lv_at hl 2 rfl) ?_
    rcases zSw 0 3 (x2) (by decide) (by decide) with sw2 | ⟨j, sw2, sw2e⟩
    · refine lv_tableOut (tgt := 84) hx hb dX10_thingOf_14 (zSwO sw2) (by decide) ?_
      have hd0 : ¬ x2 = nI 0 := zSwN (j := 0) sw2 (by decide) (by decide) (by decide)
      have hd1 : ¬ x2 = nI 1 := zSwN (j := 1) sw2 (by decide) (by decide) (by decide)
      have hd2 : ¬ x2 = nI 2 := zSwN (j := 2) sw2 (by decide) (by decide) (by decide)
      have hd3 : ¬ x2 = nI 3 := zSwN (j := 3) sw2 (by decide) (by decide) (by decide)
      refine lv_bipush (v := (-2)) hx hb dX10_thingOf_84 (by decide) ?_
      exact zIret () hx hb hr hlocks hK hP hD hS dX10_thingOf_86 (show (-2) = a_thing y (nI k1) x2 from (by simp only [a_thing, ixI, c8_1, hclk1, hd0, hd1, hd2, hd3, p_in, p_worn, p_wi, p_creak, p_le0, p_lt1, p_rng, not_true_eq_false, not_false_eq_true, if_true, if_false, and_true, true_and, and_false, false_and, or_true, true_or, or_false, false_or, and_self, or_self, iff_true, true_iff, iff_false, false_iff, decide_eq_true_eq, decide_true, decide_false, Int32.add_zero, Nat.add_zero, ne_eq, Bool.false_eq_true, eq_self]))
    · rcases (show j = 0 ∨ j = 1 ∨ j = 2 ∨ j = 3 by omega) with rfl | rfl | rfl | rfl
      · refine lv_tableIn (off := 30) (tgt := 44) hx hb dX10_thingOf_14 (by rw [sw2e]; decide) (by rw [sw2e]; decide) (by rw [sw2e]; rfl) (by decide) ?_
        subst sw2e
        have hj : (nI 0 : Int32) = nI 0 := rfl
        refine lv_aload_n hx hb dX10_thingOf_44 rfl (lv_at hl 0 rfl) ?_
        refine va_get (ci := 9) (v := .ref (a 0)) hx hb hts h_X10 hown hK hP 38 rfl rfl 0 (by decide) f10 (fun _ h9 => h9) rfl dX10_thingOf_45 ?_
        refine va_get (ci := 8) (v := .ref (a 1)) hx hb hts h_X9 hown hK hP 0 rfl rfl 1 (by decide) f196 (fun _ h9 => h9) rfl dX10_thingOf_48 ?_
        refine lv_iload_n hx hb dX10_thingOf_51 rfl (lv_at hl 1 rfl) ?_
        refine zIald (n := 12) (f := y_kd y) (i := k1) hx hb hK hP 1 rfl (by omega) (by decide) dX10_thingOf_52 ?_
        exact zIret () hx hb hr hlocks hK hP hD hS dX10_thingOf_53 (show (y_kd y (k1)) = a_thing y (nI k1) (nI 0) from (by simp only [a_thing, ixI, c8_1, hclk1, p_in, p_worn, p_wi, p_creak, p_le0, p_lt1, p_rng, not_true_eq_false, not_false_eq_true, if_true, if_false, and_true, true_and, and_false, false_and, or_true, true_or, or_false, false_or, and_self, or_self, iff_true, true_iff, iff_false, false_iff, decide_eq_true_eq, decide_true, decide_false, Int32.add_zero, Nat.add_zero, ne_eq, Bool.false_eq_true, eq_self]))
      · refine lv_tableIn (off := 40) (tgt := 54) hx hb dX10_thingOf_14 (by rw [sw2e]; decide) (by rw [sw2e]; decide) (by rw [sw2e]; rfl) (by decide) ?_
        subst sw2e
        have hj : (nI 1 : Int32) = nI 1 := rfl
        have hn0 : ¬ (nI 1 = nI 0) := by decide
        refine lv_aload_n hx hb dX10_thingOf_54 rfl (lv_at hl 0 rfl) ?_
        refine va_get (ci := 9) (v := .ref (a 0)) hx hb hts h_X10 hown hK hP 38 rfl rfl 0 (by decide) f10 (fun _ h9 => h9) rfl dX10_thingOf_55 ?_
        refine va_get (ci := 8) (v := .ref (a 2)) hx hb hts h_X9 hown hK hP 0 rfl rfl 2 (by decide) f199 (fun _ h9 => h9) rfl dX10_thingOf_58 ?_
        refine lv_iload_n hx hb dX10_thingOf_61 rfl (lv_at hl 1 rfl) ?_
        refine zIald (n := 12) (f := y_w y) (i := k1) hx hb hK hP 2 rfl (by omega) (by decide) dX10_thingOf_62 ?_
        exact zIret () hx hb hr hlocks hK hP hD hS dX10_thingOf_63 (show (y_w y (k1)) = a_thing y (nI k1) (nI 1) from (by simp only [a_thing, ixI, c8_1, hclk1, hn0, p_in, p_worn, p_wi, p_creak, p_le0, p_lt1, p_rng, not_true_eq_false, not_false_eq_true, if_true, if_false, and_true, true_and, and_false, false_and, or_true, true_or, or_false, false_or, and_self, or_self, iff_true, true_iff, iff_false, false_iff, decide_eq_true_eq, decide_true, decide_false, Int32.add_zero, Nat.add_zero, ne_eq, Bool.false_eq_true, eq_self]))
      · refine lv_tableIn (off := 50) (tgt := 64) hx hb dX10_thingOf_14 (by rw [sw2e]; decide) (by rw [sw2e]; decide) (by rw [sw2e]; rfl) (by decide) ?_
        subst sw2e
        have hj : (nI 2 : Int32) = nI 2 := rfl
        have hn0 : ¬ (nI 2 = nI 0) := by decide
        have hn1 : ¬ (nI 2 = nI 1) := by decide
        refine lv_aload_n hx hb dX10_thingOf_64 rfl (lv_at hl 0 rfl) ?_
        refine va_get (ci := 9) (v := .ref (a 0)) hx hb hts h_X10 hown hK hP 38 rfl rfl 0 (by decide) f10 (fun _ h9 => h9) rfl dX10_thingOf_65 ?_
        refine va_get (ci := 8) (v := .ref (a 3)) hx hb hts h_X9 hown hK hP 0 rfl rfl 3 (by decide) f202 (fun _ h9 => h9) rfl dX10_thingOf_68 ?_
        refine lv_iload_n hx hb dX10_thingOf_71 rfl (lv_at hl 1 rfl) ?_
        refine zIald (n := 12) (f := y_cu y) (i := k1) hx hb hK hP 3 rfl (by omega) (by decide) dX10_thingOf_72 ?_
        exact zIret () hx hb hr hlocks hK hP hD hS dX10_thingOf_73 (show (y_cu y (k1)) = a_thing y (nI k1) (nI 2) from (by simp only [a_thing, ixI, c8_1, hclk1, hn0, hn1, p_in, p_worn, p_wi, p_creak, p_le0, p_lt1, p_rng, not_true_eq_false, not_false_eq_true, if_true, if_false, and_true, true_and, and_false, false_and, or_true, true_or, or_false, false_or, and_self, or_self, iff_true, true_iff, iff_false, false_iff, decide_eq_true_eq, decide_true, decide_false, Int32.add_zero, Nat.add_zero, ne_eq, Bool.false_eq_true, eq_self]))
      · refine lv_tableIn (off := 60) (tgt := 74) hx hb dX10_thingOf_14 (by rw [sw2e]; decide) (by rw [sw2e]; decide) (by rw [sw2e]; rfl) (by decide) ?_
        subst sw2e
        have hj : (nI 3 : Int32) = nI 3 := rfl
        have hn0 : ¬ (nI 3 = nI 0) := by decide
        have hn1 : ¬ (nI 3 = nI 1) := by decide
        have hn2 : ¬ (nI 3 = nI 2) := by decide
        refine lv_aload_n hx hb dX10_thingOf_74 rfl (lv_at hl 0 rfl) ?_
        refine va_get (ci := 9) (v := .ref (a 0)) hx hb hts h_X10 hown hK hP 38 rfl rfl 0 (by decide) f10 (fun _ h9 => h9) rfl dX10_thingOf_75 ?_
        refine va_get (ci := 8) (v := .ref (a 4)) hx hb hts h_X9 hown hK hP 0 rfl rfl 4 (by decide) f205 (fun _ h9 => h9) rfl dX10_thingOf_78 ?_
        refine lv_iload_n hx hb dX10_thingOf_81 rfl (lv_at hl 1 rfl) ?_
        refine zIald (n := 12) (f := y_pl y) (i := k1) hx hb hK hP 4 rfl (by omega) (by decide) dX10_thingOf_82 ?_
        exact zIret () hx hb hr hlocks hK hP hD hS dX10_thingOf_83 (show (y_pl y (k1)) = a_thing y (nI k1) (nI 3) from (by simp only [a_thing, ixI, c8_1, hclk1, hn0, hn1, hn2, p_in, p_worn, p_wi, p_creak, p_le0, p_lt1, p_rng, not_true_eq_false, not_false_eq_true, if_true, if_false, and_true, true_and, and_false, false_and, or_true, true_or, or_false, false_or, and_self, or_self, iff_true, true_iff, iff_false, false_iff, decide_eq_true_eq, decide_true, decide_false, Int32.add_zero, Nat.add_zero, ne_eq, Bool.false_eq_true, eq_self]))
  · skip
    refine lv_iconst (v := (-1)) hx hb dX10_thingOf_11 (by decide) ?_
    exact zIret () hx hb hr hlocks hK hP hD hS dX10_thingOf_12 (show (-1) = a_thing y x1 x2 from (by simp only [a_thing, ixI, c8_1, p_in, p_worn, p_wi, p_creak, p_le0, p_lt1, p_rng, not_true_eq_false, not_false_eq_true, if_true, if_false, and_true, true_and, and_false, false_and, or_true, true_or, or_false, false_or, and_self, or_self, iff_true, true_iff, iff_false, false_iff, decide_eq_true_eq, decide_true, decide_false, Int32.add_zero, Nat.add_zero, ne_eq, Bool.false_eq_true, eq_self]))
abbrev rmX10_cartOf : Room := { frames := 3, cells := 0, slots := 0, locals := 68 }
theorem in_X10_cartOf_X10 : ∀ w ∈ u_ws RX10 TX10 12, w ∈ wsX10_cartOf := by decide +kernel
theorem in_X10_cartOf_X9 : ∀ w ∈ u_ws RX9 TX9 16, w ∈ wsX10_cartOf := by decide +kernel
set_option maxHeartbeats 4000000 in
set_option maxRecDepth 100000 in
theorem kX10_cartOf {D : va_G} {g : XG} {ct : Nat → ClassId} {l : Launch} (a : Nat → Nat) (y : YS) (b : Nat → Nat) (rs : RS) (d : Nat → Nat) (bz : BS) (i : Nat → Nat) (iv : IS) (lb : Nat → Nat) (lz : LST) (sa : Nat → Nat) (sy : YS) (x : Nat → Nat) (xv : Int32 × Int32) (h : Nat → Nat) (ha : Nat → Nat → Nat) (hz : HS) (R : va_W) (x1 : Int32) (x2 : Int32) (hy : yI y) (hf : yF y) : MX D ct g l yX10_cartOf wsX10_cartOf rmX10_cartOf (YW ct a y (KR a b rs (BW ct a d bz (IW ct i (xE g) iv (LW ct lb lz (YW ct sa sy (XO x a sa h b d i lb xv (HW ct h ha hz R)))))))) [.ref (x 0), .int (x1), .int (x2)] (QI D ct (fun r0 (_ : Unit) => r0 = a_cart y x1 x2) (fun _ : Unit => YW ct a y (KR a b rs (BW ct a d bz (IW ct i (xE g) iv (LW ct lb lz (YW ct sa sy (XO x a sa h b d i lb xv (HW ct h ha hz R))))))))) := by
  refine MXof (cc := cX10_cartOf) (maxL := 3) (ret := (some .int)) (by decide) rfl (Nat.le_of_ble_eq_true rfl) ?_
  intro p e s m args below meth c A H locs F hP hK hD hS hA hX ls hl
  obtain ⟨hx, hb, hr, hlocks, hml, hown, hts, hin⟩ := F
  have hl : lv_has ls 3 [(0, .ref (x 0)), (1, .int (x1)), (2, .int (x2))] := hl
  have hkd : ∀ j9, j9 < y_n y → y_kd y j9 = nI 0 ∨ y_kd y j9 = nI 1 := fun j9 hj9 => (hy.2.2.2.1 j9 hj9).1
  have hn : y_n y ≤ 12 := hy.1
  have hcn : y_cn y ≤ 4 := hy.2.1
  have hrn : y_rn y ≤ 5 := hy.2.2.1
  have h_X10 := in_X10_cartOf_X10
  have h_X9 := in_X10_cartOf_X9
  have f10 := hts (.fieldLink RX10 10 "CartArguments" "yard" "LCartArguments$Yard;") (by decide +kernel)
  have f42 := hts (.fieldLink RX10 42 "CartArguments" "scale" "LCartArguments$Scale;") (by decide +kernel)
  have f211 := hts (.fieldLink RX10 211 "CartArguments$Yard" "strengths" "[I") (by decide +kernel)
  have f226 := hts (.fieldLink RX10 226 "CartArguments$Yard" "cartTrips" "[I") (by decide +kernel)
  refine lv_aload_n hx hb dX10_cartOf_0 rfl (lv_at hl 0 rfl) ?_
  refine va_get (ci := 9) (v := .ref (a 0)) hx hb hts h_X10 hown hK hP 38 rfl rfl 0 (by decide) f10 (fun _ h9 => h9) rfl dX10_cartOf_1 ?_
  refine lv_iload_n hx hb dX10_cartOf_4 rfl (lv_at hl 1 rfl) ?_
  refine zVI [.int (x1)] [] (kX9_isCart (a) (y) (KR a b rs (BW ct a d bz (IW ct i (xE g) iv (LW ct lb lz (YW ct sa sy (XO x a sa h b d i lb xv (HW ct h ha hz R))))))) (x1)) hx hb hml hown hts (cwV 1 hts gX10_cartOf_X9_isCart rfl rfl rfl (by decide +kernel) ⟨(Nat.le_of_ble_eq_true rfl), (Nat.le_of_ble_eq_true rfl)⟩) hK hP hD hS hA (va_recv hK hP (ci := 8) (q0 := 0) rfl rfl) rfl hl.1 rfl (Nat.le_of_ble_eq_true rfl) dX10_cartOf_5 ⟨(Nat.le_of_ble_eq_true rfl), (Nat.le_of_ble_eq_true rfl)⟩ (fun r_5 _ H locs hr_5 hP hD hS => ?_)
  subst hr_5
  have hP : va_P D vwCl (YW ct a y (KR a b rs (BW ct a d bz (IW ct i (xE g) iv (LW ct lb lz (YW ct sa sy (XO x a sa h b d i lb xv (HW ct h ha hz R)))))))) H := hP
  have hD : va_D A (YW ct a y (KR a b rs (BW ct a d bz (IW ct i (xE g) iv (LW ct lb lz (YW ct sa sy (XO x a sa h b d i lb xv (HW ct h ha hz R)))))))) := hD
  refine zB_if_ne (tgt := 13) hx hb dX10_cartOf_8 (by decide) (fun c8_1 => ?_) (fun c8_1 => ?_)
  · skip
    obtain ⟨k1, hk1, ek1⟩ := p_in_ex (n := y_cn y) (by omega) c8_1
    subst ek1
    have hclk1 : (nI k1).toNatClampNeg = k1 := nI_clamp (by omega)
    refine lv_iload_n hx hb dX10_cartOf_13 rfl (lv_at hl 2 rfl) ?_
    rcases zSw 0 7 (x2) (by decide) (by decide) with sw2 | ⟨j, sw2, sw2e⟩
    · refine lv_tableOut (tgt := 137) hx hb dX10_cartOf_14 (zSwO sw2) (by decide) ?_
      have hd0 : ¬ x2 = nI 0 := zSwN (j := 0) sw2 (by decide) (by decide) (by decide)
      have hd1 : ¬ x2 = nI 1 := zSwN (j := 1) sw2 (by decide) (by decide) (by decide)
      have hd2 : ¬ x2 = nI 2 := zSwN (j := 2) sw2 (by decide) (by decide) (by decide)
      have hd3 : ¬ x2 = nI 3 := zSwN (j := 3) sw2 (by decide) (by decide) (by decide)
      have hd4 : ¬ x2 = nI 4 := zSwN (j := 4) sw2 (by decide) (by decide) (by decide)
      have hd5 : ¬ x2 = nI 5 := zSwN (j := 5) sw2 (by decide) (by decide) (by decide)
      have hd6 : ¬ x2 = nI 6 := zSwN (j := 6) sw2 (by decide) (by decide) (by decide)
      have hd7 : ¬ x2 = nI 7 := zSwN (j := 7) sw2 (by decide) (by decide) (by decide)
      refine lv_bipush (v := (-2)) hx hb dX10_cartOf_137 (by decide) ?_
      exact zIret () hx hb hr hlocks hK hP hD hS dX10_cartOf_139 (show (-2) = a_cart y (nI k1) x2 from (by simp only [a_cart, ixI, c8_1, hclk1, hd0, hd1, hd2, hd3, hd4, hd5, hd6, hd7, p_in, p_worn, p_wi, p_creak, p_le0, p_lt1, p_rng, not_true_eq_false, not_false_eq_true, if_true, if_false, and_true, true_and, and_false, false_and, or_true, true_or, or_false, false_or, and_self, or_self, iff_true, true_iff, iff_false, false_iff, decide_eq_true_eq, decide_true, decide_false, Int32.add_zero, Nat.add_zero, ne_eq, Bool.false_eq_true, eq_self]))
    · rcases (show j = 0 ∨ j = 1 ∨ j = 2 ∨ j = 3 ∨ j = 4 ∨ j = 5 ∨ j = 6 ∨ j = 7 by omega) with rfl | rfl | rfl | rfl | rfl | rfl | rfl | rfl
      · refine lv_tableIn (off := 46) (tgt := 60) hx hb dX10_cartOf_14 (by rw [sw2e]; decide) (by rw [sw2e]; decide) (by rw [sw2e]; rfl) (by decide) ?_
        subst sw2e
        have hj : (nI 0 : Int32) = nI 0 := rfl
        refine lv_aload_n hx hb dX10_cartOf_60 rfl (lv_at hl 0 rfl) ?_
        refine va_get (ci := 9) (v := .ref (a 0)) hx hb hts h_X10 hown hK hP 38 rfl rfl 0 (by decide) f10 (fun _ h9 => h9) rfl dX10_cartOf_61 ?_
        refine va_get (ci := 8) (v := .ref (a 5)) hx hb hts h_X9 hown hK hP 0 rfl rfl 6 (by decide) f211 (fun _ h9 => h9) rfl dX10_cartOf_64 ?_
        refine lv_iload_n hx hb dX10_cartOf_67 rfl (lv_at hl 1 rfl) ?_
        refine zIald (n := 4) (f := y_st y) (i := k1) hx hb hK hP 5 rfl (by omega) (by decide) dX10_cartOf_68 ?_
        exact zIret () hx hb hr hlocks hK hP hD hS dX10_cartOf_69 (show (y_st y (k1)) = a_cart y (nI k1) (nI 0) from (by simp only [a_cart, ixI, c8_1, hclk1, p_in, p_worn, p_wi, p_creak, p_le0, p_lt1, p_rng, not_true_eq_false, not_false_eq_true, if_true, if_false, and_true, true_and, and_false, false_and, or_true, true_or, or_false, false_or, and_self, or_self, iff_true, true_iff, iff_false, false_iff, decide_eq_true_eq, decide_true, decide_false, Int32.add_zero, Nat.add_zero, ne_eq, Bool.false_eq_true, eq_self]))
      · refine lv_tableIn (off := 56) (tgt := 70) hx hb dX10_cartOf_14 (by rw [sw2e]; decide) (by rw [sw2e]; decide) (by rw [sw2e]; rfl) (by decide) ?_
        subst sw2e
        have hj : (nI 1 : Int32) = nI 1 := rfl
        have hn0 : ¬ (nI 1 = nI 0) := by decide
        refine lv_aload_n hx hb dX10_cartOf_70 rfl (lv_at hl 0 rfl) ?_
        refine va_get (ci := 9) (v := .ref (a 0)) hx hb hts h_X10 hown hK hP 38 rfl rfl 0 (by decide) f10 (fun _ h9 => h9) rfl dX10_cartOf_71 ?_
        refine lv_iload_n hx hb dX10_cartOf_74 rfl (lv_at hl 1 rfl) ?_
        refine zVI [.int (nI (k1))] [] (kX9_premisesOn (a) (y) (KR a b rs (BW ct a d bz (IW ct i (xE g) iv (LW ct lb lz (YW ct sa sy (XO x a sa h b d i lb xv (HW ct h ha hz R))))))) (nI (k1)) (show y_n y ≤ 12 from by omega)) hx hb hml hown hts (cwV 1 hts gX10_cartOf_X9_premisesOn rfl rfl rfl (by decide +kernel) ⟨(Nat.le_of_ble_eq_true rfl), (Nat.le_of_ble_eq_true rfl)⟩) hK hP hD hS hA (va_recv hK hP (ci := 8) (q0 := 0) rfl rfl) rfl hl.1 rfl (Nat.le_of_ble_eq_true rfl) dX10_cartOf_75 ⟨(Nat.le_of_ble_eq_true rfl), (Nat.le_of_ble_eq_true rfl)⟩ (fun r_75 _ H locs hr_75 hP hD hS => ?_)
        subst hr_75
        have hP : va_P D vwCl (YW ct a y (KR a b rs (BW ct a d bz (IW ct i (xE g) iv (LW ct lb lz (YW ct sa sy (XO x a sa h b d i lb xv (HW ct h ha hz R)))))))) H := hP
        have hD : va_D A (YW ct a y (KR a b rs (BW ct a d bz (IW ct i (xE g) iv (LW ct lb lz (YW ct sa sy (XO x a sa h b d i lb xv (HW ct h ha hz R)))))))) := hD
        exact zIret () hx hb hr hlocks hK hP hD hS dX10_cartOf_78 (show nI (t_pn y (nI (k1))) = a_cart y (nI k1) (nI 1) from (by simp only [a_cart, ixI, c8_1, hclk1, hn0, p_in, p_worn, p_wi, p_creak, p_le0, p_lt1, p_rng, not_true_eq_false, not_false_eq_true, if_true, if_false, and_true, true_and, and_false, false_and, or_true, true_or, or_false, false_or, and_self, or_self, iff_true, true_iff, iff_false, false_iff, decide_eq_true_eq, decide_true, decide_false, Int32.add_zero, Nat.add_zero, ne_eq, Bool.false_eq_true, eq_self]))
      · refine lv_tableIn (off := 65) (tgt := 79) hx hb dX10_cartOf_14 (by rw [sw2e]; decide) (by rw [sw2e]; decide) (by rw [sw2e]; rfl) (by decide) ?_
        subst sw2e
        have hj : (nI 2 : Int32) = nI 2 := rfl
        have hn0 : ¬ (nI 2 = nI 0) := by decide
        have hn1 : ¬ (nI 2 = nI 1) := by decide
        refine lv_aload_n hx hb dX10_cartOf_79 rfl (lv_at hl 0 rfl) ?_
        refine va_get (ci := 9) (v := .ref (a 0)) hx hb hts h_X10 hown hK hP 38 rfl rfl 0 (by decide) f10 (fun _ h9 => h9) rfl dX10_cartOf_80 ?_
        refine lv_iload_n hx hb dX10_cartOf_83 rfl (lv_at hl 1 rfl) ?_
        refine lv_iconst (v := nI (0)) hx hb dX10_cartOf_84 (by decide) ?_
        refine zVI [.int (nI (k1)), .int (nI (0))] [] (kX9_weightOn (a) (y) (KR a b rs (BW ct a d bz (IW ct i (xE g) iv (LW ct lb lz (YW ct sa sy (XO x a sa h b d i lb xv (HW ct h ha hz R))))))) (nI (k1)) (nI (0)) (show y_n y ≤ 12 from by omega)) hx hb hml hown hts (cwV 2 hts gX10_cartOf_X9_weightOn rfl rfl rfl (by decide +kernel) ⟨(Nat.le_of_ble_eq_true rfl), (Nat.le_of_ble_eq_true rfl)⟩) hK hP hD hS hA (va_recv hK hP (ci := 8) (q0 := 0) rfl rfl) rfl hl.1 rfl (Nat.le_of_ble_eq_true rfl) dX10_cartOf_85 ⟨(Nat.le_of_ble_eq_true rfl), (Nat.le_of_ble_eq_true rfl)⟩ (fun r_85 _ H locs hr_85 hP hD hS => ?_)
        subst hr_85
        have hP : va_P D vwCl (YW ct a y (KR a b rs (BW ct a d bz (IW ct i (xE g) iv (LW ct lb lz (YW ct sa sy (XO x a sa h b d i lb xv (HW ct h ha hz R)))))))) H := hP
        have hD : va_D A (YW ct a y (KR a b rs (BW ct a d bz (IW ct i (xE g) iv (LW ct lb lz (YW ct sa sy (XO x a sa h b d i lb xv (HW ct h ha hz R)))))))) := hD
        exact zIret () hx hb hr hlocks hK hP hD hS dX10_cartOf_88 (show (t_wo y (nI (k1)) (nI (0))) = a_cart y (nI k1) (nI 2) from (by simp only [a_cart, ixI, c8_1, hclk1, hn0, hn1, p_in, p_worn, p_wi, p_creak, p_le0, p_lt1, p_rng, not_true_eq_false, not_false_eq_true, if_true, if_false, and_true, true_and, and_false, false_and, or_true, true_or, or_false, false_or, and_self, or_self, iff_true, true_iff, iff_false, false_iff, decide_eq_true_eq, decide_true, decide_false, Int32.add_zero, Nat.add_zero, ne_eq, Bool.false_eq_true, eq_self]))
      · refine lv_tableIn (off := 75) (tgt := 89) hx hb dX10_cartOf_14 (by rw [sw2e]; decide) (by rw [sw2e]; decide) (by rw [sw2e]; rfl) (by decide) ?_
        subst sw2e
        have hj : (nI 3 : Int32) = nI 3 := rfl
        have hn0 : ¬ (nI 3 = nI 0) := by decide
        have hn1 : ¬ (nI 3 = nI 1) := by decide
        have hn2 : ¬ (nI 3 = nI 2) := by decide
        refine lv_aload_n hx hb dX10_cartOf_89 rfl (lv_at hl 0 rfl) ?_
        refine va_get (ci := 9) (v := .ref (a 0)) hx hb hts h_X10 hown hK hP 38 rfl rfl 0 (by decide) f10 (fun _ h9 => h9) rfl dX10_cartOf_90 ?_
        refine lv_iload_n hx hb dX10_cartOf_93 rfl (lv_at hl 1 rfl) ?_
        refine lv_bipush (v := nI (6)) hx hb dX10_cartOf_94 (by decide) ?_
        refine zVI [.int (nI (k1)), .int (nI (6))] [] (kX9_thingAt (a) (y) (KR a b rs (BW ct a d bz (IW ct i (xE g) iv (LW ct lb lz (YW ct sa sy (XO x a sa h b d i lb xv (HW ct h ha hz R))))))) (nI (k1)) (nI (6)) (show y_n y ≤ 12 from by omega)) hx hb hml hown hts (cwV 2 hts gX10_cartOf_X9_thingAt rfl rfl rfl (by decide +kernel) ⟨(Nat.le_of_ble_eq_true rfl), (Nat.le_of_ble_eq_true rfl)⟩) hK hP hD hS hA (va_recv hK hP (ci := 8) (q0 := 0) rfl rfl) rfl hl.1 rfl (Nat.le_of_ble_eq_true rfl) dX10_cartOf_96 ⟨(Nat.le_of_ble_eq_true rfl), (Nat.le_of_ble_eq_true rfl)⟩ (fun r_96 _ H locs hr_96 hP hD hS => ?_)
        subst hr_96
        have hP : va_P D vwCl (YW ct a y (KR a b rs (BW ct a d bz (IW ct i (xE g) iv (LW ct lb lz (YW ct sa sy (XO x a sa h b d i lb xv (HW ct h ha hz R)))))))) H := hP
        have hD : va_D A (YW ct a y (KR a b rs (BW ct a d bz (IW ct i (xE g) iv (LW ct lb lz (YW ct sa sy (XO x a sa h b d i lb xv (HW ct h ha hz R)))))))) := hD
        exact zIret () hx hb hr hlocks hK hP hD hS dX10_cartOf_99 (show (t_at y (nI (k1)) (nI (6))) = a_cart y (nI k1) (nI 3) from (by simp only [a_cart, ixI, c8_1, hclk1, hn0, hn1, hn2, p_in, p_worn, p_wi, p_creak, p_le0, p_lt1, p_rng, not_true_eq_false, not_false_eq_true, if_true, if_false, and_true, true_and, and_false, false_and, or_true, true_or, or_false, false_or, and_self, or_self, iff_true, true_iff, iff_false, false_iff, decide_eq_true_eq, decide_true, decide_false, Int32.add_zero, Nat.add_zero, ne_eq, Bool.false_eq_true, eq_self]))
      · refine lv_tableIn (off := 86) (tgt := 100) hx hb dX10_cartOf_14 (by rw [sw2e]; decide) (by rw [sw2e]; decide) (by rw [sw2e]; rfl) (by decide) ?_
        subst sw2e
        have hj : (nI 4 : Int32) = nI 4 := rfl
        have hn0 : ¬ (nI 4 = nI 0) := by decide
        have hn1 : ¬ (nI 4 = nI 1) := by decide
        have hn2 : ¬ (nI 4 = nI 2) := by decide
        have hn3 : ¬ (nI 4 = nI 3) := by decide
        refine lv_aload_n hx hb dX10_cartOf_100 rfl (lv_at hl 0 rfl) ?_
        refine va_get (ci := 9) (v := .ref (a 0)) hx hb hts h_X10 hown hK hP 38 rfl rfl 0 (by decide) f10 (fun _ h9 => h9) rfl dX10_cartOf_101 ?_
        refine lv_iload_n hx hb dX10_cartOf_104 rfl (lv_at hl 1 rfl) ?_
        refine zVI [.int (nI (k1))] [] (kX9_weightOfAllOn (a) (y) (KR a b rs (BW ct a d bz (IW ct i (xE g) iv (LW ct lb lz (YW ct sa sy (XO x a sa h b d i lb xv (HW ct h ha hz R))))))) (nI (k1)) (show y_n y ≤ 12 from by omega)) hx hb hml hown hts (cwV 1 hts gX10_cartOf_X9_weightOfAllOn rfl rfl rfl (by decide +kernel) ⟨(Nat.le_of_ble_eq_true rfl), (Nat.le_of_ble_eq_true rfl)⟩) hK hP hD hS hA (va_recv hK hP (ci := 8) (q0 := 0) rfl rfl) rfl hl.1 rfl (Nat.le_of_ble_eq_true rfl) dX10_cartOf_105 ⟨(Nat.le_of_ble_eq_true rfl), (Nat.le_of_ble_eq_true rfl)⟩ (fun r_105 _ H locs hr_105 hP hD hS => ?_)
        subst hr_105
        have hP : va_P D vwCl (YW ct a y (KR a b rs (BW ct a d bz (IW ct i (xE g) iv (LW ct lb lz (YW ct sa sy (XO x a sa h b d i lb xv (HW ct h ha hz R)))))))) H := hP
        have hD : va_D A (YW ct a y (KR a b rs (BW ct a d bz (IW ct i (xE g) iv (LW ct lb lz (YW ct sa sy (XO x a sa h b d i lb xv (HW ct h ha hz R)))))))) := hD
        exact zIret () hx hb hr hlocks hK hP hD hS dX10_cartOf_108 (show (t_all y (nI (k1))) = a_cart y (nI k1) (nI 4) from (by simp only [a_cart, ixI, c8_1, hclk1, hn0, hn1, hn2, hn3, p_in, p_worn, p_wi, p_creak, p_le0, p_lt1, p_rng, not_true_eq_false, not_false_eq_true, if_true, if_false, and_true, true_and, and_false, false_and, or_true, true_or, or_false, false_or, and_self, or_self, iff_true, true_iff, iff_false, false_iff, decide_eq_true_eq, decide_true, decide_false, Int32.add_zero, Nat.add_zero, ne_eq, Bool.false_eq_true, eq_self]))
      · refine lv_tableIn (off := 95) (tgt := 109) hx hb dX10_cartOf_14 (by rw [sw2e]; decide) (by rw [sw2e]; decide) (by rw [sw2e]; rfl) (by decide) ?_
        subst sw2e
        have hj : (nI 5 : Int32) = nI 5 := rfl
        have hn0 : ¬ (nI 5 = nI 0) := by decide
        have hn1 : ¬ (nI 5 = nI 1) := by decide
        have hn2 : ¬ (nI 5 = nI 2) := by decide
        have hn3 : ¬ (nI 5 = nI 3) := by decide
        have hn4 : ¬ (nI 5 = nI 4) := by decide
        refine lv_aload_n hx hb dX10_cartOf_109 rfl (lv_at hl 0 rfl) ?_
        refine va_get (ci := 9) (v := .ref (a 0)) hx hb hts h_X10 hown hK hP 38 rfl rfl 0 (by decide) f10 (fun _ h9 => h9) rfl dX10_cartOf_110 ?_
        refine va_get (ci := 8) (v := .ref (a 7)) hx hb hts h_X9 hown hK hP 0 rfl rfl 8 (by decide) f226 (fun _ h9 => h9) rfl dX10_cartOf_113 ?_
        refine lv_iload_n hx hb dX10_cartOf_116 rfl (lv_at hl 1 rfl) ?_
        refine zIald (n := 4) (f := y_tr y) (i := k1) hx hb hK hP 7 rfl (by omega) (by decide) dX10_cartOf_117 ?_
        exact zIret () hx hb hr hlocks hK hP hD hS dX10_cartOf_118 (show (y_tr y (k1)) = a_cart y (nI k1) (nI 5) from (by simp only [a_cart, ixI, c8_1, hclk1, hn0, hn1, hn2, hn3, hn4, p_in, p_worn, p_wi, p_creak, p_le0, p_lt1, p_rng, not_true_eq_false, not_false_eq_true, if_true, if_false, and_true, true_and, and_false, false_and, or_true, true_or, or_false, false_or, and_self, or_self, iff_true, true_iff, iff_false, false_iff, decide_eq_true_eq, decide_true, decide_false, Int32.add_zero, Nat.add_zero, ne_eq, Bool.false_eq_true, eq_self]))
      · refine lv_tableIn (off := 105) (tgt := 119) hx hb dX10_cartOf_14 (by rw [sw2e]; decide) (by rw [sw2e]; decide) (by rw [sw2e]; rfl) (by decide) ?_
        subst sw2e
        have hj : (nI 6 : Int32) = nI 6 := rfl
        have hn0 : ¬ (nI 6 = nI 0) := by decide
        have hn1 : ¬ (nI 6 = nI 1) := by decide
        have hn2 : ¬ (nI 6 = nI 2) := by decide
        have hn3 : ¬ (nI 6 = nI 3) := by decide
        have hn4 : ¬ (nI 6 = nI 4) := by decide
        have hn5 : ¬ (nI 6 = nI 5) := by decide
        refine lv_aload_n hx hb dX10_cartOf_119 rfl (lv_at hl 0 rfl) ?_
        refine va_get (ci := 9) (v := .ref (b 0)) hx hb hts h_X10 hown hK hP 38 rfl rfl 5 (by decide) f42 (fun _ h9 => h9) rfl dX10_cartOf_120 ?_
        refine lv_iload_n hx hb dX10_cartOf_123 rfl (lv_at hl 1 rfl) ?_
        refine zVI [.int (nI (k1))] [] (kX7_imbalance (a) (y) (b) (rs) (BW ct a d bz (IW ct i (xE g) iv (LW ct lb lz (YW ct sa sy (XO x a sa h b d i lb xv (HW ct h ha hz R)))))) (nI (k1)) (show y_n y ≤ 12 from by omega) (show ∀ j9, j9 < y_n y → y_kd y j9 = nI 0 ∨ y_kd y j9 = nI 1 from hkd)) hx hb hml hown hts (cwV 1 hts gX10_cartOf_X7_imbalance rfl rfl rfl (by decide +kernel) ⟨(Nat.le_of_ble_eq_true rfl), (Nat.le_of_ble_eq_true rfl)⟩) hK hP hD hS hA (va_recv hK hP (ci := 6) (q0 := 12) rfl rfl) rfl hl.1 rfl (Nat.le_of_ble_eq_true rfl) dX10_cartOf_124 ⟨(Nat.le_of_ble_eq_true rfl), (Nat.le_of_ble_eq_true rfl)⟩ (fun r_124 _ H locs hr_124 hP hD hS => ?_)
        subst hr_124
        have hP : va_P D vwCl (YW ct a y (KR a b rs (BW ct a d bz (IW ct i (xE g) iv (LW ct lb lz (YW ct sa sy (XO x a sa h b d i lb xv (HW ct h ha hz R)))))))) H := hP
        have hD : va_D A (YW ct a y (KR a b rs (BW ct a d bz (IW ct i (xE g) iv (LW ct lb lz (YW ct sa sy (XO x a sa h b d i lb xv (HW ct h ha hz R)))))))) := hD
        exact zIret () hx hb hr hlocks hK hP hD hS dX10_cartOf_127 (show (t_im y (nI (k1))) = a_cart y (nI k1) (nI 6) from (by simp only [a_cart, ixI, c8_1, hclk1, hn0, hn1, hn2, hn3, hn4, hn5, p_in, p_worn, p_wi, p_creak, p_le0, p_lt1, p_rng, not_true_eq_false, not_false_eq_true, if_true, if_false, and_true, true_and, and_false, false_and, or_true, true_or, or_false, false_or, and_self, or_self, iff_true, true_iff, iff_false, false_iff, decide_eq_true_eq, decide_true, decide_false, Int32.add_zero, Nat.add_zero, ne_eq, Bool.false_eq_true, eq_self]))
      · refine lv_tableIn (off := 114) (tgt := 128) hx hb dX10_cartOf_14 (by rw [sw2e]; decide) (by rw [sw2e]; decide) (by rw [sw2e]; rfl) (by decide) ?_
        subst sw2e
        have hj : (nI 7 : Int32) = nI 7 := rfl
        have hn0 : ¬ (nI 7 = nI 0) := by decide
        have hn1 : ¬ (nI 7 = nI 1) := by decide
        have hn2 : ¬ (nI 7 = nI 2) := by decide
        have hn3 : ¬ (nI 7 = nI 3) := by decide
        have hn4 : ¬ (nI 7 = nI 4) := by decide
        have hn5 : ¬ (nI 7 = nI 5) := by decide
        have hn6 : ¬ (nI 7 = nI 6) := by decide
        refine lv_aload_n hx hb dX10_cartOf_128 rfl (lv_at hl 0 rfl) ?_
        refine va_get (ci := 9) (v := .ref (b 0)) hx hb hts h_X10 hown hK hP 38 rfl rfl 5 (by decide) f42 (fun _ h9 => h9) rfl dX10_cartOf_129 ?_
        refine lv_iload_n hx hb dX10_cartOf_132 rfl (lv_at hl 1 rfl) ?_
        refine zVI [.int (nI (k1))] [] (kX7_creakingAxles (a) (y) (b) (rs) (BW ct a d bz (IW ct i (xE g) iv (LW ct lb lz (YW ct sa sy (XO x a sa h b d i lb xv (HW ct h ha hz R)))))) (k1) (show yI y from hy) (show (k1) < y_cn y from by omega)) hx hb hml hown hts (cwV 1 hts gX10_cartOf_X7_creakingAxles rfl rfl rfl (by decide +kernel) ⟨(Nat.le_of_ble_eq_true rfl), (Nat.le_of_ble_eq_true rfl)⟩) hK hP hD hS hA (va_recv hK hP (ci := 6) (q0 := 12) rfl rfl) rfl hl.1 rfl (Nat.le_of_ble_eq_true rfl) dX10_cartOf_133 ⟨(Nat.le_of_ble_eq_true rfl), (Nat.le_of_ble_eq_true rfl)⟩ (fun r_133 _ H locs hr_133 hP hD hS => ?_)
        subst hr_133
        have hP : va_P D vwCl (YW ct a y (KR a b rs (BW ct a d bz (IW ct i (xE g) iv (LW ct lb lz (YW ct sa sy (XO x a sa h b d i lb xv (HW ct h ha hz R)))))))) H := hP
        have hD : va_D A (YW ct a y (KR a b rs (BW ct a d bz (IW ct i (xE g) iv (LW ct lb lz (YW ct sa sy (XO x a sa h b d i lb xv (HW ct h ha hz R)))))))) := hD
        have q133 := t_cr_le y (k1)
        exact zIret () hx hb hr hlocks hK hP hD hS dX10_cartOf_136 (show nI (t_cr y (k1)) = a_cart y (nI k1) (nI 7) from (by simp only [a_cart, ixI, c8_1, hclk1, hn0, hn1, hn2, hn3, hn4, hn5, hn6, p_in, p_worn, p_wi, p_creak, p_le0, p_lt1, p_rng, not_true_eq_false, not_false_eq_true, if_true, if_false, and_true, true_and, and_false, false_and, or_true, true_or, or_false, false_or, and_self, or_self, iff_true, true_iff, iff_false, false_iff, decide_eq_true_eq, decide_true, decide_false, Int32.add_zero, Nat.add_zero, ne_eq, Bool.false_eq_true, eq_self]))
  · skip
    refine lv_iconst (v := (-1)) hx hb dX10_cartOf_11 (by decide) ?_
    exact zIret () hx hb hr hlocks hK hP hD hS dX10_cartOf_12 (show (-1) = a_cart y x1 x2 from (by simp only [a_cart, ixI, c8_1, p_in, p_worn, p_wi, p_creak, p_le0, p_lt1, p_rng, not_true_eq_false, not_false_eq_true, if_true, if_false, and_true, true_and, and_false, false_and, or_true, true_or, or_false, false_or, and_self, or_self, iff_true, true_iff, iff_false, false_iff, decide_eq_true_eq, decide_true, decide_false, Int32.add_zero, Nat.add_zero, ne_eq, Bool.false_eq_true, eq_self]))
abbrev rmX10_at : Room := { frames := 1, cells := 0, slots := 0, locals := 23 }
theorem in_X10_at_X10 : ∀ w ∈ u_ws RX10 TX10 12, w ∈ wsX10_at := by decide +kernel
set_option maxHeartbeats 4000000 in
set_option maxRecDepth 100000 in
theorem kX10_at {D : va_G} {g : XG} {ct : Nat → ClassId} {l : Launch} (a : Nat → Nat) (y : YS) (b : Nat → Nat) (rs : RS) (d : Nat → Nat) (bz : BS) (i : Nat → Nat) (iv : IS) (lb : Nat → Nat) (lz : LST) (sa : Nat → Nat) (sy : YS) (x : Nat → Nat) (xv : Int32 × Int32) (h : Nat → Nat) (ha : Nat → Nat → Nat) (hz : HS) (R : va_W) (x1 : Int32) (x2 : Int32) (hy : yI y) (hf : yF y) : MX D ct g l yX10_at wsX10_at rmX10_at (YW ct a y (KR a b rs (BW ct a d bz (IW ct i (xE g) iv (LW ct lb lz (YW ct sa sy (XO x a sa h b d i lb xv (HW ct h ha hz R)))))))) [.ref (x 0), .int (x1), .int (x2)] (QI D ct (fun r0 (_ : Unit) => r0 = a_at y x1 x2) (fun _ : Unit => YW ct a y (KR a b rs (BW ct a d bz (IW ct i (xE g) iv (LW ct lb lz (YW ct sa sy (XO x a sa h b d i lb xv (HW ct h ha hz R))))))))) := by
  refine MXof (cc := cX10_at) (maxL := 3) (ret := (some .int)) (by decide) rfl (Nat.le_of_ble_eq_true rfl) ?_
  intro p e s m args below meth c A H locs F hP hK hD hS hA hX ls hl
  obtain ⟨hx, hb, hr, hlocks, hml, hown, hts, hin⟩ := F
  have hl : lv_has ls 3 [(0, .ref (x 0)), (1, .int (x1)), (2, .int (x2))] := hl
  have hkd : ∀ j9, j9 < y_n y → y_kd y j9 = nI 0 ∨ y_kd y j9 = nI 1 := fun j9 hj9 => (hy.2.2.2.1 j9 hj9).1
  have hn : y_n y ≤ 12 := hy.1
  have hcn : y_cn y ≤ 4 := hy.2.1
  have hrn : y_rn y ≤ 5 := hy.2.2.1
  have h_X10 := in_X10_at_X10
  have f10 := hts (.fieldLink RX10 10 "CartArguments" "yard" "LCartArguments$Yard;") (by decide +kernel)
  refine lv_aload_n hx hb dX10_at_0 rfl (lv_at hl 0 rfl) ?_
  refine va_get (ci := 9) (v := .ref (a 0)) hx hb hts h_X10 hown hK hP 38 rfl rfl 0 (by decide) f10 (fun _ h9 => h9) rfl dX10_at_1 ?_
  refine lv_iload_n hx hb dX10_at_4 rfl (lv_at hl 1 rfl) ?_
  refine zVI [.int (x1)] [] (kX9_isCart (a) (y) (KR a b rs (BW ct a d bz (IW ct i (xE g) iv (LW ct lb lz (YW ct sa sy (XO x a sa h b d i lb xv (HW ct h ha hz R))))))) (x1)) hx hb hml hown hts (cwV 1 hts gX10_at_X9_isCart rfl rfl rfl (by decide +kernel) ⟨(Nat.le_of_ble_eq_true rfl), (Nat.le_of_ble_eq_true rfl)⟩) hK hP hD hS hA (va_recv hK hP (ci := 8) (q0 := 0) rfl rfl) rfl hl.1 rfl (Nat.le_of_ble_eq_true rfl) dX10_at_5 ⟨(Nat.le_of_ble_eq_true rfl), (Nat.le_of_ble_eq_true rfl)⟩ (fun r_5 _ H locs hr_5 hP hD hS => ?_)
  subst hr_5
  have hP : va_P D vwCl (YW ct a y (KR a b rs (BW ct a d bz (IW ct i (xE g) iv (LW ct lb lz (YW ct sa sy (XO x a sa h b d i lb xv (HW ct h ha hz R)))))))) H := hP
  have hD : va_D A (YW ct a y (KR a b rs (BW ct a d bz (IW ct i (xE g) iv (LW ct lb lz (YW ct sa sy (XO x a sa h b d i lb xv (HW ct h ha hz R)))))))) := hD
  refine zB_if_ne (tgt := 13) hx hb dX10_at_8 (by decide) (fun c8_1 => ?_) (fun c8_1 => ?_)
  · skip
    refine lv_iload_n hx hb dX10_at_13 rfl (lv_at hl 2 rfl) ?_
    refine lv_if_lt (tgt := 23) hx hb dX10_at_14 (by decide) (fun c14_2 => ?_) (fun c14_2 => ?_)
    · skip
      refine lv_bipush (v := (-2)) hx hb dX10_at_23 (by decide) ?_
      exact zIret () hx hb hr hlocks hK hP hD hS dX10_at_25 (show (-2) = a_at y x1 x2 from (by simp only [a_at, ixI, c8_1, c14_2, p_in, p_worn, p_wi, p_creak, p_le0, p_lt1, p_rng, not_true_eq_false, not_false_eq_true, if_true, if_false, and_true, true_and, and_false, false_and, or_true, true_or, or_false, false_or, and_self, or_self, iff_true, true_iff, iff_false, false_iff, decide_eq_true_eq, decide_true, decide_false, Int32.add_zero, Nat.add_zero, ne_eq, Bool.false_eq_true, eq_self]))
    · skip
      refine lv_iload_n hx hb dX10_at_17 rfl (lv_at hl 2 rfl) ?_
      refine lv_bipush (v := nI (6)) hx hb dX10_at_18 (by decide) ?_
      refine lv_icmp_le (tgt := 26) hx hb dX10_at_20 (by decide) (fun c20_3 => ?_) (fun c20_3 => ?_)
      · skip
        refine lv_aload_n hx hb dX10_at_26 rfl (lv_at hl 0 rfl) ?_
        refine va_get (ci := 9) (v := .ref (a 0)) hx hb hts h_X10 hown hK hP 38 rfl rfl 0 (by decide) f10 (fun _ h9 => h9) rfl dX10_at_27 ?_
        refine lv_iload_n hx hb dX10_at_30 rfl (lv_at hl 1 rfl) ?_
        refine lv_iload_n hx hb dX10_at_31 rfl (lv_at hl 2 rfl) ?_
        refine zVI [.int (x1), .int (x2)] [] (kX9_thingAt (a) (y) (KR a b rs (BW ct a d bz (IW ct i (xE g) iv (LW ct lb lz (YW ct sa sy (XO x a sa h b d i lb xv (HW ct h ha hz R))))))) (x1) (x2) (show y_n y ≤ 12 from by omega)) hx hb hml hown hts (cwV 2 hts gX10_at_X9_thingAt rfl rfl rfl (by decide +kernel) ⟨(Nat.le_of_ble_eq_true rfl), (Nat.le_of_ble_eq_true rfl)⟩) hK hP hD hS hA (va_recv hK hP (ci := 8) (q0 := 0) rfl rfl) rfl hl.1 rfl (Nat.le_of_ble_eq_true rfl) dX10_at_32 ⟨(Nat.le_of_ble_eq_true rfl), (Nat.le_of_ble_eq_true rfl)⟩ (fun r_32 _ H locs hr_32 hP hD hS => ?_)
        subst hr_32
        have hP : va_P D vwCl (YW ct a y (KR a b rs (BW ct a d bz (IW ct i (xE g) iv (LW ct lb lz (YW ct sa sy (XO x a sa h b d i lb xv (HW ct h ha hz R)))))))) H := hP
        have hD : va_D A (YW ct a y (KR a b rs (BW ct a d bz (IW ct i (xE g) iv (LW ct lb lz (YW ct sa sy (XO x a sa h b d i lb xv (HW ct h ha hz R)))))))) := hD
        exact zIret () hx hb hr hlocks hK hP hD hS dX10_at_35 (show (t_at y (x1) (x2)) = a_at y x1 x2 from (by simp only [a_at, ixI, c8_1, c14_2, c20_3, p_in, p_worn, p_wi, p_creak, p_le0, p_lt1, p_rng, not_true_eq_false, not_false_eq_true, if_true, if_false, and_true, true_and, and_false, false_and, or_true, true_or, or_false, false_or, and_self, or_self, iff_true, true_iff, iff_false, false_iff, decide_eq_true_eq, decide_true, decide_false, Int32.add_zero, Nat.add_zero, ne_eq, Bool.false_eq_true, eq_self]))
      · skip
        refine lv_bipush (v := (-2)) hx hb dX10_at_23 (by decide) ?_
        exact zIret () hx hb hr hlocks hK hP hD hS dX10_at_25 (show (-2) = a_at y x1 x2 from (by simp only [a_at, ixI, c8_1, c14_2, c20_3, p_in, p_worn, p_wi, p_creak, p_le0, p_lt1, p_rng, not_true_eq_false, not_false_eq_true, if_true, if_false, and_true, true_and, and_false, false_and, or_true, true_or, or_false, false_or, and_self, or_self, iff_true, true_iff, iff_false, false_iff, decide_eq_true_eq, decide_true, decide_false, Int32.add_zero, Nat.add_zero, ne_eq, Bool.false_eq_true, eq_self]))
  · skip
    refine lv_iconst (v := (-1)) hx hb dX10_at_11 (by decide) ?_
    exact zIret () hx hb hr hlocks hK hP hD hS dX10_at_12 (show (-1) = a_at y x1 x2 from (by simp only [a_at, ixI, c8_1, p_in, p_worn, p_wi, p_creak, p_le0, p_lt1, p_rng, not_true_eq_false, not_false_eq_true, if_true, if_false, and_true, true_and, and_false, false_and, or_true, true_or, or_false, false_or, and_self, or_self, iff_true, true_iff, iff_false, false_iff, decide_eq_true_eq, decide_true, decide_false, Int32.add_zero, Nat.add_zero, ne_eq, Bool.false_eq_true, eq_self]))
abbrev rmX10_roadOf : Room := { frames := 1, cells := 0, slots := 0, locals := 21 }
theorem in_X10_roadOf_X10 : ∀ w ∈ u_ws RX10 TX10 12, w ∈ wsX10_roadOf := by decide +kernel
theorem in_X10_roadOf_X9 : ∀ w ∈ u_ws RX9 TX9 16, w ∈ wsX10_roadOf := by decide +kernel
set_option maxHeartbeats 4000000 in
set_option maxRecDepth 100000 in
theorem kX10_roadOf {D : va_G} {g : XG} {ct : Nat → ClassId} {l : Launch} (a : Nat → Nat) (y : YS) (b : Nat → Nat) (rs : RS) (d : Nat → Nat) (bz : BS) (i : Nat → Nat) (iv : IS) (lb : Nat → Nat) (lz : LST) (sa : Nat → Nat) (sy : YS) (x : Nat → Nat) (xv : Int32 × Int32) (h : Nat → Nat) (ha : Nat → Nat → Nat) (hz : HS) (R : va_W) (x1 : Int32) (x2 : Int32) (hy : yI y) (hf : yF y) : MX D ct g l yX10_roadOf wsX10_roadOf rmX10_roadOf (YW ct a y (KR a b rs (BW ct a d bz (IW ct i (xE g) iv (LW ct lb lz (YW ct sa sy (XO x a sa h b d i lb xv (HW ct h ha hz R)))))))) [.ref (x 0), .int (x1), .int (x2)] (QI D ct (fun r0 (_ : Unit) => r0 = a_road y x1 x2) (fun _ : Unit => YW ct a y (KR a b rs (BW ct a d bz (IW ct i (xE g) iv (LW ct lb lz (YW ct sa sy (XO x a sa h b d i lb xv (HW ct h ha hz R))))))))) := by
  refine MXof (cc := cX10_roadOf) (maxL := 3) (ret := (some .int)) (by decide) rfl (Nat.le_of_ble_eq_true rfl) ?_
  intro p e s m args below meth c A H locs F hP hK hD hS hA hX ls hl
  obtain ⟨hx, hb, hr, hlocks, hml, hown, hts, hin⟩ := F
  have hl : lv_has ls 3 [(0, .ref (x 0)), (1, .int (x1)), (2, .int (x2))] := hl
  have hkd : ∀ j9, j9 < y_n y → y_kd y j9 = nI 0 ∨ y_kd y j9 = nI 1 := fun j9 hj9 => (hy.2.2.2.1 j9 hj9).1
  have hn : y_n y ≤ 12 := hy.1
  have hcn : y_cn y ≤ 4 := hy.2.1
  have hrn : y_rn y ≤ 5 := hy.2.2.1
  have h_X10 := in_X10_roadOf_X10
  have h_X9 := in_X10_roadOf_X9
  have f10 := hts (.fieldLink RX10 10 "CartArguments" "yard" "LCartArguments$Yard;") (by decide +kernel)
  have f238 := hts (.fieldLink RX10 238 "CartArguments$Yard" "limits" "[I") (by decide +kernel)
  have f241 := hts (.fieldLink RX10 241 "CartArguments$Yard" "miles" "[I") (by decide +kernel)
  have f244 := hts (.fieldLink RX10 244 "CartArguments$Yard" "rates" "[I") (by decide +kernel)
  have f247 := hts (.fieldLink RX10 247 "CartArguments$Yard" "roadTrips" "[I") (by decide +kernel)
  refine lv_aload_n hx hb dX10_roadOf_0 rfl (lv_at hl 0 rfl) ?_
  refine va_get (ci := 9) (v := .ref (a 0)) hx hb hts h_X10 hown hK hP 38 rfl rfl 0 (by decide) f10 (fun _ h9 => h9) rfl dX10_roadOf_1 ?_
  refine lv_iload_n hx hb dX10_roadOf_4 rfl (lv_at hl 1 rfl) ?_
  refine zVI [.int (x1)] [] (kX9_isRoad (a) (y) (KR a b rs (BW ct a d bz (IW ct i (xE g) iv (LW ct lb lz (YW ct sa sy (XO x a sa h b d i lb xv (HW ct h ha hz R))))))) (x1)) hx hb hml hown hts (cwV 1 hts gX10_roadOf_X9_isRoad rfl rfl rfl (by decide +kernel) ⟨(Nat.le_of_ble_eq_true rfl), (Nat.le_of_ble_eq_true rfl)⟩) hK hP hD hS hA (va_recv hK hP (ci := 8) (q0 := 0) rfl rfl) rfl hl.1 rfl (Nat.le_of_ble_eq_true rfl) dX10_roadOf_5 ⟨(Nat.le_of_ble_eq_true rfl), (Nat.le_of_ble_eq_true rfl)⟩ (fun r_5 _ H locs hr_5 hP hD hS => ?_)
  subst hr_5
  have hP : va_P D vwCl (YW ct a y (KR a b rs (BW ct a d bz (IW ct i (xE g) iv (LW ct lb lz (YW ct sa sy (XO x a sa h b d i lb xv (HW ct h ha hz R)))))))) H := hP
  have hD : va_D A (YW ct a y (KR a b rs (BW ct a d bz (IW ct i (xE g) iv (LW ct lb lz (YW ct sa sy (XO x a sa h b d i lb xv (HW ct h ha hz R)))))))) := hD
  refine zB_if_ne (tgt := 13) hx hb dX10_roadOf_8 (by decide) (fun c8_1 => ?_) (fun c8_1 => ?_)
  · skip
    obtain ⟨k1, hk1, ek1⟩ := p_in_ex (n := y_rn y) (by omega) c8_1
    subst ek1
    have hclk1 : (nI k1).toNatClampNeg = k1 := nI_clamp (by omega)
    refine lv_iload_n hx hb dX10_roadOf_13 rfl (lv_at hl 2 rfl) ?_
    rcases zSw 0 3 (x2) (by decide) (by decide) with sw2 | ⟨j, sw2, sw2e⟩
    · refine lv_tableOut (tgt := 84) hx hb dX10_roadOf_14 (zSwO sw2) (by decide) ?_
      have hd0 : ¬ x2 = nI 0 := zSwN (j := 0) sw2 (by decide) (by decide) (by decide)
      have hd1 : ¬ x2 = nI 1 := zSwN (j := 1) sw2 (by decide) (by decide) (by decide)
      have hd2 : ¬ x2 = nI 2 := zSwN (j := 2) sw2 (by decide) (by decide) (by decide)
      have hd3 : ¬ x2 = nI 3 := zSwN (j := 3) sw2 (by decide) (by decide) (by decide)
      refine lv_bipush (v := (-2)) hx hb dX10_roadOf_84 (by decide) ?_
      exact zIret () hx hb hr hlocks hK hP hD hS dX10_roadOf_86 (show (-2) = a_road y (nI k1) x2 from (by simp only [a_road, ixI, c8_1, hclk1, hd0, hd1, hd2, hd3, p_in, p_worn, p_wi, p_creak, p_le0, p_lt1, p_rng, not_true_eq_false, not_false_eq_true, if_true, if_false, and_true, true_and, and_false, false_and, or_true, true_or, or_false, false_or, and_self, or_self, iff_true, true_iff, iff_false, false_iff, decide_eq_true_eq, decide_true, decide_false, Int32.add_zero, Nat.add_zero, ne_eq, Bool.false_eq_true, eq_self]))
    · rcases (show j = 0 ∨ j = 1 ∨ j = 2 ∨ j = 3 by omega) with rfl | rfl | rfl | rfl
      · refine lv_tableIn (off := 30) (tgt := 44) hx hb dX10_roadOf_14 (by rw [sw2e]; decide) (by rw [sw2e]; decide) (by rw [sw2e]; rfl) (by decide) ?_
        subst sw2e
        have hj : (nI 0 : Int32) = nI 0 := rfl
        refine lv_aload_n hx hb dX10_roadOf_44 rfl (lv_at hl 0 rfl) ?_
        refine va_get (ci := 9) (v := .ref (a 0)) hx hb hts h_X10 hown hK hP 38 rfl rfl 0 (by decide) f10 (fun _ h9 => h9) rfl dX10_roadOf_45 ?_
        refine va_get (ci := 8) (v := .ref (a 8)) hx hb hts h_X9 hown hK hP 0 rfl rfl 10 (by decide) f238 (fun _ h9 => h9) rfl dX10_roadOf_48 ?_
        refine lv_iload_n hx hb dX10_roadOf_51 rfl (lv_at hl 1 rfl) ?_
        refine zIald (n := 5) (f := y_li y) (i := k1) hx hb hK hP 8 rfl (by omega) (by decide) dX10_roadOf_52 ?_
        exact zIret () hx hb hr hlocks hK hP hD hS dX10_roadOf_53 (show (y_li y (k1)) = a_road y (nI k1) (nI 0) from (by simp only [a_road, ixI, c8_1, hclk1, p_in, p_worn, p_wi, p_creak, p_le0, p_lt1, p_rng, not_true_eq_false, not_false_eq_true, if_true, if_false, and_true, true_and, and_false, false_and, or_true, true_or, or_false, false_or, and_self, or_self, iff_true, true_iff, iff_false, false_iff, decide_eq_true_eq, decide_true, decide_false, Int32.add_zero, Nat.add_zero, ne_eq, Bool.false_eq_true, eq_self]))
      · refine lv_tableIn (off := 40) (tgt := 54) hx hb dX10_roadOf_14 (by rw [sw2e]; decide) (by rw [sw2e]; decide) (by rw [sw2e]; rfl) (by decide) ?_
        subst sw2e
        have hj : (nI 1 : Int32) = nI 1 := rfl
        have hn0 : ¬ (nI 1 = nI 0) := by decide
        refine lv_aload_n hx hb dX10_roadOf_54 rfl (lv_at hl 0 rfl) ?_
        refine va_get (ci := 9) (v := .ref (a 0)) hx hb hts h_X10 hown hK hP 38 rfl rfl 0 (by decide) f10 (fun _ h9 => h9) rfl dX10_roadOf_55 ?_
        refine va_get (ci := 8) (v := .ref (a 9)) hx hb hts h_X9 hown hK hP 0 rfl rfl 11 (by decide) f241 (fun _ h9 => h9) rfl dX10_roadOf_58 ?_
        refine lv_iload_n hx hb dX10_roadOf_61 rfl (lv_at hl 1 rfl) ?_
        refine zIald (n := 5) (f := y_mi y) (i := k1) hx hb hK hP 9 rfl (by omega) (by decide) dX10_roadOf_62 ?_
        exact zIret () hx hb hr hlocks hK hP hD hS dX10_roadOf_63 (show (y_mi y (k1)) = a_road y (nI k1) (nI 1) from (by simp only [a_road, ixI, c8_1, hclk1, hn0, p_in, p_worn, p_wi, p_creak, p_le0, p_lt1, p_rng, not_true_eq_false, not_false_eq_true, if_true, if_false, and_true, true_and, and_false, false_and, or_true, true_or, or_false, false_or, and_self, or_self, iff_true, true_iff, iff_false, false_iff, decide_eq_true_eq, decide_true, decide_false, Int32.add_zero, Nat.add_zero, ne_eq, Bool.false_eq_true, eq_self]))
      · refine lv_tableIn (off := 50) (tgt := 64) hx hb dX10_roadOf_14 (by rw [sw2e]; decide) (by rw [sw2e]; decide) (by rw [sw2e]; rfl) (by decide) ?_
        subst sw2e
        have hj : (nI 2 : Int32) = nI 2 := rfl
        have hn0 : ¬ (nI 2 = nI 0) := by decide
        have hn1 : ¬ (nI 2 = nI 1) := by decide
        refine lv_aload_n hx hb dX10_roadOf_64 rfl (lv_at hl 0 rfl) ?_
        refine va_get (ci := 9) (v := .ref (a 0)) hx hb hts h_X10 hown hK hP 38 rfl rfl 0 (by decide) f10 (fun _ h9 => h9) rfl dX10_roadOf_65 ?_
        refine va_get (ci := 8) (v := .ref (a 10)) hx hb hts h_X9 hown hK hP 0 rfl rfl 12 (by decide) f244 (fun _ h9 => h9) rfl dX10_roadOf_68 ?_
        refine lv_iload_n hx hb dX10_roadOf_71 rfl (lv_at hl 1 rfl) ?_
        refine zIald (n := 5) (f := y_ra y) (i := k1) hx hb hK hP 10 rfl (by omega) (by decide) dX10_roadOf_72 ?_
        exact zIret () hx hb hr hlocks hK hP hD hS dX10_roadOf_73 (show (y_ra y (k1)) = a_road y (nI k1) (nI 2) from (by simp only [a_road, ixI, c8_1, hclk1, hn0, hn1, p_in, p_worn, p_wi, p_creak, p_le0, p_lt1, p_rng, not_true_eq_false, not_false_eq_true, if_true, if_false, and_true, true_and, and_false, false_and, or_true, true_or, or_false, false_or, and_self, or_self, iff_true, true_iff, iff_false, false_iff, decide_eq_true_eq, decide_true, decide_false, Int32.add_zero, Nat.add_zero, ne_eq, Bool.false_eq_true, eq_self]))
      · refine lv_tableIn (off := 60) (tgt := 74) hx hb dX10_roadOf_14 (by rw [sw2e]; decide) (by rw [sw2e]; decide) (by rw [sw2e]; rfl) (by decide) ?_
        subst sw2e
        have hj : (nI 3 : Int32) = nI 3 := rfl
        have hn0 : ¬ (nI 3 = nI 0) := by decide
        have hn1 : ¬ (nI 3 = nI 1) := by decide
        have hn2 : ¬ (nI 3 = nI 2) := by decide
        refine lv_aload_n hx hb dX10_roadOf_74 rfl (lv_at hl 0 rfl) ?_
        refine va_get (ci := 9) (v := .ref (a 0)) hx hb hts h_X10 hown hK hP 38 rfl rfl 0 (by decide) f10 (fun _ h9 => h9) rfl dX10_roadOf_75 ?_
        refine va_get (ci := 8) (v := .ref (a 11)) hx hb hts h_X9 hown hK hP 0 rfl rfl 13 (by decide) f247 (fun _ h9 => h9) rfl dX10_roadOf_78 ?_
        refine lv_iload_n hx hb dX10_roadOf_81 rfl (lv_at hl 1 rfl) ?_
        refine zIald (n := 5) (f := y_rt y) (i := k1) hx hb hK hP 11 rfl (by omega) (by decide) dX10_roadOf_82 ?_
        exact zIret () hx hb hr hlocks hK hP hD hS dX10_roadOf_83 (show (y_rt y (k1)) = a_road y (nI k1) (nI 3) from (by simp only [a_road, ixI, c8_1, hclk1, hn0, hn1, hn2, p_in, p_worn, p_wi, p_creak, p_le0, p_lt1, p_rng, not_true_eq_false, not_false_eq_true, if_true, if_false, and_true, true_and, and_false, false_and, or_true, true_or, or_false, false_or, and_self, or_self, iff_true, true_iff, iff_false, false_iff, decide_eq_true_eq, decide_true, decide_false, Int32.add_zero, Nat.add_zero, ne_eq, Bool.false_eq_true, eq_self]))
  · skip
    refine lv_iconst (v := (-1)) hx hb dX10_roadOf_11 (by decide) ?_
    exact zIret () hx hb hr hlocks hK hP hD hS dX10_roadOf_12 (show (-1) = a_road y x1 x2 from (by simp only [a_road, ixI, c8_1, p_in, p_worn, p_wi, p_creak, p_le0, p_lt1, p_rng, not_true_eq_false, not_false_eq_true, if_true, if_false, and_true, true_and, and_false, false_and, or_true, true_or, or_false, false_or, and_self, or_self, iff_true, true_iff, iff_false, false_iff, decide_eq_true_eq, decide_true, decide_false, Int32.add_zero, Nat.add_zero, ne_eq, Bool.false_eq_true, eq_self]))
abbrev rmX10_tenths : Room := { frames := 1, cells := 0, slots := 0, locals := 25 }
theorem in_X10_tenths_X10 : ∀ w ∈ u_ws RX10 TX10 12, w ∈ wsX10_tenths := by decide +kernel
set_option maxHeartbeats 4000000 in
set_option maxRecDepth 100000 in
theorem kX10_tenths {D : va_G} {g : XG} {ct : Nat → ClassId} {l : Launch} (a : Nat → Nat) (y : YS) (b : Nat → Nat) (rs : RS) (d : Nat → Nat) (bz : BS) (i : Nat → Nat) (iv : IS) (lb : Nat → Nat) (lz : LST) (sa : Nat → Nat) (sy : YS) (x : Nat → Nat) (xv : Int32 × Int32) (h : Nat → Nat) (ha : Nat → Nat → Nat) (hz : HS) (R : va_W) (x1 : Int32) (x2 : Int32) (hy : yI y) (hf : yF y) : MX D ct g l yX10_tenths wsX10_tenths rmX10_tenths (YW ct a y (KR a b rs (BW ct a d bz (IW ct i (xE g) iv (LW ct lb lz (YW ct sa sy (XO x a sa h b d i lb xv (HW ct h ha hz R)))))))) [.ref (x 0), .int (x1), .int (x2)] (QI D ct (fun r0 (_ : Unit) => r0 = a_ten y x1 x2) (fun _ : Unit => YW ct a y (KR a b rs (BW ct a d bz (IW ct i (xE g) iv (LW ct lb lz (YW ct sa sy (XO x a sa h b d i lb xv (HW ct h ha hz R))))))))) := by
  refine MXof (cc := cX10_tenths) (maxL := 3) (ret := (some .int)) (by decide) rfl (Nat.le_of_ble_eq_true rfl) ?_
  intro p e s m args below meth c A H locs F hP hK hD hS hA hX ls hl
  obtain ⟨hx, hb, hr, hlocks, hml, hown, hts, hin⟩ := F
  have hl : lv_has ls 3 [(0, .ref (x 0)), (1, .int (x1)), (2, .int (x2))] := hl
  have hkd : ∀ j9, j9 < y_n y → y_kd y j9 = nI 0 ∨ y_kd y j9 = nI 1 := fun j9 hj9 => (hy.2.2.2.1 j9 hj9).1
  have hn : y_n y ≤ 12 := hy.1
  have hcn : y_cn y ≤ 4 := hy.2.1
  have hrn : y_rn y ≤ 5 := hy.2.2.1
  have h_X10 := in_X10_tenths_X10
  have f10 := hts (.fieldLink RX10 10 "CartArguments" "yard" "LCartArguments$Yard;") (by decide +kernel)
  have f42 := hts (.fieldLink RX10 42 "CartArguments" "scale" "LCartArguments$Scale;") (by decide +kernel)
  refine lv_aload_n hx hb dX10_tenths_0 rfl (lv_at hl 0 rfl) ?_
  refine va_get (ci := 9) (v := .ref (a 0)) hx hb hts h_X10 hown hK hP 38 rfl rfl 0 (by decide) f10 (fun _ h9 => h9) rfl dX10_tenths_1 ?_
  refine lv_iload_n hx hb dX10_tenths_4 rfl (lv_at hl 1 rfl) ?_
  refine zVI [.int (x1)] [] (kX9_isCart (a) (y) (KR a b rs (BW ct a d bz (IW ct i (xE g) iv (LW ct lb lz (YW ct sa sy (XO x a sa h b d i lb xv (HW ct h ha hz R))))))) (x1)) hx hb hml hown hts (cwV 1 hts gX10_tenths_X9_isCart rfl rfl rfl (by decide +kernel) ⟨(Nat.le_of_ble_eq_true rfl), (Nat.le_of_ble_eq_true rfl)⟩) hK hP hD hS hA (va_recv hK hP (ci := 8) (q0 := 0) rfl rfl) rfl hl.1 rfl (Nat.le_of_ble_eq_true rfl) dX10_tenths_5 ⟨(Nat.le_of_ble_eq_true rfl), (Nat.le_of_ble_eq_true rfl)⟩ (fun r_5 _ H locs hr_5 hP hD hS => ?_)
  subst hr_5
  have hP : va_P D vwCl (YW ct a y (KR a b rs (BW ct a d bz (IW ct i (xE g) iv (LW ct lb lz (YW ct sa sy (XO x a sa h b d i lb xv (HW ct h ha hz R)))))))) H := hP
  have hD : va_D A (YW ct a y (KR a b rs (BW ct a d bz (IW ct i (xE g) iv (LW ct lb lz (YW ct sa sy (XO x a sa h b d i lb xv (HW ct h ha hz R)))))))) := hD
  refine zB_if_eq (tgt := 23) hx hb dX10_tenths_8 (by decide) (fun c8_1 => ?_) (fun c8_1 => ?_)
  · skip
    refine lv_iconst (v := (-1)) hx hb dX10_tenths_23 (by decide) ?_
    exact zIret () hx hb hr hlocks hK hP hD hS dX10_tenths_24 (show (-1) = a_ten y x1 x2 from (by simp only [a_ten, ixI, c8_1, p_in, p_worn, p_wi, p_creak, p_le0, p_lt1, p_rng, not_true_eq_false, not_false_eq_true, if_true, if_false, and_true, true_and, and_false, false_and, or_true, true_or, or_false, false_or, and_self, or_self, iff_true, true_iff, iff_false, false_iff, decide_eq_true_eq, decide_true, decide_false, Int32.add_zero, Nat.add_zero, ne_eq, Bool.false_eq_true, eq_self]))
  · skip
    refine lv_aload_n hx hb dX10_tenths_11 rfl (lv_at hl 0 rfl) ?_
    refine va_get (ci := 9) (v := .ref (b 0)) hx hb hts h_X10 hown hK hP 38 rfl rfl 5 (by decide) f42 (fun _ h9 => h9) rfl dX10_tenths_12 ?_
    refine lv_iload_n hx hb dX10_tenths_15 rfl (lv_at hl 1 rfl) ?_
    refine lv_iload_n hx hb dX10_tenths_16 rfl (lv_at hl 2 rfl) ?_
    refine zVI [.int (x1), .int (x2)] [] (kX7_tenthsByThings (a) (y) (b) (rs) (BW ct a d bz (IW ct i (xE g) iv (LW ct lb lz (YW ct sa sy (XO x a sa h b d i lb xv (HW ct h ha hz R)))))) (x1) (x2) (show y_n y ≤ 12 from by omega) (show ∀ j9, j9 < y_n y → y_kd y j9 = nI 0 ∨ y_kd y j9 = nI 1 from hkd)) hx hb hml hown hts (cwV 2 hts gX10_tenths_X7_tenthsByThings rfl rfl rfl (by decide +kernel) ⟨(Nat.le_of_ble_eq_true rfl), (Nat.le_of_ble_eq_true rfl)⟩) hK hP hD hS hA (va_recv hK hP (ci := 6) (q0 := 12) rfl rfl) rfl hl.1 rfl (Nat.le_of_ble_eq_true rfl) dX10_tenths_17 ⟨(Nat.le_of_ble_eq_true rfl), (Nat.le_of_ble_eq_true rfl)⟩ (fun r_17 _ H locs hr_17 hP hD hS => ?_)
    subst hr_17
    have hP : va_P D vwCl (YW ct a y (KR a b rs (BW ct a d bz (IW ct i (xE g) iv (LW ct lb lz (YW ct sa sy (XO x a sa h b d i lb xv (HW ct h ha hz R)))))))) H := hP
    have hD : va_D A (YW ct a y (KR a b rs (BW ct a d bz (IW ct i (xE g) iv (LW ct lb lz (YW ct sa sy (XO x a sa h b d i lb xv (HW ct h ha hz R)))))))) := hD
    refine lv_goto (tgt := 24) hx hb dX10_tenths_20 (by decide) ?_
    exact zIret () hx hb hr hlocks hK hP hD hS dX10_tenths_24 (show (t_te y (x1) (x2)) = a_ten y x1 x2 from (by simp only [a_ten, ixI, c8_1, p_in, p_worn, p_wi, p_creak, p_le0, p_lt1, p_rng, not_true_eq_false, not_false_eq_true, if_true, if_false, and_true, true_and, and_false, false_and, or_true, true_or, or_false, false_or, and_self, or_self, iff_true, true_iff, iff_false, false_iff, decide_eq_true_eq, decide_true, decide_false, Int32.add_zero, Nat.add_zero, ne_eq, Bool.false_eq_true, eq_self]))
abbrev rmX10_tenthsAgain : Room := { frames := 3, cells := 0, slots := 0, locals := 67 }
theorem in_X10_tenthsAgain_X10 : ∀ w ∈ u_ws RX10 TX10 12, w ∈ wsX10_tenthsAgain := by decide +kernel
set_option maxHeartbeats 4000000 in
set_option maxRecDepth 100000 in
theorem kX10_tenthsAgain {D : va_G} {g : XG} {ct : Nat → ClassId} {l : Launch} (a : Nat → Nat) (y : YS) (b : Nat → Nat) (rs : RS) (d : Nat → Nat) (bz : BS) (i : Nat → Nat) (iv : IS) (lb : Nat → Nat) (lz : LST) (sa : Nat → Nat) (sy : YS) (x : Nat → Nat) (xv : Int32 × Int32) (h : Nat → Nat) (ha : Nat → Nat → Nat) (hz : HS) (R : va_W) (x1 : Int32) (x2 : Int32) (hy : yI y) (hf : yF y) : MX D ct g l yX10_tenthsAgain wsX10_tenthsAgain rmX10_tenthsAgain (YW ct a y (KR a b rs (BW ct a d bz (IW ct i (xE g) iv (LW ct lb lz (YW ct sa sy (XO x a sa h b d i lb xv (HW ct h ha hz R)))))))) [.ref (x 0), .int (x1), .int (x2)] (QI D ct (fun r0 (_ : Unit) => r0 = a_tenG y x1 x2) (fun _ : Unit => YW ct a y (KR a b rs (BW ct a d bz (IW ct i (xE g) iv (LW ct lb lz (YW ct sa sy (XO x a sa h b d i lb xv (HW ct h ha hz R))))))))) := by
  refine MXof (cc := cX10_tenthsAgain) (maxL := 3) (ret := (some .int)) (by decide) rfl (Nat.le_of_ble_eq_true rfl) ?_
  intro p e s m args below meth c A H locs F hP hK hD hS hA hX ls hl
  obtain ⟨hx, hb, hr, hlocks, hml, hown, hts, hin⟩ := F
  have hl : lv_has ls 3 [(0, .ref (x 0)), (1, .int (x1)), (2, .int (x2))] := hl
  have hkd : ∀ j9, j9 < y_n y → y_kd y j9 = nI 0 ∨ y_kd y j9 = nI 1 := fun j9 hj9 => (hy.2.2.2.1 j9 hj9).1
  have hn : y_n y ≤ 12 := hy.1
  have hcn : y_cn y ≤ 4 := hy.2.1
  have hrn : y_rn y ≤ 5 := hy.2.2.1
  have h_X10 := in_X10_tenthsAgain_X10
  have f10 := hts (.fieldLink RX10 10 "CartArguments" "yard" "LCartArguments$Yard;") (by decide +kernel)
  have f42 := hts (.fieldLink RX10 42 "CartArguments" "scale" "LCartArguments$Scale;") (by decide +kernel)
  refine lv_aload_n hx hb dX10_tenthsAgain_0 rfl (lv_at hl 0 rfl) ?_
  refine va_get (ci := 9) (v := .ref (a 0)) hx hb hts h_X10 hown hK hP 38 rfl rfl 0 (by decide) f10 (fun _ h9 => h9) rfl dX10_tenthsAgain_1 ?_
  refine lv_iload_n hx hb dX10_tenthsAgain_4 rfl (lv_at hl 1 rfl) ?_
  refine zVI [.int (x1)] [] (kX9_isCart (a) (y) (KR a b rs (BW ct a d bz (IW ct i (xE g) iv (LW ct lb lz (YW ct sa sy (XO x a sa h b d i lb xv (HW ct h ha hz R))))))) (x1)) hx hb hml hown hts (cwV 1 hts gX10_tenthsAgain_X9_isCart rfl rfl rfl (by decide +kernel) ⟨(Nat.le_of_ble_eq_true rfl), (Nat.le_of_ble_eq_true rfl)⟩) hK hP hD hS hA (va_recv hK hP (ci := 8) (q0 := 0) rfl rfl) rfl hl.1 rfl (Nat.le_of_ble_eq_true rfl) dX10_tenthsAgain_5 ⟨(Nat.le_of_ble_eq_true rfl), (Nat.le_of_ble_eq_true rfl)⟩ (fun r_5 _ H locs hr_5 hP hD hS => ?_)
  subst hr_5
  have hP : va_P D vwCl (YW ct a y (KR a b rs (BW ct a d bz (IW ct i (xE g) iv (LW ct lb lz (YW ct sa sy (XO x a sa h b d i lb xv (HW ct h ha hz R)))))))) H := hP
  have hD : va_D A (YW ct a y (KR a b rs (BW ct a d bz (IW ct i (xE g) iv (LW ct lb lz (YW ct sa sy (XO x a sa h b d i lb xv (HW ct h ha hz R)))))))) := hD
  refine zB_if_eq (tgt := 23) hx hb dX10_tenthsAgain_8 (by decide) (fun c8_1 => ?_) (fun c8_1 => ?_)
  · skip
    refine lv_iconst (v := (-1)) hx hb dX10_tenthsAgain_23 (by decide) ?_
    exact zIret () hx hb hr hlocks hK hP hD hS dX10_tenthsAgain_24 (show (-1) = a_tenG y x1 x2 from (by simp only [a_tenG, ixI, c8_1, p_in, p_worn, p_wi, p_creak, p_le0, p_lt1, p_rng, not_true_eq_false, not_false_eq_true, if_true, if_false, and_true, true_and, and_false, false_and, or_true, true_or, or_false, false_or, and_self, or_self, iff_true, true_iff, iff_false, false_iff, decide_eq_true_eq, decide_true, decide_false, Int32.add_zero, Nat.add_zero, ne_eq, Bool.false_eq_true, eq_self]))
  · skip
    refine lv_aload_n hx hb dX10_tenthsAgain_11 rfl (lv_at hl 0 rfl) ?_
    refine va_get (ci := 9) (v := .ref (b 0)) hx hb hts h_X10 hown hK hP 38 rfl rfl 5 (by decide) f42 (fun _ h9 => h9) rfl dX10_tenthsAgain_12 ?_
    refine lv_iload_n hx hb dX10_tenthsAgain_15 rfl (lv_at hl 1 rfl) ?_
    refine lv_iload_n hx hb dX10_tenthsAgain_16 rfl (lv_at hl 2 rfl) ?_
    refine zVI [.int (x1), .int (x2)] [] (kX7_tenthsByOther (a) (y) (b) (rs) (BW ct a d bz (IW ct i (xE g) iv (LW ct lb lz (YW ct sa sy (XO x a sa h b d i lb xv (HW ct h ha hz R)))))) (x1) (x2) (show y_n y ≤ 12 from by omega) (show ∀ j9, j9 < y_n y → y_kd y j9 = nI 0 ∨ y_kd y j9 = nI 1 from hkd)) hx hb hml hown hts (cwV 2 hts gX10_tenthsAgain_X7_tenthsByOther rfl rfl rfl (by decide +kernel) ⟨(Nat.le_of_ble_eq_true rfl), (Nat.le_of_ble_eq_true rfl)⟩) hK hP hD hS hA (va_recv hK hP (ci := 6) (q0 := 12) rfl rfl) rfl hl.1 rfl (Nat.le_of_ble_eq_true rfl) dX10_tenthsAgain_17 ⟨(Nat.le_of_ble_eq_true rfl), (Nat.le_of_ble_eq_true rfl)⟩ (fun r_17 _ H locs hr_17 hP hD hS => ?_)
    subst hr_17
    have hP : va_P D vwCl (YW ct a y (KR a b rs (BW ct a d bz (IW ct i (xE g) iv (LW ct lb lz (YW ct sa sy (XO x a sa h b d i lb xv (HW ct h ha hz R)))))))) H := hP
    have hD : va_D A (YW ct a y (KR a b rs (BW ct a d bz (IW ct i (xE g) iv (LW ct lb lz (YW ct sa sy (XO x a sa h b d i lb xv (HW ct h ha hz R)))))))) := hD
    refine lv_goto (tgt := 24) hx hb dX10_tenthsAgain_20 (by decide) ?_
    exact zIret () hx hb hr hlocks hK hP hD hS dX10_tenthsAgain_24 (show (t_to y (x1) (x2)) = a_tenG y x1 x2 from (by simp only [a_tenG, ixI, c8_1, p_in, p_worn, p_wi, p_creak, p_le0, p_lt1, p_rng, not_true_eq_false, not_false_eq_true, if_true, if_false, and_true, true_and, and_false, false_and, or_true, true_or, or_false, false_or, and_self, or_self, iff_true, true_iff, iff_false, false_iff, decide_eq_true_eq, decide_true, decide_false, Int32.add_zero, Nat.add_zero, ne_eq, Bool.false_eq_true, eq_self]))
abbrev rmX10_axle : Room := { frames := 2, cells := 0, slots := 0, locals := 47 }
theorem in_X10_axle_X10 : ∀ w ∈ u_ws RX10 TX10 12, w ∈ wsX10_axle := by decide +kernel
set_option maxHeartbeats 4000000 in
set_option maxRecDepth 100000 in
theorem kX10_axle {D : va_G} {g : XG} {ct : Nat → ClassId} {l : Launch} (a : Nat → Nat) (y : YS) (b : Nat → Nat) (rs : RS) (d : Nat → Nat) (bz : BS) (i : Nat → Nat) (iv : IS) (lb : Nat → Nat) (lz : LST) (sa : Nat → Nat) (sy : YS) (x : Nat → Nat) (xv : Int32 × Int32) (h : Nat → Nat) (ha : Nat → Nat → Nat) (hz : HS) (R : va_W) (x1 : Int32) (x2 : Int32) (hy : yI y) (hf : yF y) : MX D ct g l yX10_axle wsX10_axle rmX10_axle (YW ct a y (KR a b rs (BW ct a d bz (IW ct i (xE g) iv (LW ct lb lz (YW ct sa sy (XO x a sa h b d i lb xv (HW ct h ha hz R)))))))) [.ref (x 0), .int (x1), .int (x2)] (QF D ct (fun r0 (_ : Unit) => r0 = a_axle y x1 x2) (fun _ : Unit => YW ct a y (KR a b rs (BW ct a d bz (IW ct i (xE g) iv (LW ct lb lz (YW ct sa sy (XO x a sa h b d i lb xv (HW ct h ha hz R))))))))) := by
  refine MXof (cc := cX10_axle) (maxL := 3) (ret := (some .float)) (by decide) rfl (Nat.le_of_ble_eq_true rfl) ?_
  intro p e s m args below meth c A H locs F hP hK hD hS hA hX ls hl
  obtain ⟨hx, hb, hr, hlocks, hml, hown, hts, hin⟩ := F
  have hl : lv_has ls 3 [(0, .ref (x 0)), (1, .int (x1)), (2, .int (x2))] := hl
  have hkd : ∀ j9, j9 < y_n y → y_kd y j9 = nI 0 ∨ y_kd y j9 = nI 1 := fun j9 hj9 => (hy.2.2.2.1 j9 hj9).1
  have hn : y_n y ≤ 12 := hy.1
  have hcn : y_cn y ≤ 4 := hy.2.1
  have hrn : y_rn y ≤ 5 := hy.2.2.1
  have h_X10 := in_X10_axle_X10
  have f10 := hts (.fieldLink RX10 10 "CartArguments" "yard" "LCartArguments$Yard;") (by decide +kernel)
  have f42 := hts (.fieldLink RX10 42 "CartArguments" "scale" "LCartArguments$Scale;") (by decide +kernel)
  refine lv_aload_n hx hb dX10_axle_0 rfl (lv_at hl 0 rfl) ?_
  refine va_get (ci := 9) (v := .ref (a 0)) hx hb hts h_X10 hown hK hP 38 rfl rfl 0 (by decide) f10 (fun _ h9 => h9) rfl dX10_axle_1 ?_
  refine lv_iload_n hx hb dX10_axle_4 rfl (lv_at hl 1 rfl) ?_
  refine zVI [.int (x1)] [] (kX9_isCart (a) (y) (KR a b rs (BW ct a d bz (IW ct i (xE g) iv (LW ct lb lz (YW ct sa sy (XO x a sa h b d i lb xv (HW ct h ha hz R))))))) (x1)) hx hb hml hown hts (cwV 1 hts gX10_axle_X9_isCart rfl rfl rfl (by decide +kernel) ⟨(Nat.le_of_ble_eq_true rfl), (Nat.le_of_ble_eq_true rfl)⟩) hK hP hD hS hA (va_recv hK hP (ci := 8) (q0 := 0) rfl rfl) rfl hl.1 rfl (Nat.le_of_ble_eq_true rfl) dX10_axle_5 ⟨(Nat.le_of_ble_eq_true rfl), (Nat.le_of_ble_eq_true rfl)⟩ (fun r_5 _ H locs hr_5 hP hD hS => ?_)
  subst hr_5
  have hP : va_P D vwCl (YW ct a y (KR a b rs (BW ct a d bz (IW ct i (xE g) iv (LW ct lb lz (YW ct sa sy (XO x a sa h b d i lb xv (HW ct h ha hz R)))))))) H := hP
  have hD : va_D A (YW ct a y (KR a b rs (BW ct a d bz (IW ct i (xE g) iv (LW ct lb lz (YW ct sa sy (XO x a sa h b d i lb xv (HW ct h ha hz R)))))))) := hD
  refine zB_if_eq (tgt := 23) hx hb dX10_axle_8 (by decide) (fun c8_1 => ?_) (fun c8_1 => ?_)
  · skip
    refine zLdcwF (v := 3212836864) hx hb hown (hts (.constantFloat RX10 261 (3212836864)) (by decide +kernel)) dX10_axle_23 ?_
    exact zFret () hx hb hr hlocks hK hP hD hS dX10_axle_26 (show 3212836864 = a_axle y x1 x2 from (by simp only [a_axle, ixI, c8_1, p_in, p_worn, p_wi, p_creak, p_le0, p_lt1, p_rng, not_true_eq_false, not_false_eq_true, if_true, if_false, and_true, true_and, and_false, false_and, or_true, true_or, or_false, false_or, and_self, or_self, iff_true, true_iff, iff_false, false_iff, decide_eq_true_eq, decide_true, decide_false, Int32.add_zero, Nat.add_zero, ne_eq, Bool.false_eq_true, eq_self]))
  · skip
    obtain ⟨k1, hk1, ek1⟩ := p_in_ex (n := y_cn y) (by omega) c8_1
    subst ek1
    have hclk1 : (nI k1).toNatClampNeg = k1 := nI_clamp (by omega)
    refine lv_aload_n hx hb dX10_axle_11 rfl (lv_at hl 0 rfl) ?_
    refine va_get (ci := 9) (v := .ref (b 0)) hx hb hts h_X10 hown hK hP 38 rfl rfl 5 (by decide) f42 (fun _ h9 => h9) rfl dX10_axle_12 ?_
    refine lv_iload_n hx hb dX10_axle_15 rfl (lv_at hl 1 rfl) ?_
    refine lv_iload_n hx hb dX10_axle_16 rfl (lv_at hl 2 rfl) ?_
    refine zVF [.int (nI (k1)), .int (x2)] [] (kX7_axleLoad (a) (y) (b) (rs) (BW ct a d bz (IW ct i (xE g) iv (LW ct lb lz (YW ct sa sy (XO x a sa h b d i lb xv (HW ct h ha hz R)))))) (k1) (x2) (show yI y from hy) (show (k1) < y_cn y from by omega)) hx hb hml hown hts (cwV 2 hts gX10_axle_X7_axleLoad rfl rfl rfl (by decide +kernel) ⟨(Nat.le_of_ble_eq_true rfl), (Nat.le_of_ble_eq_true rfl)⟩) hK hP hD hS hA (va_recv hK hP (ci := 6) (q0 := 12) rfl rfl) rfl hl.1 rfl (Nat.le_of_ble_eq_true rfl) dX10_axle_17 ⟨(Nat.le_of_ble_eq_true rfl), (Nat.le_of_ble_eq_true rfl)⟩ (fun r_17 _ H locs hr_17 hP hD hS => ?_)
    subst hr_17
    have hP : va_P D vwCl (YW ct a y (KR a b rs (BW ct a d bz (IW ct i (xE g) iv (LW ct lb lz (YW ct sa sy (XO x a sa h b d i lb xv (HW ct h ha hz R)))))))) H := hP
    have hD : va_D A (YW ct a y (KR a b rs (BW ct a d bz (IW ct i (xE g) iv (LW ct lb lz (YW ct sa sy (XO x a sa h b d i lb xv (HW ct h ha hz R)))))))) := hD
    refine lv_goto (tgt := 26) hx hb dX10_axle_20 (by decide) ?_
    exact zFret () hx hb hr hlocks hK hP hD hS dX10_axle_26 (show (t_ld y (k1) (x2)) = a_axle y (nI k1) x2 from (by simp only [a_axle, ixI, c8_1, hclk1, p_in, p_worn, p_wi, p_creak, p_le0, p_lt1, p_rng, not_true_eq_false, not_false_eq_true, if_true, if_false, and_true, true_and, and_false, false_and, or_true, true_or, or_false, false_or, and_self, or_self, iff_true, true_iff, iff_false, false_iff, decide_eq_true_eq, decide_true, decide_false, Int32.add_zero, Nat.add_zero, ne_eq, Bool.false_eq_true, eq_self]))
abbrev rmX10_wear : Room := { frames := 2, cells := 0, slots := 0, locals := 43 }
theorem in_X10_wear_X10 : ∀ w ∈ u_ws RX10 TX10 12, w ∈ wsX10_wear := by decide +kernel
set_option maxHeartbeats 4000000 in
set_option maxRecDepth 100000 in
theorem kX10_wear {D : va_G} {g : XG} {ct : Nat → ClassId} {l : Launch} (a : Nat → Nat) (y : YS) (b : Nat → Nat) (rs : RS) (d : Nat → Nat) (bz : BS) (i : Nat → Nat) (iv : IS) (lb : Nat → Nat) (lz : LST) (sa : Nat → Nat) (sy : YS) (x : Nat → Nat) (xv : Int32 × Int32) (h : Nat → Nat) (ha : Nat → Nat → Nat) (hz : HS) (R : va_W) (x1 : Int32) (x2 : Int32) (hy : yI y) (hf : yF y) : MX D ct g l yX10_wear wsX10_wear rmX10_wear (YW ct a y (KR a b rs (BW ct a d bz (IW ct i (xE g) iv (LW ct lb lz (YW ct sa sy (XO x a sa h b d i lb xv (HW ct h ha hz R)))))))) [.ref (x 0), .int (x1), .int (x2)] (QF D ct (fun r0 (_ : Unit) => r0 = a_wear y x1 x2) (fun _ : Unit => YW ct a y (KR a b rs (BW ct a d bz (IW ct i (xE g) iv (LW ct lb lz (YW ct sa sy (XO x a sa h b d i lb xv (HW ct h ha hz R))))))))) := by
  refine MXof (cc := cX10_wear) (maxL := 3) (ret := (some .float)) (by decide) rfl (Nat.le_of_ble_eq_true rfl) ?_
  intro p e s m args below meth c A H locs F hP hK hD hS hA hX ls hl
  obtain ⟨hx, hb, hr, hlocks, hml, hown, hts, hin⟩ := F
  have hl : lv_has ls 3 [(0, .ref (x 0)), (1, .int (x1)), (2, .int (x2))] := hl
  have hkd : ∀ j9, j9 < y_n y → y_kd y j9 = nI 0 ∨ y_kd y j9 = nI 1 := fun j9 hj9 => (hy.2.2.2.1 j9 hj9).1
  have hn : y_n y ≤ 12 := hy.1
  have hcn : y_cn y ≤ 4 := hy.2.1
  have hrn : y_rn y ≤ 5 := hy.2.2.1
  have h_X10 := in_X10_wear_X10
  have f10 := hts (.fieldLink RX10 10 "CartArguments" "yard" "LCartArguments$Yard;") (by decide +kernel)
  refine lv_aload_n hx hb dX10_wear_0 rfl (lv_at hl 0 rfl) ?_
  refine va_get (ci := 9) (v := .ref (a 0)) hx hb hts h_X10 hown hK hP 38 rfl rfl 0 (by decide) f10 (fun _ h9 => h9) rfl dX10_wear_1 ?_
  refine lv_iload_n hx hb dX10_wear_4 rfl (lv_at hl 1 rfl) ?_
  refine zVI [.int (x1)] [] (kX9_isCart (a) (y) (KR a b rs (BW ct a d bz (IW ct i (xE g) iv (LW ct lb lz (YW ct sa sy (XO x a sa h b d i lb xv (HW ct h ha hz R))))))) (x1)) hx hb hml hown hts (cwV 1 hts gX10_wear_X9_isCart rfl rfl rfl (by decide +kernel) ⟨(Nat.le_of_ble_eq_true rfl), (Nat.le_of_ble_eq_true rfl)⟩) hK hP hD hS hA (va_recv hK hP (ci := 8) (q0 := 0) rfl rfl) rfl hl.1 rfl (Nat.le_of_ble_eq_true rfl) dX10_wear_5 ⟨(Nat.le_of_ble_eq_true rfl), (Nat.le_of_ble_eq_true rfl)⟩ (fun r_5 _ H locs hr_5 hP hD hS => ?_)
  subst hr_5
  have hP : va_P D vwCl (YW ct a y (KR a b rs (BW ct a d bz (IW ct i (xE g) iv (LW ct lb lz (YW ct sa sy (XO x a sa h b d i lb xv (HW ct h ha hz R)))))))) H := hP
  have hD : va_D A (YW ct a y (KR a b rs (BW ct a d bz (IW ct i (xE g) iv (LW ct lb lz (YW ct sa sy (XO x a sa h b d i lb xv (HW ct h ha hz R)))))))) := hD
  refine zB_if_eq (tgt := 23) hx hb dX10_wear_8 (by decide) (fun c8_1 => ?_) (fun c8_1 => ?_)
  · skip
    refine zLdcwF (v := 3212836864) hx hb hown (hts (.constantFloat RX10 261 (3212836864)) (by decide +kernel)) dX10_wear_23 ?_
    exact zFret () hx hb hr hlocks hK hP hD hS dX10_wear_26 (show 3212836864 = a_wear y x1 x2 from (by simp only [a_wear, ixI, c8_1, p_in, p_worn, p_wi, p_creak, p_le0, p_lt1, p_rng, not_true_eq_false, not_false_eq_true, if_true, if_false, and_true, true_and, and_false, false_and, or_true, true_or, or_false, false_or, and_self, or_self, iff_true, true_iff, iff_false, false_iff, decide_eq_true_eq, decide_true, decide_false, Int32.add_zero, Nat.add_zero, ne_eq, Bool.false_eq_true, eq_self]))
  · skip
    obtain ⟨k1, hk1, ek1⟩ := p_in_ex (n := y_cn y) (by omega) c8_1
    subst ek1
    have hclk1 : (nI k1).toNatClampNeg = k1 := nI_clamp (by omega)
    refine lv_aload_n hx hb dX10_wear_11 rfl (lv_at hl 0 rfl) ?_
    refine va_get (ci := 9) (v := .ref (a 0)) hx hb hts h_X10 hown hK hP 38 rfl rfl 0 (by decide) f10 (fun _ h9 => h9) rfl dX10_wear_12 ?_
    refine lv_iload_n hx hb dX10_wear_15 rfl (lv_at hl 1 rfl) ?_
    refine lv_iload_n hx hb dX10_wear_16 rfl (lv_at hl 2 rfl) ?_
    refine zVF [.int (nI (k1)), .int (x2)] [] (kX9_wearOf (a) (y) (KR a b rs (BW ct a d bz (IW ct i (xE g) iv (LW ct lb lz (YW ct sa sy (XO x a sa h b d i lb xv (HW ct h ha hz R))))))) (k1) (x2) (show (k1) < 4 from by omega)) hx hb hml hown hts (cwV 2 hts gX10_wear_X9_wearOf rfl rfl rfl (by decide +kernel) ⟨(Nat.le_of_ble_eq_true rfl), (Nat.le_of_ble_eq_true rfl)⟩) hK hP hD hS hA (va_recv hK hP (ci := 8) (q0 := 0) rfl rfl) rfl hl.1 rfl (Nat.le_of_ble_eq_true rfl) dX10_wear_17 ⟨(Nat.le_of_ble_eq_true rfl), (Nat.le_of_ble_eq_true rfl)⟩ (fun r_17 _ H locs hr_17 hP hD hS => ?_)
    subst hr_17
    have hP : va_P D vwCl (YW ct a y (KR a b rs (BW ct a d bz (IW ct i (xE g) iv (LW ct lb lz (YW ct sa sy (XO x a sa h b d i lb xv (HW ct h ha hz R)))))))) H := hP
    have hD : va_D A (YW ct a y (KR a b rs (BW ct a d bz (IW ct i (xE g) iv (LW ct lb lz (YW ct sa sy (XO x a sa h b d i lb xv (HW ct h ha hz R)))))))) := hD
    refine lv_goto (tgt := 26) hx hb dX10_wear_20 (by decide) ?_
    exact zFret () hx hb hr hlocks hK hP hD hS dX10_wear_26 (show (y_wr y (wix (k1) (x2))) = a_wear y (nI k1) x2 from (by simp only [a_wear, ixI, c8_1, hclk1, p_in, p_worn, p_wi, p_creak, p_le0, p_lt1, p_rng, not_true_eq_false, not_false_eq_true, if_true, if_false, and_true, true_and, and_false, false_and, or_true, true_or, or_false, false_or, and_self, or_self, iff_true, true_iff, iff_false, false_iff, decide_eq_true_eq, decide_true, decide_false, Int32.add_zero, Nat.add_zero, ne_eq, Bool.false_eq_true, eq_self]))
abbrev rmX10_takes : Room := { frames := 3, cells := 0, slots := 0, locals := 67 }
theorem in_X10_takes_X10 : ∀ w ∈ u_ws RX10 TX10 12, w ∈ wsX10_takes := by decide +kernel
theorem in_X10_takes_X9 : ∀ w ∈ u_ws RX9 TX9 16, w ∈ wsX10_takes := by decide +kernel
set_option maxHeartbeats 4000000 in
set_option maxRecDepth 100000 in
theorem kX10_takes {D : va_G} {g : XG} {ct : Nat → ClassId} {l : Launch} (a : Nat → Nat) (y : YS) (b : Nat → Nat) (rs : RS) (d : Nat → Nat) (bz : BS) (i : Nat → Nat) (iv : IS) (lb : Nat → Nat) (lz : LST) (sa : Nat → Nat) (sy : YS) (x : Nat → Nat) (xv : Int32 × Int32) (h : Nat → Nat) (ha : Nat → Nat → Nat) (hz : HS) (R : va_W) (x1 : Int32) (hy : yI y) (hf : yF y) : MX D ct g l yX10_takes wsX10_takes rmX10_takes (YW ct a y (KR a b rs (BW ct a d bz (IW ct i (xE g) iv (LW ct lb lz (YW ct sa sy (XO x a sa h b d i lb xv (HW ct h ha hz R)))))))) [.ref (x 0), .int (x1)] (QI D ct (fun r0 (_ : Unit) => r0 = a_takes y x1) (fun _ : Unit => YW ct a y (KR a b rs (BW ct a d bz (IW ct i (xE g) iv (LW ct lb lz (YW ct sa sy (XO x a sa h b d i lb xv (HW ct h ha hz R))))))))) := by
  refine MXof (cc := cX10_takes) (maxL := 4) (ret := (some .int)) (by decide) rfl (Nat.le_of_ble_eq_true rfl) ?_
  intro p e s m args below meth c A H locs F hP hK hD hS hA hX ls hl
  obtain ⟨hx, hb, hr, hlocks, hml, hown, hts, hin⟩ := F
  have hl : lv_has ls 4 [(0, .ref (x 0)), (1, .int (x1))] := hl
  have hkd : ∀ j9, j9 < y_n y → y_kd y j9 = nI 0 ∨ y_kd y j9 = nI 1 := fun j9 hj9 => (hy.2.2.2.1 j9 hj9).1
  have hn : y_n y ≤ 12 := hy.1
  have hcn : y_cn y ≤ 4 := hy.2.1
  have hrn : y_rn y ≤ 5 := hy.2.2.1
  have h_X10 := in_X10_takes_X10
  have h_X9 := in_X10_takes_X9
  have f10 := hts (.fieldLink RX10 10 "CartArguments" "yard" "LCartArguments$Yard;") (by decide +kernel)
  have f278 := hts (.fieldLink RX10 278 "CartArguments$Yard" "roads" "I") (by decide +kernel)
  refine lv_aload_n hx hb dX10_takes_0 rfl (lv_at hl 0 rfl) ?_
  refine va_get (ci := 9) (v := .ref (a 0)) hx hb hts h_X10 hown hK hP 38 rfl rfl 0 (by decide) f10 (fun _ h9 => h9) rfl dX10_takes_1 ?_
  refine lv_iload_n hx hb dX10_takes_4 rfl (lv_at hl 1 rfl) ?_
  refine zVI [.int (x1)] [] (kX9_isCart (a) (y) (KR a b rs (BW ct a d bz (IW ct i (xE g) iv (LW ct lb lz (YW ct sa sy (XO x a sa h b d i lb xv (HW ct h ha hz R))))))) (x1)) hx hb hml hown hts (cwV 1 hts gX10_takes_X9_isCart rfl rfl rfl (by decide +kernel) ⟨(Nat.le_of_ble_eq_true rfl), (Nat.le_of_ble_eq_true rfl)⟩) hK hP hD hS hA (va_recv hK hP (ci := 8) (q0 := 0) rfl rfl) rfl hl.1 rfl (Nat.le_of_ble_eq_true rfl) dX10_takes_5 ⟨(Nat.le_of_ble_eq_true rfl), (Nat.le_of_ble_eq_true rfl)⟩ (fun r_5 _ H locs hr_5 hP hD hS => ?_)
  subst hr_5
  have hP : va_P D vwCl (YW ct a y (KR a b rs (BW ct a d bz (IW ct i (xE g) iv (LW ct lb lz (YW ct sa sy (XO x a sa h b d i lb xv (HW ct h ha hz R)))))))) H := hP
  have hD : va_D A (YW ct a y (KR a b rs (BW ct a d bz (IW ct i (xE g) iv (LW ct lb lz (YW ct sa sy (XO x a sa h b d i lb xv (HW ct h ha hz R)))))))) := hD
  refine zB_if_ne (tgt := 13) hx hb dX10_takes_8 (by decide) (fun c8_1 => ?_) (fun c8_1 => ?_)
  · skip
    refine lv_iconst (v := nI (0)) hx hb dX10_takes_13 (by decide) ?_
    refine lv_istore_n (lv' := [(2, .int (nI (0))), (0, .ref (x 0)), (1, .int (x1))]) hx hb dX10_takes_14 rfl hl (by decide) rfl (fun ls hl => ?_)
    refine lv_iconst (v := nI (0)) hx hb dX10_takes_15 (by decide) ?_
    refine lv_istore_n (lv' := [(3, .int (nI (0))), (2, .int (nI (0))), (0, .ref (x 0)), (1, .int (x1))]) hx hb dX10_takes_16 rfl hl (by decide) rfl (fun ls hl => ?_)
    have lp17 : ∀ (fu : Nat) (k : Nat) (acc : Int32) (H : Heap) (locs : List Loc) (ls : Array Slot), (k ≤ y_rn y) → (acc = tkF y x1 k) → y_rn y - k < fu → va_P D vwCl (YW ct a y (KR a b rs (BW ct a d bz (IW ct i (xE g) iv (LW ct lb lz (YW ct sa sy (XO x a sa h b d i lb xv (HW ct h ha hz R)))))))) H → va_D A (YW ct a y (KR a b rs (BW ct a d bz (IW ct i (xE g) iv (LW ct lb lz (YW ct sa sy (XO x a sa h b d i lb xv (HW ct h ha hz R)))))))) → va_S A s.heap H locs → lv_has ls 4 [(0, .ref (x 0)), (1, .int (x1)), (2, .int (acc)), (3, .int (nI (k)))] → W p l e rmX10_takes s m args below meth c H locs 0 0 (MQ below (va_Qi (fun r0 (_ : Unit) => r0 = a_takes y x1) (zB D ct A (fun _ : Unit => YW ct a y (KR a b rs (BW ct a d bz (IW ct i (xE g) iv (LW ct lb lz (YW ct sa sy (XO x a sa h b d i lb xv (HW ct h ha hz R))))))))) A) args s rmX10_takes.cells rmX10_takes.slots A) (F0 m 17 ls []) := by
      intro fu
      induction fu with
      | zero => intro k acc H locs ls hk hacc hfu; exact absurd hfu (Nat.not_lt_zero _)
      | succ fu ih17 =>
        intro k acc H locs ls hk hacc hfu hP hD hS hl
        refine lv_iload_n hx hb dX10_takes_17 rfl (lv_at hl 3 rfl) ?_
        refine lv_aload_n hx hb dX10_takes_18 rfl (lv_at hl 0 rfl) ?_
        refine va_get (ci := 9) (v := .ref (a 0)) hx hb hts h_X10 hown hK hP 38 rfl rfl 0 (by decide) f10 (fun _ h9 => h9) rfl dX10_takes_19 ?_
        refine va_get (ci := 8) (v := .int (nI (y_rn y))) hx hb hts h_X9 hown hK hP 0 rfl rfl 9 (by decide) f278 (fun _ h9 => h9) rfl dX10_takes_22 ?_
        refine zN_icmp_ge (tgt := 52) hx hb (by omega) (by omega) dX10_takes_25 (by decide) (fun c25_2 => ?_) (fun c25_2 => ?_)
        · skip
          refine lv_iload_n hx hb dX10_takes_52 rfl (lv_at hl 2 rfl) ?_
          exact zIret () hx hb hr hlocks hK hP hD hS dX10_takes_53 (show acc = a_takes y x1 from (by obtain rfl : k = y_rn y := (by omega); simp only [hacc, a_takes, c8_1, c25_2, p_in, p_worn, p_wi, p_creak, p_le0, p_lt1, p_rng, not_true_eq_false, not_false_eq_true, if_true, if_false, and_true, true_and, and_false, false_and, or_true, true_or, or_false, false_or, and_self, or_self, iff_true, true_iff, iff_false, false_iff, decide_eq_true_eq, decide_true, decide_false, Int32.add_zero, Nat.add_zero, ne_eq, Bool.false_eq_true, eq_self]))
        · skip
          refine lv_aload_n hx hb dX10_takes_28 rfl (lv_at hl 0 rfl) ?_
          refine va_get (ci := 9) (v := .ref (a 0)) hx hb hts h_X10 hown hK hP 38 rfl rfl 0 (by decide) f10 (fun _ h9 => h9) rfl dX10_takes_29 ?_
          refine lv_iload_n hx hb dX10_takes_32 rfl (lv_at hl 1 rfl) ?_
          refine lv_iload_n hx hb dX10_takes_33 rfl (lv_at hl 3 rfl) ?_
          refine zVI [.int (x1), .int (nI (k))] [] (kX9_isWithinLimit (a) (y) (KR a b rs (BW ct a d bz (IW ct i (xE g) iv (LW ct lb lz (YW ct sa sy (XO x a sa h b d i lb xv (HW ct h ha hz R))))))) (x1) (k) (show y_n y ≤ 12 from by omega) (show (k) < 5 from by omega)) hx hb hml hown hts (cwV 2 hts gX10_takes_X9_isWithinLimit rfl rfl rfl (by decide +kernel) ⟨(Nat.le_of_ble_eq_true rfl), (Nat.le_of_ble_eq_true rfl)⟩) hK hP hD hS hA (va_recv hK hP (ci := 8) (q0 := 0) rfl rfl) rfl hl.1 rfl (Nat.le_of_ble_eq_true rfl) dX10_takes_34 ⟨(Nat.le_of_ble_eq_true rfl), (Nat.le_of_ble_eq_true rfl)⟩ (fun r_34 _ H locs hr_34 hP hD hS => ?_)
          subst hr_34
          have hP : va_P D vwCl (YW ct a y (KR a b rs (BW ct a d bz (IW ct i (xE g) iv (LW ct lb lz (YW ct sa sy (XO x a sa h b d i lb xv (HW ct h ha hz R)))))))) H := hP
          have hD : va_D A (YW ct a y (KR a b rs (BW ct a d bz (IW ct i (xE g) iv (LW ct lb lz (YW ct sa sy (XO x a sa h b d i lb xv (HW ct h ha hz R)))))))) := hD
          refine zB_if_eq (tgt := 46) hx hb dX10_takes_37 (by decide) (fun c37_3 => ?_) (fun c37_3 => ?_)
          · skip
            refine lv_iinc (v := nI ((k + 1))) (lv' := [(3, .int (nI ((k + 1)))), (0, .ref (x 0)), (1, .int (x1)), (2, .int (acc))]) hx hb dX10_takes_46 hl (k := 3) rfl (zInc _) (by decide) rfl (fun ls hl => ?_)
            refine lv_goto (tgt := 17) hx hb dX10_takes_49 (by decide) ?_
            exact ih17 ((k + 1)) (acc) H locs ls (by omega) (by simp only [tkW, hacc, c8_1, c25_2, c37_3, p_in, p_worn, p_wi, p_creak, p_le0, p_lt1, p_rng, not_true_eq_false, not_false_eq_true, if_true, if_false, and_true, true_and, and_false, false_and, or_true, true_or, or_false, false_or, and_self, or_self, iff_true, true_iff, iff_false, false_iff, decide_eq_true_eq, decide_true, decide_false, Int32.add_zero, Nat.add_zero, ne_eq, Bool.false_eq_true, eq_self]) (by omega) hP hD hS (lv_sub hl [1, 2, 3, 0] rfl)
          · skip
            refine lv_iload_n hx hb dX10_takes_40 rfl (lv_at hl 2 rfl) ?_
            refine lv_iconst (v := nI (1)) hx hb dX10_takes_41 (by decide) ?_
            refine lv_iload_n hx hb dX10_takes_42 rfl (lv_at hl 3 rfl) ?_
            refine lv_ishl hx hb dX10_takes_43 ?_
            refine lv_ior hx hb dX10_takes_44 ?_
            refine lv_istore_n (lv' := [(2, .int ((acc ||| (nI (1) <<< (nI (k) &&& 31))))), (0, .ref (x 0)), (1, .int (x1)), (3, .int (nI (k)))]) hx hb dX10_takes_45 rfl hl (by decide) rfl (fun ls hl => ?_)
            refine lv_iinc (v := nI ((k + 1))) (lv' := [(3, .int (nI ((k + 1)))), (2, .int ((acc ||| (nI (1) <<< (nI (k) &&& 31))))), (0, .ref (x 0)), (1, .int (x1))]) hx hb dX10_takes_46 hl (k := 3) rfl (zInc _) (by decide) rfl (fun ls hl => ?_)
            refine lv_goto (tgt := 17) hx hb dX10_takes_49 (by decide) ?_
            exact ih17 ((k + 1)) ((acc ||| (nI (1) <<< (nI (k) &&& 31)))) H locs ls (by omega) (by simp only [tkW, hacc, c8_1, c25_2, c37_3, p_in, p_worn, p_wi, p_creak, p_le0, p_lt1, p_rng, not_true_eq_false, not_false_eq_true, if_true, if_false, and_true, true_and, and_false, false_and, or_true, true_or, or_false, false_or, and_self, or_self, iff_true, true_iff, iff_false, false_iff, decide_eq_true_eq, decide_true, decide_false, Int32.add_zero, Nat.add_zero, ne_eq, Bool.false_eq_true, eq_self]) (by omega) hP hD hS (lv_sub hl [2, 3, 1, 0] rfl)
    exact lp17 ((y_rn y - (0)) + 1) (0) (nI 0) H locs ls (by omega) rfl (Nat.lt_succ_self _) hP hD hS (lv_sub hl [2, 3, 1, 0] rfl)
  · skip
    refine lv_iconst (v := (-1)) hx hb dX10_takes_11 (by decide) ?_
    exact zIret () hx hb hr hlocks hK hP hD hS dX10_takes_12 (show (-1) = a_takes y x1 from (by simp only [a_takes, ixI, c8_1, p_in, p_worn, p_wi, p_creak, p_le0, p_lt1, p_rng, not_true_eq_false, not_false_eq_true, if_true, if_false, and_true, true_and, and_false, false_and, or_true, true_or, or_false, false_or, and_self, or_self, iff_true, true_iff, iff_false, false_iff, decide_eq_true_eq, decide_true, decide_false, Int32.add_zero, Nat.add_zero, ne_eq, Bool.false_eq_true, eq_self]))
abbrev rmX10_cheapest : Room := { frames := 4, cells := 0, slots := 0, locals := 94 }
theorem in_X10_cheapest_X10 : ∀ w ∈ u_ws RX10 TX10 12, w ∈ wsX10_cheapest := by decide +kernel
set_option maxHeartbeats 4000000 in
set_option maxRecDepth 100000 in
theorem kX10_cheapest {D : va_G} {g : XG} {ct : Nat → ClassId} {l : Launch} (a : Nat → Nat) (y : YS) (b : Nat → Nat) (rs : RS) (d : Nat → Nat) (bz : BS) (i : Nat → Nat) (iv : IS) (lb : Nat → Nat) (lz : LST) (sa : Nat → Nat) (sy : YS) (x : Nat → Nat) (xv : Int32 × Int32) (h : Nat → Nat) (ha : Nat → Nat → Nat) (hz : HS) (R : va_W) (x1 : Int32) (hy : yI y) (hf : yF y) : MX D ct g l yX10_cheapest wsX10_cheapest rmX10_cheapest (YW ct a y (KR a b rs (BW ct a d bz (IW ct i (xE g) iv (LW ct lb lz (YW ct sa sy (XO x a sa h b d i lb xv (HW ct h ha hz R)))))))) [.ref (x 0), .int (x1)] (QI D ct (fun r0 (_ : Unit) => r0 = a_chC y x1) (fun _ : Unit => YW ct a y (KR a b rs (BW ct a d bz (IW ct i (xE g) iv (LW ct lb lz (YW ct sa sy (XO x a sa h b d i lb xv (HW ct h ha hz R))))))))) := by
  refine MXof (cc := cX10_cheapest) (maxL := 2) (ret := (some .int)) (by decide) rfl (Nat.le_of_ble_eq_true rfl) ?_
  intro p e s m args below meth c A H locs F hP hK hD hS hA hX ls hl
  obtain ⟨hx, hb, hr, hlocks, hml, hown, hts, hin⟩ := F
  have hl : lv_has ls 2 [(0, .ref (x 0)), (1, .int (x1))] := hl
  have hkd : ∀ j9, j9 < y_n y → y_kd y j9 = nI 0 ∨ y_kd y j9 = nI 1 := fun j9 hj9 => (hy.2.2.2.1 j9 hj9).1
  have hn : y_n y ≤ 12 := hy.1
  have hcn : y_cn y ≤ 4 := hy.2.1
  have hrn : y_rn y ≤ 5 := hy.2.2.1
  have h_X10 := in_X10_cheapest_X10
  have f10 := hts (.fieldLink RX10 10 "CartArguments" "yard" "LCartArguments$Yard;") (by decide +kernel)
  have f67 := hts (.fieldLink RX10 67 "CartArguments" "orders" "LCartArguments$Orders;") (by decide +kernel)
  refine lv_aload_n hx hb dX10_cheapest_0 rfl (lv_at hl 0 rfl) ?_
  refine va_get (ci := 9) (v := .ref (a 0)) hx hb hts h_X10 hown hK hP 38 rfl rfl 0 (by decide) f10 (fun _ h9 => h9) rfl dX10_cheapest_1 ?_
  refine lv_iload_n hx hb dX10_cheapest_4 rfl (lv_at hl 1 rfl) ?_
  refine zVI [.int (x1)] [] (kX9_isCart (a) (y) (KR a b rs (BW ct a d bz (IW ct i (xE g) iv (LW ct lb lz (YW ct sa sy (XO x a sa h b d i lb xv (HW ct h ha hz R))))))) (x1)) hx hb hml hown hts (cwV 1 hts gX10_cheapest_X9_isCart rfl rfl rfl (by decide +kernel) ⟨(Nat.le_of_ble_eq_true rfl), (Nat.le_of_ble_eq_true rfl)⟩) hK hP hD hS hA (va_recv hK hP (ci := 8) (q0 := 0) rfl rfl) rfl hl.1 rfl (Nat.le_of_ble_eq_true rfl) dX10_cheapest_5 ⟨(Nat.le_of_ble_eq_true rfl), (Nat.le_of_ble_eq_true rfl)⟩ (fun r_5 _ H locs hr_5 hP hD hS => ?_)
  subst hr_5
  have hP : va_P D vwCl (YW ct a y (KR a b rs (BW ct a d bz (IW ct i (xE g) iv (LW ct lb lz (YW ct sa sy (XO x a sa h b d i lb xv (HW ct h ha hz R)))))))) H := hP
  have hD : va_D A (YW ct a y (KR a b rs (BW ct a d bz (IW ct i (xE g) iv (LW ct lb lz (YW ct sa sy (XO x a sa h b d i lb xv (HW ct h ha hz R)))))))) := hD
  refine zB_if_eq (tgt := 22) hx hb dX10_cheapest_8 (by decide) (fun c8_1 => ?_) (fun c8_1 => ?_)
  · skip
    refine lv_iconst (v := (-1)) hx hb dX10_cheapest_22 (by decide) ?_
    exact zIret () hx hb hr hlocks hK hP hD hS dX10_cheapest_23 (show (-1) = a_chC y x1 from (by simp only [a_chC, ixI, c8_1, p_in, p_worn, p_wi, p_creak, p_le0, p_lt1, p_rng, not_true_eq_false, not_false_eq_true, if_true, if_false, and_true, true_and, and_false, false_and, or_true, true_or, or_false, false_or, and_self, or_self, iff_true, true_iff, iff_false, false_iff, decide_eq_true_eq, decide_true, decide_false, Int32.add_zero, Nat.add_zero, ne_eq, Bool.false_eq_true, eq_self]))
  · skip
    obtain ⟨k1, hk1, ek1⟩ := p_in_ex (n := y_cn y) (by omega) c8_1
    subst ek1
    have hclk1 : (nI k1).toNatClampNeg = k1 := nI_clamp (by omega)
    refine lv_aload_n hx hb dX10_cheapest_11 rfl (lv_at hl 0 rfl) ?_
    refine va_get (ci := 9) (v := .ref (b 3)) hx hb hts h_X10 hown hK hP 38 rfl rfl 8 (by decide) f67 (fun _ h9 => h9) rfl dX10_cheapest_12 ?_
    refine lv_iload_n hx hb dX10_cheapest_15 rfl (lv_at hl 1 rfl) ?_
    refine zVI [.int (nI (k1))] [] (kX5_cheapestRoad (a) (y) (b) (rs) (BW ct a d bz (IW ct i (xE g) iv (LW ct lb lz (YW ct sa sy (XO x a sa h b d i lb xv (HW ct h ha hz R)))))) (k1) (show yI y from hy) (show (k1) < y_cn y from by omega)) hx hb hml hown hts (cwV 1 hts gX10_cheapest_X5_cheapestRoad rfl rfl rfl (by decide +kernel) ⟨(Nat.le_of_ble_eq_true rfl), (Nat.le_of_ble_eq_true rfl)⟩) hK hP hD hS hA (va_recv hK hP (ci := 4) (q0 := 15) rfl rfl) rfl hl.1 rfl (Nat.le_of_ble_eq_true rfl) dX10_cheapest_16 ⟨(Nat.le_of_ble_eq_true rfl), (Nat.le_of_ble_eq_true rfl)⟩ (fun r_16 _ H locs hr_16 hP hD hS => ?_)
    subst hr_16
    have hP : va_P D vwCl (YW ct a y (KR a b rs (BW ct a d bz (IW ct i (xE g) iv (LW ct lb lz (YW ct sa sy (XO x a sa h b d i lb xv (HW ct h ha hz R)))))))) H := hP
    have hD : va_D A (YW ct a y (KR a b rs (BW ct a d bz (IW ct i (xE g) iv (LW ct lb lz (YW ct sa sy (XO x a sa h b d i lb xv (HW ct h ha hz R)))))))) := hD
    refine lv_goto (tgt := 23) hx hb dX10_cheapest_19 (by decide) ?_
    exact zIret () hx hb hr hlocks hK hP hD hS dX10_cheapest_23 (show (t_chC y (k1)) = a_chC y (nI k1) from (by simp only [a_chC, ixI, c8_1, hclk1, p_in, p_worn, p_wi, p_creak, p_le0, p_lt1, p_rng, not_true_eq_false, not_false_eq_true, if_true, if_false, and_true, true_and, and_false, false_and, or_true, true_or, or_false, false_or, and_self, or_self, iff_true, true_iff, iff_false, false_iff, decide_eq_true_eq, decide_true, decide_false, Int32.add_zero, Nat.add_zero, ne_eq, Bool.false_eq_true, eq_self]))
abbrev rmX10_heaviest : Room := { frames := 2, cells := 0, slots := 0, locals := 46 }
theorem in_X10_heaviest_X10 : ∀ w ∈ u_ws RX10 TX10 12, w ∈ wsX10_heaviest := by decide +kernel
set_option maxHeartbeats 4000000 in
set_option maxRecDepth 100000 in
theorem kX10_heaviest {D : va_G} {g : XG} {ct : Nat → ClassId} {l : Launch} (a : Nat → Nat) (y : YS) (b : Nat → Nat) (rs : RS) (d : Nat → Nat) (bz : BS) (i : Nat → Nat) (iv : IS) (lb : Nat → Nat) (lz : LST) (sa : Nat → Nat) (sy : YS) (x : Nat → Nat) (xv : Int32 × Int32) (h : Nat → Nat) (ha : Nat → Nat → Nat) (hz : HS) (R : va_W) (x1 : Int32) (hy : yI y) (hf : yF y) : MX D ct g l yX10_heaviest wsX10_heaviest rmX10_heaviest (YW ct a y (KR a b rs (BW ct a d bz (IW ct i (xE g) iv (LW ct lb lz (YW ct sa sy (XO x a sa h b d i lb xv (HW ct h ha hz R)))))))) [.ref (x 0), .int (x1)] (QI D ct (fun r0 (_ : Unit) => r0 = ordI (fun j k => decide (pcT y j k)) (y_n y) x1) (fun _ : Unit => YW ct a y (KR a b rs (BW ct a d bz (IW ct i (xE g) iv (LW ct lb lz (YW ct sa sy (XO x a sa h b d i lb xv (HW ct h ha hz R))))))))) := by
  refine MXof (cc := cX10_heaviest) (maxL := 2) (ret := (some .int)) (by decide) rfl (Nat.le_of_ble_eq_true rfl) ?_
  intro p e s m args below meth c A H locs F hP hK hD hS hA hX ls hl
  obtain ⟨hx, hb, hr, hlocks, hml, hown, hts, hin⟩ := F
  have hl : lv_has ls 2 [(0, .ref (x 0)), (1, .int (x1))] := hl
  have hkd : ∀ j9, j9 < y_n y → y_kd y j9 = nI 0 ∨ y_kd y j9 = nI 1 := fun j9 hj9 => (hy.2.2.2.1 j9 hj9).1
  have hn : y_n y ≤ 12 := hy.1
  have hcn : y_cn y ≤ 4 := hy.2.1
  have hrn : y_rn y ≤ 5 := hy.2.2.1
  have h_X10 := in_X10_heaviest_X10
  have f67 := hts (.fieldLink RX10 67 "CartArguments" "orders" "LCartArguments$Orders;") (by decide +kernel)
  refine lv_aload_n hx hb dX10_heaviest_0 rfl (lv_at hl 0 rfl) ?_
  refine va_get (ci := 9) (v := .ref (b 3)) hx hb hts h_X10 hown hK hP 38 rfl rfl 8 (by decide) f67 (fun _ h9 => h9) rfl dX10_heaviest_1 ?_
  refine lv_iload_n hx hb dX10_heaviest_4 rfl (lv_at hl 1 rfl) ?_
  refine zVI [.int (x1)] [] (kX5_thingInOrder (a) (y) (b) (rs) (BW ct a d bz (IW ct i (xE g) iv (LW ct lb lz (YW ct sa sy (XO x a sa h b d i lb xv (HW ct h ha hz R)))))) (x1) (show y_n y ≤ 12 from by omega)) hx hb hml hown hts (cwV 1 hts gX10_heaviest_X5_thingInOrder rfl rfl rfl (by decide +kernel) ⟨(Nat.le_of_ble_eq_true rfl), (Nat.le_of_ble_eq_true rfl)⟩) hK hP hD hS hA (va_recv hK hP (ci := 4) (q0 := 15) rfl rfl) rfl hl.1 rfl (Nat.le_of_ble_eq_true rfl) dX10_heaviest_5 ⟨(Nat.le_of_ble_eq_true rfl), (Nat.le_of_ble_eq_true rfl)⟩ (fun r_5 _ H locs hr_5 hP hD hS => ?_)
  subst hr_5
  have hP : va_P D vwCl (YW ct a y (KR a b rs (BW ct a d bz (IW ct i (xE g) iv (LW ct lb lz (YW ct sa sy (XO x a sa h b d i lb xv (HW ct h ha hz R)))))))) H := hP
  have hD : va_D A (YW ct a y (KR a b rs (BW ct a d bz (IW ct i (xE g) iv (LW ct lb lz (YW ct sa sy (XO x a sa h b d i lb xv (HW ct h ha hz R)))))))) := hD
  exact zIret () hx hb hr hlocks hK hP hD hS dX10_heaviest_8 (show (ordI (fun j k => decide (pcT y j k)) (y_n y) (x1)) = ordI (fun j k => decide (pcT y j k)) (y_n y) x1 from rfl)
abbrev rmX10_fullest : Room := { frames := 4, cells := 0, slots := 0, locals := 101 }
theorem in_X10_fullest_X10 : ∀ w ∈ u_ws RX10 TX10 12, w ∈ wsX10_fullest := by decide +kernel
set_option maxHeartbeats 4000000 in
set_option maxRecDepth 100000 in
theorem kX10_fullest {D : va_G} {g : XG} {ct : Nat → ClassId} {l : Launch} (a : Nat → Nat) (y : YS) (b : Nat → Nat) (rs : RS) (d : Nat → Nat) (bz : BS) (i : Nat → Nat) (iv : IS) (lb : Nat → Nat) (lz : LST) (sa : Nat → Nat) (sy : YS) (x : Nat → Nat) (xv : Int32 × Int32) (h : Nat → Nat) (ha : Nat → Nat → Nat) (hz : HS) (R : va_W) (x1 : Int32) (hy : yI y) (hf : yF y) : MX D ct g l yX10_fullest wsX10_fullest rmX10_fullest (YW ct a y (KR a b rs (BW ct a d bz (IW ct i (xE g) iv (LW ct lb lz (YW ct sa sy (XO x a sa h b d i lb xv (HW ct h ha hz R)))))))) [.ref (x 0), .int (x1)] (QI D ct (fun r0 (_ : Unit) => r0 = ordI (fun j k => decide (pcC y j k)) (y_cn y) x1) (fun _ : Unit => YW ct a y (KR a b rs (BW ct a d bz (IW ct i (xE g) iv (LW ct lb lz (YW ct sa sy (XO x a sa h b d i lb xv (HW ct h ha hz R))))))))) := by
  refine MXof (cc := cX10_fullest) (maxL := 2) (ret := (some .int)) (by decide) rfl (Nat.le_of_ble_eq_true rfl) ?_
  intro p e s m args below meth c A H locs F hP hK hD hS hA hX ls hl
  obtain ⟨hx, hb, hr, hlocks, hml, hown, hts, hin⟩ := F
  have hl : lv_has ls 2 [(0, .ref (x 0)), (1, .int (x1))] := hl
  have hkd : ∀ j9, j9 < y_n y → y_kd y j9 = nI 0 ∨ y_kd y j9 = nI 1 := fun j9 hj9 => (hy.2.2.2.1 j9 hj9).1
  have hn : y_n y ≤ 12 := hy.1
  have hcn : y_cn y ≤ 4 := hy.2.1
  have hrn : y_rn y ≤ 5 := hy.2.2.1
  have h_X10 := in_X10_fullest_X10
  have f67 := hts (.fieldLink RX10 67 "CartArguments" "orders" "LCartArguments$Orders;") (by decide +kernel)
  refine lv_aload_n hx hb dX10_fullest_0 rfl (lv_at hl 0 rfl) ?_
  refine va_get (ci := 9) (v := .ref (b 3)) hx hb hts h_X10 hown hK hP 38 rfl rfl 8 (by decide) f67 (fun _ h9 => h9) rfl dX10_fullest_1 ?_
  refine lv_iload_n hx hb dX10_fullest_4 rfl (lv_at hl 1 rfl) ?_
  refine zVI [.int (x1)] [] (kX5_cartInOrder (a) (y) (b) (rs) (BW ct a d bz (IW ct i (xE g) iv (LW ct lb lz (YW ct sa sy (XO x a sa h b d i lb xv (HW ct h ha hz R)))))) (x1) (show y_n y ≤ 12 from by omega) (show y_cn y ≤ 4 from by omega) (show ∀ j9, j9 < y_n y → y_kd y j9 = nI 0 ∨ y_kd y j9 = nI 1 from hkd)) hx hb hml hown hts (cwV 1 hts gX10_fullest_X5_cartInOrder rfl rfl rfl (by decide +kernel) ⟨(Nat.le_of_ble_eq_true rfl), (Nat.le_of_ble_eq_true rfl)⟩) hK hP hD hS hA (va_recv hK hP (ci := 4) (q0 := 15) rfl rfl) rfl hl.1 rfl (Nat.le_of_ble_eq_true rfl) dX10_fullest_5 ⟨(Nat.le_of_ble_eq_true rfl), (Nat.le_of_ble_eq_true rfl)⟩ (fun r_5 _ H locs hr_5 hP hD hS => ?_)
  subst hr_5
  have hP : va_P D vwCl (YW ct a y (KR a b rs (BW ct a d bz (IW ct i (xE g) iv (LW ct lb lz (YW ct sa sy (XO x a sa h b d i lb xv (HW ct h ha hz R)))))))) H := hP
  have hD : va_D A (YW ct a y (KR a b rs (BW ct a d bz (IW ct i (xE g) iv (LW ct lb lz (YW ct sa sy (XO x a sa h b d i lb xv (HW ct h ha hz R)))))))) := hD
  exact zIret () hx hb hr hlocks hK hP hD hS dX10_fullest_8 (show (ordI (fun j k => decide (pcC y j k)) (y_cn y) (x1)) = ordI (fun j k => decide (pcC y j k)) (y_cn y) x1 from rfl)
abbrev rmX10_meanWeight : Room := { frames := 0, cells := 0, slots := 0, locals := 0 }
theorem in_X10_meanWeight_X10 : ∀ w ∈ u_ws RX10 TX10 12, w ∈ wsX10_meanWeight := by decide +kernel
theorem in_X10_meanWeight_X9 : ∀ w ∈ u_ws RX9 TX9 16, w ∈ wsX10_meanWeight := by decide +kernel
set_option maxHeartbeats 4000000 in
set_option maxRecDepth 100000 in
theorem kX10_meanWeight {D : va_G} {g : XG} {ct : Nat → ClassId} {l : Launch} (a : Nat → Nat) (y : YS) (b : Nat → Nat) (rs : RS) (d : Nat → Nat) (bz : BS) (i : Nat → Nat) (iv : IS) (lb : Nat → Nat) (lz : LST) (sa : Nat → Nat) (sy : YS) (x : Nat → Nat) (xv : Int32 × Int32) (h : Nat → Nat) (ha : Nat → Nat → Nat) (hz : HS) (R : va_W)  (hy : yI y) (hf : yF y) : MX D ct g l yX10_meanWeight wsX10_meanWeight rmX10_meanWeight (YW ct a y (KR a b rs (BW ct a d bz (IW ct i (xE g) iv (LW ct lb lz (YW ct sa sy (XO x a sa h b d i lb xv (HW ct h ha hz R)))))))) [.ref (x 0)] (QD D ct (fun r0 (_ : Unit) => r0 = a_mean y) (fun _ : Unit => YW ct a y (KR a b rs (BW ct a d bz (IW ct i (xE g) iv (LW ct lb lz (YW ct sa sy (XO x a sa h b d i lb xv (HW ct h ha hz R))))))))) := by
  refine MXof (cc := cX10_meanWeight) (maxL := 3) (ret := (some .double)) (by decide) rfl (Nat.le_of_ble_eq_true rfl) ?_
  intro p e s m args below meth c A H locs F hP hK hD hS hA hX ls hl
  obtain ⟨hx, hb, hr, hlocks, hml, hown, hts, hin⟩ := F
  have hl : lv_has ls 3 [(0, .ref (x 0))] := hl
  have hkd : ∀ j9, j9 < y_n y → y_kd y j9 = nI 0 ∨ y_kd y j9 = nI 1 := fun j9 hj9 => (hy.2.2.2.1 j9 hj9).1
  have hn : y_n y ≤ 12 := hy.1
  have hcn : y_cn y ≤ 4 := hy.2.1
  have hrn : y_rn y ≤ 5 := hy.2.2.1
  have h_X10 := in_X10_meanWeight_X10
  have h_X9 := in_X10_meanWeight_X9
  have f10 := hts (.fieldLink RX10 10 "CartArguments" "yard" "LCartArguments$Yard;") (by decide +kernel)
  have f89 := hts (.fieldLink RX10 89 "CartArguments$Yard" "things" "I") (by decide +kernel)
  have f199 := hts (.fieldLink RX10 199 "CartArguments$Yard" "weights" "[I") (by decide +kernel)
  refine lv_aload_n hx hb dX10_meanWeight_0 rfl (lv_at hl 0 rfl) ?_
  refine va_get (ci := 9) (v := .ref (a 0)) hx hb hts h_X10 hown hK hP 38 rfl rfl 0 (by decide) f10 (fun _ h9 => h9) rfl dX10_meanWeight_1 ?_
  refine va_get (ci := 8) (v := .int (nI (y_n y))) hx hb hts h_X9 hown hK hP 0 rfl rfl 0 (by decide) f89 (fun _ h9 => h9) rfl dX10_meanWeight_4 ?_
  refine zN_if_gt (tgt := 12) hx hb (by omega) dX10_meanWeight_7 (by decide) (fun c7_1 => ?_) (fun c7_1 => ?_)
  · skip
    have h7 : ¬ y_n y = 0 := by omega
    refine lv_iconst (v := nI (0)) hx hb dX10_meanWeight_12 (by decide) ?_
    refine lv_istore_n (lv' := [(1, .int (nI (0))), (0, .ref (x 0))]) hx hb dX10_meanWeight_13 rfl hl (by decide) rfl (fun ls hl => ?_)
    refine lv_iconst (v := nI (0)) hx hb dX10_meanWeight_14 (by decide) ?_
    refine lv_istore_n (lv' := [(2, .int (nI (0))), (1, .int (nI (0))), (0, .ref (x 0))]) hx hb dX10_meanWeight_15 rfl hl (by decide) rfl (fun ls hl => ?_)
    have lp16 : ∀ (fu : Nat) (k : Nat) (acc : Int32) (H : Heap) (locs : List Loc) (ls : Array Slot), (k ≤ y_n y) → (acc = sI (fun k => y_w y k) k) → y_n y - k < fu → va_P D vwCl (YW ct a y (KR a b rs (BW ct a d bz (IW ct i (xE g) iv (LW ct lb lz (YW ct sa sy (XO x a sa h b d i lb xv (HW ct h ha hz R)))))))) H → va_D A (YW ct a y (KR a b rs (BW ct a d bz (IW ct i (xE g) iv (LW ct lb lz (YW ct sa sy (XO x a sa h b d i lb xv (HW ct h ha hz R)))))))) → va_S A s.heap H locs → lv_has ls 3 [(0, .ref (x 0)), (1, .int (acc)), (2, .int (nI (k)))] → W p l e rmX10_meanWeight s m args below meth c H locs 0 0 (MQ below (va_Qd (fun r0 (_ : Unit) => r0 = a_mean y) (zB D ct A (fun _ : Unit => YW ct a y (KR a b rs (BW ct a d bz (IW ct i (xE g) iv (LW ct lb lz (YW ct sa sy (XO x a sa h b d i lb xv (HW ct h ha hz R))))))))) A) args s rmX10_meanWeight.cells rmX10_meanWeight.slots A) (F0 m 16 ls []) := by
      intro fu
      induction fu with
      | zero => intro k acc H locs ls hk hacc hfu; exact absurd hfu (Nat.not_lt_zero _)
      | succ fu ih16 =>
        intro k acc H locs ls hk hacc hfu hP hD hS hl
        refine lv_iload_n hx hb dX10_meanWeight_16 rfl (lv_at hl 2 rfl) ?_
        refine lv_aload_n hx hb dX10_meanWeight_17 rfl (lv_at hl 0 rfl) ?_
        refine va_get (ci := 9) (v := .ref (a 0)) hx hb hts h_X10 hown hK hP 38 rfl rfl 0 (by decide) f10 (fun _ h9 => h9) rfl dX10_meanWeight_18 ?_
        refine va_get (ci := 8) (v := .int (nI (y_n y))) hx hb hts h_X9 hown hK hP 0 rfl rfl 0 (by decide) f89 (fun _ h9 => h9) rfl dX10_meanWeight_21 ?_
        refine zN_icmp_ge (tgt := 45) hx hb (by omega) (by omega) dX10_meanWeight_24 (by decide) (fun c24_2 => ?_) (fun c24_2 => ?_)
        · skip
          refine lv_iload_n hx hb dX10_meanWeight_45 rfl (lv_at hl 1 rfl) ?_
          refine lv_i2d hx hb dX10_meanWeight_46 ?_
          refine lv_aload_n hx hb dX10_meanWeight_47 rfl (lv_at hl 0 rfl) ?_
          refine va_get (ci := 9) (v := .ref (a 0)) hx hb hts h_X10 hown hK hP 38 rfl rfl 0 (by decide) f10 (fun _ h9 => h9) rfl dX10_meanWeight_48 ?_
          refine va_get (ci := 8) (v := .int (nI (y_n y))) hx hb hts h_X9 hown hK hP 0 rfl rfl 0 (by decide) f89 (fun _ h9 => h9) rfl dX10_meanWeight_51 ?_
          refine lv_i2d hx hb dX10_meanWeight_54 ?_
          refine lv_ddiv hx hb dX10_meanWeight_55 (by rw [hacc, show k = y_n y by omega]; exact mean_n hy h7) ?_
          exact zDret () hx hb hr hlocks hK hP hD hS dX10_meanWeight_56 (show (FP.ddiv (FP.i2d (acc)) (FP.i2d (nI (y_n y)))) = a_mean y from (by rw [a_mean, if_neg h7, hacc, show k = y_n y by omega]; rfl))
        · skip
          refine lv_iload_n hx hb dX10_meanWeight_27 rfl (lv_at hl 1 rfl) ?_
          refine lv_aload_n hx hb dX10_meanWeight_28 rfl (lv_at hl 0 rfl) ?_
          refine va_get (ci := 9) (v := .ref (a 0)) hx hb hts h_X10 hown hK hP 38 rfl rfl 0 (by decide) f10 (fun _ h9 => h9) rfl dX10_meanWeight_29 ?_
          refine va_get (ci := 8) (v := .ref (a 2)) hx hb hts h_X9 hown hK hP 0 rfl rfl 2 (by decide) f199 (fun _ h9 => h9) rfl dX10_meanWeight_32 ?_
          refine lv_iload_n hx hb dX10_meanWeight_35 rfl (lv_at hl 2 rfl) ?_
          refine zIald (n := 12) (f := y_w y) (i := k) hx hb hK hP 2 rfl (by omega) (by decide) dX10_meanWeight_36 ?_
          refine lv_iadd hx hb dX10_meanWeight_37 ?_
          refine lv_istore_n (lv' := [(1, .int ((acc + (y_w y (k))))), (0, .ref (x 0)), (2, .int (nI (k)))]) hx hb dX10_meanWeight_38 rfl hl (by decide) rfl (fun ls hl => ?_)
          refine lv_iinc (v := nI ((k + 1))) (lv' := [(2, .int (nI ((k + 1)))), (1, .int ((acc + (y_w y (k))))), (0, .ref (x 0))]) hx hb dX10_meanWeight_39 hl (k := 2) rfl (zInc _) (by decide) rfl (fun ls hl => ?_)
          refine lv_goto (tgt := 16) hx hb dX10_meanWeight_42 (by decide) ?_
          exact ih16 ((k + 1)) ((acc + (y_w y (k)))) H locs ls (by omega) (by rw [sI, hacc]) (by omega) hP hD hS (lv_sub hl [2, 1, 0] rfl)
    exact lp16 ((y_n y - (0)) + 1) (0) (nI 0) H locs ls (by omega) rfl (Nat.lt_succ_self _) hP hD hS (lv_sub hl [2, 1, 0] rfl)
  · skip
    refine lv_dconst0 hx hb dX10_meanWeight_10 ?_
    exact zDret () hx hb hr hlocks hK hP hD hS dX10_meanWeight_11 (show FP.dconst0 = a_mean y from (by simp only [a_mean, c7_1, p_in, p_worn, p_wi, p_creak, p_le0, p_lt1, p_rng, not_true_eq_false, not_false_eq_true, if_true, if_false, and_true, true_and, and_false, false_and, or_true, true_or, or_false, false_or, and_self, or_self, iff_true, true_iff, iff_false, false_iff, decide_eq_true_eq, decide_true, decide_false, Int32.add_zero, Nat.add_zero, ne_eq, Bool.false_eq_true, eq_self]))
abbrev rmX10_creakShare : Room := { frames := 4, cells := 0, slots := 0, locals := 90 }
theorem in_X10_creakShare_X10 : ∀ w ∈ u_ws RX10 TX10 12, w ∈ wsX10_creakShare := by decide +kernel
theorem in_X10_creakShare_X9 : ∀ w ∈ u_ws RX9 TX9 16, w ∈ wsX10_creakShare := by decide +kernel
set_option maxHeartbeats 4000000 in
set_option maxRecDepth 100000 in
theorem kX10_creakShare {D : va_G} {g : XG} {ct : Nat → ClassId} {l : Launch} (a : Nat → Nat) (y : YS) (b : Nat → Nat) (rs : RS) (d : Nat → Nat) (bz : BS) (i : Nat → Nat) (iv : IS) (lb : Nat → Nat) (lz : LST) (sa : Nat → Nat) (sy : YS) (x : Nat → Nat) (xv : Int32 × Int32) (h : Nat → Nat) (ha : Nat → Nat → Nat) (hz : HS) (R : va_W)  (hy : yI y) (hf : yF y) : MX D ct g l yX10_creakShare wsX10_creakShare rmX10_creakShare (YW ct a y (KR a b rs (BW ct a d bz (IW ct i (xE g) iv (LW ct lb lz (YW ct sa sy (XO x a sa h b d i lb xv (HW ct h ha hz R)))))))) [.ref (x 0)] (QF D ct (fun r0 (_ : Unit) => r0 = a_share y) (fun _ : Unit => YW ct a y (KR a b rs (BW ct a d bz (IW ct i (xE g) iv (LW ct lb lz (YW ct sa sy (XO x a sa h b d i lb xv (HW ct h ha hz R))))))))) := by
  refine MXof (cc := cX10_creakShare) (maxL := 1) (ret := (some .float)) (by decide) rfl (Nat.le_of_ble_eq_true rfl) ?_
  intro p e s m args below meth c A H locs F hP hK hD hS hA hX ls hl
  obtain ⟨hx, hb, hr, hlocks, hml, hown, hts, hin⟩ := F
  have hl : lv_has ls 1 [(0, .ref (x 0))] := hl
  have hkd : ∀ j9, j9 < y_n y → y_kd y j9 = nI 0 ∨ y_kd y j9 = nI 1 := fun j9 hj9 => (hy.2.2.2.1 j9 hj9).1
  have hn : y_n y ≤ 12 := hy.1
  have hcn : y_cn y ≤ 4 := hy.2.1
  have hrn : y_rn y ≤ 5 := hy.2.2.1
  have h_X10 := in_X10_creakShare_X10
  have h_X9 := in_X10_creakShare_X9
  have f10 := hts (.fieldLink RX10 10 "CartArguments" "yard" "LCartArguments$Yard;") (by decide +kernel)
  have f42 := hts (.fieldLink RX10 42 "CartArguments" "scale" "LCartArguments$Scale;") (by decide +kernel)
  have f312 := hts (.fieldLink RX10 312 "CartArguments$Yard" "carts" "I") (by decide +kernel)
  refine lv_aload_n hx hb dX10_creakShare_0 rfl (lv_at hl 0 rfl) ?_
  refine va_get (ci := 9) (v := .ref (a 0)) hx hb hts h_X10 hown hK hP 38 rfl rfl 0 (by decide) f10 (fun _ h9 => h9) rfl dX10_creakShare_1 ?_
  refine va_get (ci := 8) (v := .int (nI (y_cn y))) hx hb hts h_X9 hown hK hP 0 rfl rfl 5 (by decide) f312 (fun _ h9 => h9) rfl dX10_creakShare_4 ?_
  refine zN_if_gt (tgt := 12) hx hb (by omega) dX10_creakShare_7 (by decide) (fun c7_1 => ?_) (fun c7_1 => ?_)
  · skip
    have h7 : ¬ y_cn y = 0 := by omega
    refine lv_aload_n hx hb dX10_creakShare_12 rfl (lv_at hl 0 rfl) ?_
    refine va_get (ci := 9) (v := .ref (b 0)) hx hb hts h_X10 hown hK hP 38 rfl rfl 5 (by decide) f42 (fun _ h9 => h9) rfl dX10_creakShare_13 ?_
    refine zVI [] [] (kX7_allCreakingAxles (a) (y) (b) (rs) (BW ct a d bz (IW ct i (xE g) iv (LW ct lb lz (YW ct sa sy (XO x a sa h b d i lb xv (HW ct h ha hz R)))))) (show yI y from hy)) hx hb hml hown hts (cwV 0 hts gX10_creakShare_X7_allCreakingAxles rfl rfl rfl (by decide +kernel) ⟨(Nat.le_of_ble_eq_true rfl), (Nat.le_of_ble_eq_true rfl)⟩) hK hP hD hS hA (va_recv hK hP (ci := 6) (q0 := 12) rfl rfl) rfl hl.1 rfl (Nat.le_of_ble_eq_true rfl) dX10_creakShare_16 ⟨(Nat.le_of_ble_eq_true rfl), (Nat.le_of_ble_eq_true rfl)⟩ (fun r_16 _ H locs hr_16 hP hD hS => ?_)
    subst hr_16
    have hP : va_P D vwCl (YW ct a y (KR a b rs (BW ct a d bz (IW ct i (xE g) iv (LW ct lb lz (YW ct sa sy (XO x a sa h b d i lb xv (HW ct h ha hz R)))))))) H := hP
    have hD : va_D A (YW ct a y (KR a b rs (BW ct a d bz (IW ct i (xE g) iv (LW ct lb lz (YW ct sa sy (XO x a sa h b d i lb xv (HW ct h ha hz R)))))))) := hD
    refine lv_i2f hx hb dX10_creakShare_19 ?_
    refine lv_iconst (v := nI (2)) hx hb dX10_creakShare_20 (by decide) ?_
    refine lv_aload_n hx hb dX10_creakShare_21 rfl (lv_at hl 0 rfl) ?_
    refine va_get (ci := 9) (v := .ref (a 0)) hx hb hts h_X10 hown hK hP 38 rfl rfl 0 (by decide) f10 (fun _ h9 => h9) rfl dX10_creakShare_22 ?_
    refine va_get (ci := 8) (v := .int (nI (y_cn y))) hx hb hts h_X9 hown hK hP 0 rfl rfl 5 (by decide) f312 (fun _ h9 => h9) rfl dX10_creakShare_25 ?_
    refine zNmul hx hb dX10_creakShare_28 ?_
    refine lv_i2f hx hb dX10_creakShare_29 ?_
    refine lv_fdiv hx hb dX10_creakShare_30 (share_n hy h7) ?_
    exact zFret () hx hb hr hlocks hK hP hD hS dX10_creakShare_31 (show (FP.fdiv (FP.i2f (nI (t_acr y))) (FP.i2f (nI ((2 * y_cn y))))) = a_share y from (by simp only [a_share, c7_1, h7, p_in, p_worn, p_wi, p_creak, p_le0, p_lt1, p_rng, not_true_eq_false, not_false_eq_true, if_true, if_false, and_true, true_and, and_false, false_and, or_true, true_or, or_false, false_or, and_self, or_self, iff_true, true_iff, iff_false, false_iff, decide_eq_true_eq, decide_true, decide_false, Int32.add_zero, Nat.add_zero, ne_eq, Bool.false_eq_true, eq_self]))
  · skip
    refine lv_fconst0 hx hb dX10_creakShare_10 ?_
    exact zFret () hx hb hr hlocks hK hP hD hS dX10_creakShare_11 (show FP.fconst0 = a_share y from (by simp only [a_share, c7_1, p_in, p_worn, p_wi, p_creak, p_le0, p_lt1, p_rng, not_true_eq_false, not_false_eq_true, if_true, if_false, and_true, true_and, and_false, false_and, or_true, true_or, or_false, false_or, and_self, or_self, iff_true, true_iff, iff_false, false_iff, decide_eq_true_eq, decide_true, decide_false, Int32.add_zero, Nat.add_zero, ne_eq, Bool.false_eq_true, eq_self]))
abbrev rmX10_account : Room := { frames := 5, cells := 0, slots := 0, locals := 108 }
theorem in_X10_account_X10 : ∀ w ∈ u_ws RX10 TX10 12, w ∈ wsX10_account := by decide +kernel
theorem in_X10_account_X3 : ∀ w ∈ u_ws RX3 TX3 3, w ∈ wsX10_account := by decide +kernel
theorem in_X10_account_X4 : ∀ w ∈ u_ws RX4 TX4 5, w ∈ wsX10_account := by decide +kernel
theorem in_X10_account_X9 : ∀ w ∈ u_ws RX9 TX9 16, w ∈ wsX10_account := by decide +kernel
set_option maxHeartbeats 4000000 in
set_option maxRecDepth 100000 in
theorem kX10_account {D : va_G} {g : XG} {ct : Nat → ClassId} {l : Launch} (a : Nat → Nat) (y : YS) (b : Nat → Nat) (rs : RS) (d : Nat → Nat) (bz : BS) (i : Nat → Nat) (iv : IS) (lb : Nat → Nat) (lz : LST) (sa : Nat → Nat) (sy : YS) (x : Nat → Nat) (xv : Int32 × Int32) (h : Nat → Nat) (ha : Nat → Nat → Nat) (hz : HS) (R : va_W) (x1 : Int32) (hy : yI y) (hf : yF y) : MX D ct g l yX10_account wsX10_account rmX10_account (YW ct a y (KR a b rs (BW ct a d bz (IW ct i (xE g) iv (LW ct lb lz (YW ct sa sy (XO x a sa h b d i lb xv (HW ct h ha hz R)))))))) [.ref (x 0), .int (x1)] (QI D ct (fun r0 (_ : Unit) => r0 = a_acc y (i_n iv) hz.2.1 x1) (fun _ : Unit => YW ct a y (KR a b rs (BW ct a d bz (IW ct i (xE g) iv (LW ct lb lz (YW ct sa sy (XO x a sa h b d i lb xv (HW ct h ha hz R))))))))) := by
  refine MXof (cc := cX10_account) (maxL := 2) (ret := (some .int)) (by decide) rfl (Nat.le_of_ble_eq_true rfl) ?_
  intro p e s m args below meth c A H locs F hP hK hD hS hA hX ls hl
  obtain ⟨hx, hb, hr, hlocks, hml, hown, hts, hin⟩ := F
  have hl : lv_has ls 2 [(0, .ref (x 0)), (1, .int (x1))] := hl
  have hkd : ∀ j9, j9 < y_n y → y_kd y j9 = nI 0 ∨ y_kd y j9 = nI 1 := fun j9 hj9 => (hy.2.2.2.1 j9 hj9).1
  have hn : y_n y ≤ 12 := hy.1
  have hcn : y_cn y ≤ 4 := hy.2.1
  have hrn : y_rn y ≤ 5 := hy.2.2.1
  have h_X10 := in_X10_account_X10
  have h_X3 := in_X10_account_X3
  have h_X4 := in_X10_account_X4
  have h_X9 := in_X10_account_X9
  have f10 := hts (.fieldLink RX10 10 "CartArguments" "yard" "LCartArguments$Yard;") (by decide +kernel)
  have f26 := hts (.fieldLink RX10 26 "CartArguments" "history" "LCartArguments$History;") (by decide +kernel)
  have f42 := hts (.fieldLink RX10 42 "CartArguments" "scale" "LCartArguments$Scale;") (by decide +kernel)
  have f74 := hts (.fieldLink RX10 74 "CartArguments" "input" "LCartArguments$Input;") (by decide +kernel)
  have f89 := hts (.fieldLink RX10 89 "CartArguments$Yard" "things" "I") (by decide +kernel)
  have f278 := hts (.fieldLink RX10 278 "CartArguments$Yard" "roads" "I") (by decide +kernel)
  have f312 := hts (.fieldLink RX10 312 "CartArguments$Yard" "carts" "I") (by decide +kernel)
  have f340 := hts (.fieldLink RX10 340 "CartArguments$Yard" "milesMade" "I") (by decide +kernel)
  have f343 := hts (.fieldLink RX10 343 "CartArguments$Input" "length" "I") (by decide +kernel)
  have f345 := hts (.fieldLink RX10 345 "CartArguments$History" "count" "I") (by decide +kernel)
  refine lv_iload_n hx hb dX10_account_0 rfl (lv_at hl 1 rfl) ?_
  rcases zSw 0 12 (x1) (by decide) (by decide) with sw1 | ⟨j, sw1, sw1e⟩
  · refine lv_tableOut (tgt := 174) hx hb dX10_account_1 (zSwO sw1) (by decide) ?_
    have hd0 : ¬ x1 = nI 0 := zSwN (j := 0) sw1 (by decide) (by decide) (by decide)
    have hd1 : ¬ x1 = nI 1 := zSwN (j := 1) sw1 (by decide) (by decide) (by decide)
    have hd2 : ¬ x1 = nI 2 := zSwN (j := 2) sw1 (by decide) (by decide) (by decide)
    have hd3 : ¬ x1 = nI 3 := zSwN (j := 3) sw1 (by decide) (by decide) (by decide)
    have hd4 : ¬ x1 = nI 4 := zSwN (j := 4) sw1 (by decide) (by decide) (by decide)
    have hd5 : ¬ x1 = nI 5 := zSwN (j := 5) sw1 (by decide) (by decide) (by decide)
    have hd6 : ¬ x1 = nI 6 := zSwN (j := 6) sw1 (by decide) (by decide) (by decide)
    have hd7 : ¬ x1 = nI 7 := zSwN (j := 7) sw1 (by decide) (by decide) (by decide)
    have hd8 : ¬ x1 = nI 8 := zSwN (j := 8) sw1 (by decide) (by decide) (by decide)
    have hd9 : ¬ x1 = nI 9 := zSwN (j := 9) sw1 (by decide) (by decide) (by decide)
    have hd10 : ¬ x1 = nI 10 := zSwN (j := 10) sw1 (by decide) (by decide) (by decide)
    have hd11 : ¬ x1 = nI 11 := zSwN (j := 11) sw1 (by decide) (by decide) (by decide)
    have hd12 : ¬ x1 = nI 12 := zSwN (j := 12) sw1 (by decide) (by decide) (by decide)
    refine lv_bipush (v := (-2)) hx hb dX10_account_174 (by decide) ?_
    exact zIret () hx hb hr hlocks hK hP hD hS dX10_account_176 (show (-2) = a_acc y (i_n iv) hz.2.1 x1 from (by simp only [a_acc, ixI, hd0, hd1, hd2, hd3, hd4, hd5, hd6, hd7, hd8, hd9, hd10, hd11, hd12, p_in, p_worn, p_wi, p_creak, p_le0, p_lt1, p_rng, not_true_eq_false, not_false_eq_true, if_true, if_false, and_true, true_and, and_false, false_and, or_true, true_or, or_false, false_or, and_self, or_self, iff_true, true_iff, iff_false, false_iff, decide_eq_true_eq, decide_true, decide_false, Int32.add_zero, Nat.add_zero, ne_eq, Bool.false_eq_true, eq_self]))
  · rcases (show j = 0 ∨ j = 1 ∨ j = 2 ∨ j = 3 ∨ j = 4 ∨ j = 5 ∨ j = 6 ∨ j = 7 ∨ j = 8 ∨ j = 9 ∨ j = 10 ∨ j = 11 ∨ j = 12 by omega) with rfl | rfl | rfl | rfl | rfl | rfl | rfl | rfl | rfl | rfl | rfl | rfl | rfl
    · refine lv_tableIn (off := 67) (tgt := 68) hx hb dX10_account_1 (by rw [sw1e]; decide) (by rw [sw1e]; decide) (by rw [sw1e]; rfl) (by decide) ?_
      subst sw1e
      have hj : (nI 0 : Int32) = nI 0 := rfl
      refine lv_aload_n hx hb dX10_account_68 rfl (lv_at hl 0 rfl) ?_
      refine va_get (ci := 9) (v := .ref (a 0)) hx hb hts h_X10 hown hK hP 38 rfl rfl 0 (by decide) f10 (fun _ h9 => h9) rfl dX10_account_69 ?_
      refine va_get (ci := 8) (v := .int (nI (y_n y))) hx hb hts h_X9 hown hK hP 0 rfl rfl 0 (by decide) f89 (fun _ h9 => h9) rfl dX10_account_72 ?_
      exact zIret () hx hb hr hlocks hK hP hD hS dX10_account_75 (show nI (y_n y) = a_acc y (i_n iv) hz.2.1 (nI 0) from (by simp only [a_acc, ixI, p_in, p_worn, p_wi, p_creak, p_le0, p_lt1, p_rng, not_true_eq_false, not_false_eq_true, if_true, if_false, and_true, true_and, and_false, false_and, or_true, true_or, or_false, false_or, and_self, or_self, iff_true, true_iff, iff_false, false_iff, decide_eq_true_eq, decide_true, decide_false, Int32.add_zero, Nat.add_zero, ne_eq, Bool.false_eq_true, eq_self]))
    · refine lv_tableIn (off := 75) (tgt := 76) hx hb dX10_account_1 (by rw [sw1e]; decide) (by rw [sw1e]; decide) (by rw [sw1e]; rfl) (by decide) ?_
      subst sw1e
      have hj : (nI 1 : Int32) = nI 1 := rfl
      have hn0 : ¬ (nI 1 = nI 0) := by decide
      refine lv_aload_n hx hb dX10_account_76 rfl (lv_at hl 0 rfl) ?_
      refine va_get (ci := 9) (v := .ref (a 0)) hx hb hts h_X10 hown hK hP 38 rfl rfl 0 (by decide) f10 (fun _ h9 => h9) rfl dX10_account_77 ?_
      refine lv_iconst (v := nI (0)) hx hb dX10_account_80 (by decide) ?_
      refine zVI [.int (nI (0))] [] (kX9_thingsOfKind (a) (y) (KR a b rs (BW ct a d bz (IW ct i (xE g) iv (LW ct lb lz (YW ct sa sy (XO x a sa h b d i lb xv (HW ct h ha hz R))))))) (nI (0)) (show y_n y ≤ 12 from by omega)) hx hb hml hown hts (cwV 1 hts gX10_account_X9_thingsOfKind rfl rfl rfl (by decide +kernel) ⟨(Nat.le_of_ble_eq_true rfl), (Nat.le_of_ble_eq_true rfl)⟩) hK hP hD hS hA (va_recv hK hP (ci := 8) (q0 := 0) rfl rfl) rfl hl.1 rfl (Nat.le_of_ble_eq_true rfl) dX10_account_81 ⟨(Nat.le_of_ble_eq_true rfl), (Nat.le_of_ble_eq_true rfl)⟩ (fun r_81 _ H locs hr_81 hP hD hS => ?_)
      subst hr_81
      have hP : va_P D vwCl (YW ct a y (KR a b rs (BW ct a d bz (IW ct i (xE g) iv (LW ct lb lz (YW ct sa sy (XO x a sa h b d i lb xv (HW ct h ha hz R)))))))) H := hP
      have hD : va_D A (YW ct a y (KR a b rs (BW ct a d bz (IW ct i (xE g) iv (LW ct lb lz (YW ct sa sy (XO x a sa h b d i lb xv (HW ct h ha hz R)))))))) := hD
      exact zIret () hx hb hr hlocks hK hP hD hS dX10_account_84 (show nI (t_tk y (nI (0))) = a_acc y (i_n iv) hz.2.1 (nI 1) from (by simp only [a_acc, ixI, hn0, p_in, p_worn, p_wi, p_creak, p_le0, p_lt1, p_rng, not_true_eq_false, not_false_eq_true, if_true, if_false, and_true, true_and, and_false, false_and, or_true, true_or, or_false, false_or, and_self, or_self, iff_true, true_iff, iff_false, false_iff, decide_eq_true_eq, decide_true, decide_false, Int32.add_zero, Nat.add_zero, ne_eq, Bool.false_eq_true, eq_self]))
    · refine lv_tableIn (off := 84) (tgt := 85) hx hb dX10_account_1 (by rw [sw1e]; decide) (by rw [sw1e]; decide) (by rw [sw1e]; rfl) (by decide) ?_
      subst sw1e
      have hj : (nI 2 : Int32) = nI 2 := rfl
      have hn0 : ¬ (nI 2 = nI 0) := by decide
      have hn1 : ¬ (nI 2 = nI 1) := by decide
      refine lv_aload_n hx hb dX10_account_85 rfl (lv_at hl 0 rfl) ?_
      refine va_get (ci := 9) (v := .ref (a 0)) hx hb hts h_X10 hown hK hP 38 rfl rfl 0 (by decide) f10 (fun _ h9 => h9) rfl dX10_account_86 ?_
      refine lv_iconst (v := nI (1)) hx hb dX10_account_89 (by decide) ?_
      refine zVI [.int (nI (1))] [] (kX9_thingsOfKind (a) (y) (KR a b rs (BW ct a d bz (IW ct i (xE g) iv (LW ct lb lz (YW ct sa sy (XO x a sa h b d i lb xv (HW ct h ha hz R))))))) (nI (1)) (show y_n y ≤ 12 from by omega)) hx hb hml hown hts (cwV 1 hts gX10_account_X9_thingsOfKind rfl rfl rfl (by decide +kernel) ⟨(Nat.le_of_ble_eq_true rfl), (Nat.le_of_ble_eq_true rfl)⟩) hK hP hD hS hA (va_recv hK hP (ci := 8) (q0 := 0) rfl rfl) rfl hl.1 rfl (Nat.le_of_ble_eq_true rfl) dX10_account_90 ⟨(Nat.le_of_ble_eq_true rfl), (Nat.le_of_ble_eq_true rfl)⟩ (fun r_90 _ H locs hr_90 hP hD hS => ?_)
      subst hr_90
      have hP : va_P D vwCl (YW ct a y (KR a b rs (BW ct a d bz (IW ct i (xE g) iv (LW ct lb lz (YW ct sa sy (XO x a sa h b d i lb xv (HW ct h ha hz R)))))))) H := hP
      have hD : va_D A (YW ct a y (KR a b rs (BW ct a d bz (IW ct i (xE g) iv (LW ct lb lz (YW ct sa sy (XO x a sa h b d i lb xv (HW ct h ha hz R)))))))) := hD
      exact zIret () hx hb hr hlocks hK hP hD hS dX10_account_93 (show nI (t_tk y (nI (1))) = a_acc y (i_n iv) hz.2.1 (nI 2) from (by simp only [a_acc, ixI, hn0, hn1, p_in, p_worn, p_wi, p_creak, p_le0, p_lt1, p_rng, not_true_eq_false, not_false_eq_true, if_true, if_false, and_true, true_and, and_false, false_and, or_true, true_or, or_false, false_or, and_self, or_self, iff_true, true_iff, iff_false, false_iff, decide_eq_true_eq, decide_true, decide_false, Int32.add_zero, Nat.add_zero, ne_eq, Bool.false_eq_true, eq_self]))
    · refine lv_tableIn (off := 93) (tgt := 94) hx hb dX10_account_1 (by rw [sw1e]; decide) (by rw [sw1e]; decide) (by rw [sw1e]; rfl) (by decide) ?_
      subst sw1e
      have hj : (nI 3 : Int32) = nI 3 := rfl
      have hn0 : ¬ (nI 3 = nI 0) := by decide
      have hn1 : ¬ (nI 3 = nI 1) := by decide
      have hn2 : ¬ (nI 3 = nI 2) := by decide
      refine lv_aload_n hx hb dX10_account_94 rfl (lv_at hl 0 rfl) ?_
      refine va_get (ci := 9) (v := .ref (a 0)) hx hb hts h_X10 hown hK hP 38 rfl rfl 0 (by decide) f10 (fun _ h9 => h9) rfl dX10_account_95 ?_
      refine zVI [] [] (kX9_thingsOnCarts (a) (y) (KR a b rs (BW ct a d bz (IW ct i (xE g) iv (LW ct lb lz (YW ct sa sy (XO x a sa h b d i lb xv (HW ct h ha hz R))))))) (show y_n y ≤ 12 from by omega)) hx hb hml hown hts (cwV 0 hts gX10_account_X9_thingsOnCarts rfl rfl rfl (by decide +kernel) ⟨(Nat.le_of_ble_eq_true rfl), (Nat.le_of_ble_eq_true rfl)⟩) hK hP hD hS hA (va_recv hK hP (ci := 8) (q0 := 0) rfl rfl) rfl hl.1 rfl (Nat.le_of_ble_eq_true rfl) dX10_account_98 ⟨(Nat.le_of_ble_eq_true rfl), (Nat.le_of_ble_eq_true rfl)⟩ (fun r_98 _ H locs hr_98 hP hD hS => ?_)
      subst hr_98
      have hP : va_P D vwCl (YW ct a y (KR a b rs (BW ct a d bz (IW ct i (xE g) iv (LW ct lb lz (YW ct sa sy (XO x a sa h b d i lb xv (HW ct h ha hz R)))))))) H := hP
      have hD : va_D A (YW ct a y (KR a b rs (BW ct a d bz (IW ct i (xE g) iv (LW ct lb lz (YW ct sa sy (XO x a sa h b d i lb xv (HW ct h ha hz R)))))))) := hD
      exact zIret () hx hb hr hlocks hK hP hD hS dX10_account_101 (show nI (t_tc y) = a_acc y (i_n iv) hz.2.1 (nI 3) from (by simp only [a_acc, ixI, hn0, hn1, hn2, p_in, p_worn, p_wi, p_creak, p_le0, p_lt1, p_rng, not_true_eq_false, not_false_eq_true, if_true, if_false, and_true, true_and, and_false, false_and, or_true, true_or, or_false, false_or, and_self, or_self, iff_true, true_iff, iff_false, false_iff, decide_eq_true_eq, decide_true, decide_false, Int32.add_zero, Nat.add_zero, ne_eq, Bool.false_eq_true, eq_self]))
    · refine lv_tableIn (off := 101) (tgt := 102) hx hb dX10_account_1 (by rw [sw1e]; decide) (by rw [sw1e]; decide) (by rw [sw1e]; rfl) (by decide) ?_
      subst sw1e
      have hj : (nI 4 : Int32) = nI 4 := rfl
      have hn0 : ¬ (nI 4 = nI 0) := by decide
      have hn1 : ¬ (nI 4 = nI 1) := by decide
      have hn2 : ¬ (nI 4 = nI 2) := by decide
      have hn3 : ¬ (nI 4 = nI 3) := by decide
      refine lv_aload_n hx hb dX10_account_102 rfl (lv_at hl 0 rfl) ?_
      refine va_get (ci := 9) (v := .ref (a 0)) hx hb hts h_X10 hown hK hP 38 rfl rfl 0 (by decide) f10 (fun _ h9 => h9) rfl dX10_account_103 ?_
      refine va_get (ci := 8) (v := .int (nI (y_cn y))) hx hb hts h_X9 hown hK hP 0 rfl rfl 5 (by decide) f312 (fun _ h9 => h9) rfl dX10_account_106 ?_
      exact zIret () hx hb hr hlocks hK hP hD hS dX10_account_109 (show nI (y_cn y) = a_acc y (i_n iv) hz.2.1 (nI 4) from (by simp only [a_acc, ixI, hn0, hn1, hn2, hn3, p_in, p_worn, p_wi, p_creak, p_le0, p_lt1, p_rng, not_true_eq_false, not_false_eq_true, if_true, if_false, and_true, true_and, and_false, false_and, or_true, true_or, or_false, false_or, and_self, or_self, iff_true, true_iff, iff_false, false_iff, decide_eq_true_eq, decide_true, decide_false, Int32.add_zero, Nat.add_zero, ne_eq, Bool.false_eq_true, eq_self]))
    · refine lv_tableIn (off := 109) (tgt := 110) hx hb dX10_account_1 (by rw [sw1e]; decide) (by rw [sw1e]; decide) (by rw [sw1e]; rfl) (by decide) ?_
      subst sw1e
      have hj : (nI 5 : Int32) = nI 5 := rfl
      have hn0 : ¬ (nI 5 = nI 0) := by decide
      have hn1 : ¬ (nI 5 = nI 1) := by decide
      have hn2 : ¬ (nI 5 = nI 2) := by decide
      have hn3 : ¬ (nI 5 = nI 3) := by decide
      have hn4 : ¬ (nI 5 = nI 4) := by decide
      refine lv_aload_n hx hb dX10_account_110 rfl (lv_at hl 0 rfl) ?_
      refine va_get (ci := 9) (v := .ref (a 0)) hx hb hts h_X10 hown hK hP 38 rfl rfl 0 (by decide) f10 (fun _ h9 => h9) rfl dX10_account_111 ?_
      refine va_get (ci := 8) (v := .int (nI (y_rn y))) hx hb hts h_X9 hown hK hP 0 rfl rfl 9 (by decide) f278 (fun _ h9 => h9) rfl dX10_account_114 ?_
      exact zIret () hx hb hr hlocks hK hP hD hS dX10_account_117 (show nI (y_rn y) = a_acc y (i_n iv) hz.2.1 (nI 5) from (by simp only [a_acc, ixI, hn0, hn1, hn2, hn3, hn4, p_in, p_worn, p_wi, p_creak, p_le0, p_lt1, p_rng, not_true_eq_false, not_false_eq_true, if_true, if_false, and_true, true_and, and_false, false_and, or_true, true_or, or_false, false_or, and_self, or_self, iff_true, true_iff, iff_false, false_iff, decide_eq_true_eq, decide_true, decide_false, Int32.add_zero, Nat.add_zero, ne_eq, Bool.false_eq_true, eq_self]))
    · refine lv_tableIn (off := 117) (tgt := 118) hx hb dX10_account_1 (by rw [sw1e]; decide) (by rw [sw1e]; decide) (by rw [sw1e]; rfl) (by decide) ?_
      subst sw1e
      have hj : (nI 6 : Int32) = nI 6 := rfl
      have hn0 : ¬ (nI 6 = nI 0) := by decide
      have hn1 : ¬ (nI 6 = nI 1) := by decide
      have hn2 : ¬ (nI 6 = nI 2) := by decide
      have hn3 : ¬ (nI 6 = nI 3) := by decide
      have hn4 : ¬ (nI 6 = nI 4) := by decide
      have hn5 : ¬ (nI 6 = nI 5) := by decide
      refine lv_aload_n hx hb dX10_account_118 rfl (lv_at hl 0 rfl) ?_
      refine va_get (ci := 9) (v := .ref (a 0)) hx hb hts h_X10 hown hK hP 38 rfl rfl 0 (by decide) f10 (fun _ h9 => h9) rfl dX10_account_119 ?_
      refine zVI [] [] (kX9_weightOnCarts (a) (y) (KR a b rs (BW ct a d bz (IW ct i (xE g) iv (LW ct lb lz (YW ct sa sy (XO x a sa h b d i lb xv (HW ct h ha hz R))))))) (show y_n y ≤ 12 from by omega) (show y_cn y ≤ 4 from by omega)) hx hb hml hown hts (cwV 0 hts gX10_account_X9_weightOnCarts rfl rfl rfl (by decide +kernel) ⟨(Nat.le_of_ble_eq_true rfl), (Nat.le_of_ble_eq_true rfl)⟩) hK hP hD hS hA (va_recv hK hP (ci := 8) (q0 := 0) rfl rfl) rfl hl.1 rfl (Nat.le_of_ble_eq_true rfl) dX10_account_122 ⟨(Nat.le_of_ble_eq_true rfl), (Nat.le_of_ble_eq_true rfl)⟩ (fun r_122 _ H locs hr_122 hP hD hS => ?_)
      subst hr_122
      have hP : va_P D vwCl (YW ct a y (KR a b rs (BW ct a d bz (IW ct i (xE g) iv (LW ct lb lz (YW ct sa sy (XO x a sa h b d i lb xv (HW ct h ha hz R)))))))) H := hP
      have hD : va_D A (YW ct a y (KR a b rs (BW ct a d bz (IW ct i (xE g) iv (LW ct lb lz (YW ct sa sy (XO x a sa h b d i lb xv (HW ct h ha hz R)))))))) := hD
      exact zIret () hx hb hr hlocks hK hP hD hS dX10_account_125 (show (t_wcs y) = a_acc y (i_n iv) hz.2.1 (nI 6) from (by simp only [a_acc, ixI, hn0, hn1, hn2, hn3, hn4, hn5, p_in, p_worn, p_wi, p_creak, p_le0, p_lt1, p_rng, not_true_eq_false, not_false_eq_true, if_true, if_false, and_true, true_and, and_false, false_and, or_true, true_or, or_false, false_or, and_self, or_self, iff_true, true_iff, iff_false, false_iff, decide_eq_true_eq, decide_true, decide_false, Int32.add_zero, Nat.add_zero, ne_eq, Bool.false_eq_true, eq_self]))
    · refine lv_tableIn (off := 125) (tgt := 126) hx hb dX10_account_1 (by rw [sw1e]; decide) (by rw [sw1e]; decide) (by rw [sw1e]; rfl) (by decide) ?_
      subst sw1e
      have hj : (nI 7 : Int32) = nI 7 := rfl
      have hn0 : ¬ (nI 7 = nI 0) := by decide
      have hn1 : ¬ (nI 7 = nI 1) := by decide
      have hn2 : ¬ (nI 7 = nI 2) := by decide
      have hn3 : ¬ (nI 7 = nI 3) := by decide
      have hn4 : ¬ (nI 7 = nI 4) := by decide
      have hn5 : ¬ (nI 7 = nI 5) := by decide
      have hn6 : ¬ (nI 7 = nI 6) := by decide
      refine lv_aload_n hx hb dX10_account_126 rfl (lv_at hl 0 rfl) ?_
      refine va_get (ci := 9) (v := .ref (b 0)) hx hb hts h_X10 hown hK hP 38 rfl rfl 5 (by decide) f42 (fun _ h9 => h9) rfl dX10_account_127 ?_
      refine zVI [] [] (kX7_allCreakingAxles (a) (y) (b) (rs) (BW ct a d bz (IW ct i (xE g) iv (LW ct lb lz (YW ct sa sy (XO x a sa h b d i lb xv (HW ct h ha hz R)))))) (show yI y from hy)) hx hb hml hown hts (cwV 0 hts gX10_account_X7_allCreakingAxles rfl rfl rfl (by decide +kernel) ⟨(Nat.le_of_ble_eq_true rfl), (Nat.le_of_ble_eq_true rfl)⟩) hK hP hD hS hA (va_recv hK hP (ci := 6) (q0 := 12) rfl rfl) rfl hl.1 rfl (Nat.le_of_ble_eq_true rfl) dX10_account_130 ⟨(Nat.le_of_ble_eq_true rfl), (Nat.le_of_ble_eq_true rfl)⟩ (fun r_130 _ H locs hr_130 hP hD hS => ?_)
      subst hr_130
      have hP : va_P D vwCl (YW ct a y (KR a b rs (BW ct a d bz (IW ct i (xE g) iv (LW ct lb lz (YW ct sa sy (XO x a sa h b d i lb xv (HW ct h ha hz R)))))))) H := hP
      have hD : va_D A (YW ct a y (KR a b rs (BW ct a d bz (IW ct i (xE g) iv (LW ct lb lz (YW ct sa sy (XO x a sa h b d i lb xv (HW ct h ha hz R)))))))) := hD
      exact zIret () hx hb hr hlocks hK hP hD hS dX10_account_133 (show nI (t_acr y) = a_acc y (i_n iv) hz.2.1 (nI 7) from (by simp only [a_acc, ixI, hn0, hn1, hn2, hn3, hn4, hn5, hn6, p_in, p_worn, p_wi, p_creak, p_le0, p_lt1, p_rng, not_true_eq_false, not_false_eq_true, if_true, if_false, and_true, true_and, and_false, false_and, or_true, true_or, or_false, false_or, and_self, or_self, iff_true, true_iff, iff_false, false_iff, decide_eq_true_eq, decide_true, decide_false, Int32.add_zero, Nat.add_zero, ne_eq, Bool.false_eq_true, eq_self]))
    · refine lv_tableIn (off := 133) (tgt := 134) hx hb dX10_account_1 (by rw [sw1e]; decide) (by rw [sw1e]; decide) (by rw [sw1e]; rfl) (by decide) ?_
      subst sw1e
      have hj : (nI 8 : Int32) = nI 8 := rfl
      have hn0 : ¬ (nI 8 = nI 0) := by decide
      have hn1 : ¬ (nI 8 = nI 1) := by decide
      have hn2 : ¬ (nI 8 = nI 2) := by decide
      have hn3 : ¬ (nI 8 = nI 3) := by decide
      have hn4 : ¬ (nI 8 = nI 4) := by decide
      have hn5 : ¬ (nI 8 = nI 5) := by decide
      have hn6 : ¬ (nI 8 = nI 6) := by decide
      have hn7 : ¬ (nI 8 = nI 7) := by decide
      refine lv_aload_n hx hb dX10_account_134 rfl (lv_at hl 0 rfl) ?_
      refine va_get (ci := 9) (v := .ref (a 0)) hx hb hts h_X10 hown hK hP 38 rfl rfl 0 (by decide) f10 (fun _ h9 => h9) rfl dX10_account_135 ?_
      refine zVI [] [] (kX9_allWornOutAxles (a) (y) (KR a b rs (BW ct a d bz (IW ct i (xE g) iv (LW ct lb lz (YW ct sa sy (XO x a sa h b d i lb xv (HW ct h ha hz R))))))) (show y_cn y ≤ 4 from by omega)) hx hb hml hown hts (cwV 0 hts gX10_account_X9_allWornOutAxles rfl rfl rfl (by decide +kernel) ⟨(Nat.le_of_ble_eq_true rfl), (Nat.le_of_ble_eq_true rfl)⟩) hK hP hD hS hA (va_recv hK hP (ci := 8) (q0 := 0) rfl rfl) rfl hl.1 rfl (Nat.le_of_ble_eq_true rfl) dX10_account_138 ⟨(Nat.le_of_ble_eq_true rfl), (Nat.le_of_ble_eq_true rfl)⟩ (fun r_138 _ H locs hr_138 hP hD hS => ?_)
      subst hr_138
      have hP : va_P D vwCl (YW ct a y (KR a b rs (BW ct a d bz (IW ct i (xE g) iv (LW ct lb lz (YW ct sa sy (XO x a sa h b d i lb xv (HW ct h ha hz R)))))))) H := hP
      have hD : va_D A (YW ct a y (KR a b rs (BW ct a d bz (IW ct i (xE g) iv (LW ct lb lz (YW ct sa sy (XO x a sa h b d i lb xv (HW ct h ha hz R)))))))) := hD
      exact zIret () hx hb hr hlocks hK hP hD hS dX10_account_141 (show nI (t_awn y) = a_acc y (i_n iv) hz.2.1 (nI 8) from (by simp only [a_acc, ixI, hn0, hn1, hn2, hn3, hn4, hn5, hn6, hn7, p_in, p_worn, p_wi, p_creak, p_le0, p_lt1, p_rng, not_true_eq_false, not_false_eq_true, if_true, if_false, and_true, true_and, and_false, false_and, or_true, true_or, or_false, false_or, and_self, or_self, iff_true, true_iff, iff_false, false_iff, decide_eq_true_eq, decide_true, decide_false, Int32.add_zero, Nat.add_zero, ne_eq, Bool.false_eq_true, eq_self]))
    · refine lv_tableIn (off := 141) (tgt := 142) hx hb dX10_account_1 (by rw [sw1e]; decide) (by rw [sw1e]; decide) (by rw [sw1e]; rfl) (by decide) ?_
      subst sw1e
      have hj : (nI 9 : Int32) = nI 9 := rfl
      have hn0 : ¬ (nI 9 = nI 0) := by decide
      have hn1 : ¬ (nI 9 = nI 1) := by decide
      have hn2 : ¬ (nI 9 = nI 2) := by decide
      have hn3 : ¬ (nI 9 = nI 3) := by decide
      have hn4 : ¬ (nI 9 = nI 4) := by decide
      have hn5 : ¬ (nI 9 = nI 5) := by decide
      have hn6 : ¬ (nI 9 = nI 6) := by decide
      have hn7 : ¬ (nI 9 = nI 7) := by decide
      have hn8 : ¬ (nI 9 = nI 8) := by decide
      refine lv_aload_n hx hb dX10_account_142 rfl (lv_at hl 0 rfl) ?_
      refine va_get (ci := 9) (v := .ref (a 0)) hx hb hts h_X10 hown hK hP 38 rfl rfl 0 (by decide) f10 (fun _ h9 => h9) rfl dX10_account_143 ?_
      refine zVI [] [] (kX9_tripsSoFar (a) (y) (KR a b rs (BW ct a d bz (IW ct i (xE g) iv (LW ct lb lz (YW ct sa sy (XO x a sa h b d i lb xv (HW ct h ha hz R))))))) (show y_cn y ≤ 4 from by omega)) hx hb hml hown hts (cwV 0 hts gX10_account_X9_tripsSoFar rfl rfl rfl (by decide +kernel) ⟨(Nat.le_of_ble_eq_true rfl), (Nat.le_of_ble_eq_true rfl)⟩) hK hP hD hS hA (va_recv hK hP (ci := 8) (q0 := 0) rfl rfl) rfl hl.1 rfl (Nat.le_of_ble_eq_true rfl) dX10_account_146 ⟨(Nat.le_of_ble_eq_true rfl), (Nat.le_of_ble_eq_true rfl)⟩ (fun r_146 _ H locs hr_146 hP hD hS => ?_)
      subst hr_146
      have hP : va_P D vwCl (YW ct a y (KR a b rs (BW ct a d bz (IW ct i (xE g) iv (LW ct lb lz (YW ct sa sy (XO x a sa h b d i lb xv (HW ct h ha hz R)))))))) H := hP
      have hD : va_D A (YW ct a y (KR a b rs (BW ct a d bz (IW ct i (xE g) iv (LW ct lb lz (YW ct sa sy (XO x a sa h b d i lb xv (HW ct h ha hz R)))))))) := hD
      exact zIret () hx hb hr hlocks hK hP hD hS dX10_account_149 (show (t_ts y) = a_acc y (i_n iv) hz.2.1 (nI 9) from (by simp only [a_acc, ixI, hn0, hn1, hn2, hn3, hn4, hn5, hn6, hn7, hn8, p_in, p_worn, p_wi, p_creak, p_le0, p_lt1, p_rng, not_true_eq_false, not_false_eq_true, if_true, if_false, and_true, true_and, and_false, false_and, or_true, true_or, or_false, false_or, and_self, or_self, iff_true, true_iff, iff_false, false_iff, decide_eq_true_eq, decide_true, decide_false, Int32.add_zero, Nat.add_zero, ne_eq, Bool.false_eq_true, eq_self]))
    · refine lv_tableIn (off := 149) (tgt := 150) hx hb dX10_account_1 (by rw [sw1e]; decide) (by rw [sw1e]; decide) (by rw [sw1e]; rfl) (by decide) ?_
      subst sw1e
      have hj : (nI 10 : Int32) = nI 10 := rfl
      have hn0 : ¬ (nI 10 = nI 0) := by decide
      have hn1 : ¬ (nI 10 = nI 1) := by decide
      have hn2 : ¬ (nI 10 = nI 2) := by decide
      have hn3 : ¬ (nI 10 = nI 3) := by decide
      have hn4 : ¬ (nI 10 = nI 4) := by decide
      have hn5 : ¬ (nI 10 = nI 5) := by decide
      have hn6 : ¬ (nI 10 = nI 6) := by decide
      have hn7 : ¬ (nI 10 = nI 7) := by decide
      have hn8 : ¬ (nI 10 = nI 8) := by decide
      have hn9 : ¬ (nI 10 = nI 9) := by decide
      refine lv_aload_n hx hb dX10_account_150 rfl (lv_at hl 0 rfl) ?_
      refine va_get (ci := 9) (v := .ref (a 0)) hx hb hts h_X10 hown hK hP 38 rfl rfl 0 (by decide) f10 (fun _ h9 => h9) rfl dX10_account_151 ?_
      refine va_get (ci := 8) (v := .int (y_mm y)) hx hb hts h_X9 hown hK hP 0 rfl rfl 15 (by decide) f340 (fun _ h9 => h9) rfl dX10_account_154 ?_
      exact zIret () hx hb hr hlocks hK hP hD hS dX10_account_157 (show y_mm y = a_acc y (i_n iv) hz.2.1 (nI 10) from (by simp only [a_acc, ixI, hn0, hn1, hn2, hn3, hn4, hn5, hn6, hn7, hn8, hn9, p_in, p_worn, p_wi, p_creak, p_le0, p_lt1, p_rng, not_true_eq_false, not_false_eq_true, if_true, if_false, and_true, true_and, and_false, false_and, or_true, true_or, or_false, false_or, and_self, or_self, iff_true, true_iff, iff_false, false_iff, decide_eq_true_eq, decide_true, decide_false, Int32.add_zero, Nat.add_zero, ne_eq, Bool.false_eq_true, eq_self]))
    · refine lv_tableIn (off := 157) (tgt := 158) hx hb dX10_account_1 (by rw [sw1e]; decide) (by rw [sw1e]; decide) (by rw [sw1e]; rfl) (by decide) ?_
      subst sw1e
      have hj : (nI 11 : Int32) = nI 11 := rfl
      have hn0 : ¬ (nI 11 = nI 0) := by decide
      have hn1 : ¬ (nI 11 = nI 1) := by decide
      have hn2 : ¬ (nI 11 = nI 2) := by decide
      have hn3 : ¬ (nI 11 = nI 3) := by decide
      have hn4 : ¬ (nI 11 = nI 4) := by decide
      have hn5 : ¬ (nI 11 = nI 5) := by decide
      have hn6 : ¬ (nI 11 = nI 6) := by decide
      have hn7 : ¬ (nI 11 = nI 7) := by decide
      have hn8 : ¬ (nI 11 = nI 8) := by decide
      have hn9 : ¬ (nI 11 = nI 9) := by decide
      have hn10 : ¬ (nI 11 = nI 10) := by decide
      refine lv_aload_n hx hb dX10_account_158 rfl (lv_at hl 0 rfl) ?_
      refine va_get (ci := 9) (v := .ref (i 0)) hx hb hts h_X10 hown hK hP 38 rfl rfl 9 (by decide) f74 (fun _ h9 => h9) rfl dX10_account_159 ?_
      refine va_get (ci := 3) (v := .int (nI (i_n iv))) hx hb hts h_X4 hown hK hP 21 rfl rfl 1 (by decide) f343 (fun _ h9 => h9) rfl dX10_account_162 ?_
      exact zIret () hx hb hr hlocks hK hP hD hS dX10_account_165 (show nI (i_n iv) = a_acc y (i_n iv) hz.2.1 (nI 11) from (by simp only [a_acc, ixI, hn0, hn1, hn2, hn3, hn4, hn5, hn6, hn7, hn8, hn9, hn10, p_in, p_worn, p_wi, p_creak, p_le0, p_lt1, p_rng, not_true_eq_false, not_false_eq_true, if_true, if_false, and_true, true_and, and_false, false_and, or_true, true_or, or_false, false_or, and_self, or_self, iff_true, true_iff, iff_false, false_iff, decide_eq_true_eq, decide_true, decide_false, Int32.add_zero, Nat.add_zero, ne_eq, Bool.false_eq_true, eq_self]))
    · refine lv_tableIn (off := 165) (tgt := 166) hx hb dX10_account_1 (by rw [sw1e]; decide) (by rw [sw1e]; decide) (by rw [sw1e]; rfl) (by decide) ?_
      subst sw1e
      have hj : (nI 12 : Int32) = nI 12 := rfl
      have hn0 : ¬ (nI 12 = nI 0) := by decide
      have hn1 : ¬ (nI 12 = nI 1) := by decide
      have hn2 : ¬ (nI 12 = nI 2) := by decide
      have hn3 : ¬ (nI 12 = nI 3) := by decide
      have hn4 : ¬ (nI 12 = nI 4) := by decide
      have hn5 : ¬ (nI 12 = nI 5) := by decide
      have hn6 : ¬ (nI 12 = nI 6) := by decide
      have hn7 : ¬ (nI 12 = nI 7) := by decide
      have hn8 : ¬ (nI 12 = nI 8) := by decide
      have hn9 : ¬ (nI 12 = nI 9) := by decide
      have hn10 : ¬ (nI 12 = nI 10) := by decide
      have hn11 : ¬ (nI 12 = nI 11) := by decide
      refine lv_aload_n hx hb dX10_account_166 rfl (lv_at hl 0 rfl) ?_
      refine va_get (ci := 9) (v := .ref (h 0)) hx hb hts h_X10 hown hK hP 38 rfl rfl 3 (by decide) f26 (fun _ h9 => h9) rfl dX10_account_167 ?_
      refine va_get (ci := 2) (v := .int (nI (hz.2.1))) hx hb hts h_X3 hown hK hP 39 rfl rfl 2 (by decide) f345 (fun _ h9 => h9) rfl dX10_account_170 ?_
      exact zIret () hx hb hr hlocks hK hP hD hS dX10_account_173 (show nI (hz.2.1) = a_acc y (i_n iv) hz.2.1 (nI 12) from (by simp only [a_acc, ixI, hn0, hn1, hn2, hn3, hn4, hn5, hn6, hn7, hn8, hn9, hn10, hn11, p_in, p_worn, p_wi, p_creak, p_le0, p_lt1, p_rng, not_true_eq_false, not_false_eq_true, if_true, if_false, and_true, true_and, and_false, false_and, or_true, true_or, or_false, false_or, and_self, or_self, iff_true, true_iff, iff_false, false_iff, decide_eq_true_eq, decide_true, decide_false, Int32.add_zero, Nat.add_zero, ne_eq, Bool.false_eq_true, eq_self]))
abbrev rmX10_best : Room := { frames := 9, cells := 0, slots := 0, locals := 240 }
theorem in_X10_best_X10 : ∀ w ∈ u_ws RX10 TX10 12, w ∈ wsX10_best := by decide +kernel
set_option maxHeartbeats 4000000 in
set_option maxRecDepth 100000 in
theorem kX10_best {D : va_G} {g : XG} {ct : Nat → ClassId} {l : Launch} (a : Nat → Nat) (y : YS) (b : Nat → Nat) (rs : RS) (d : Nat → Nat) (bz : BS) (i : Nat → Nat) (iv : IS) (lb : Nat → Nat) (lz : LST) (sa : Nat → Nat) (sy : YS) (x : Nat → Nat) (xv : Int32 × Int32) (h : Nat → Nat) (ha : Nat → Nat → Nat) (hz : HS) (R : va_W) (x1 : Int32) (hy : yI y) (hf : yF y) : MX D ct g l yX10_best wsX10_best rmX10_best (YW ct a y (KR a b rs (BW ct a d bz (IW ct i (xE g) iv (LW ct lb lz (YW ct sa sy (XO x a sa h b d i lb xv (HW ct h ha hz R)))))))) [.ref (x 0), .int (x1)] (QI D ct (fun r0 (_ : Unit) => r0 = (F_bstC y bz x1).1) (fun _ : Unit => YW ct a y (KR a b rs (BW ct a d ((F_bstC y bz x1).2) (IW ct i (xE g) iv (LW ct lb lz (YW ct sa sy (XO x a sa h b d i lb xv (HW ct h ha hz R))))))))) := by
  refine MXof (cc := cX10_best) (maxL := 2) (ret := (some .int)) (by decide) rfl (Nat.le_of_ble_eq_true rfl) ?_
  intro p e s m args below meth c A H locs F hP hK hD hS hA hX ls hl
  obtain ⟨hx, hb, hr, hlocks, hml, hown, hts, hin⟩ := F
  have hl : lv_has ls 2 [(0, .ref (x 0)), (1, .int (x1))] := hl
  have hkd : ∀ j9, j9 < y_n y → y_kd y j9 = nI 0 ∨ y_kd y j9 = nI 1 := fun j9 hj9 => (hy.2.2.2.1 j9 hj9).1
  have hn : y_n y ≤ 12 := hy.1
  have hcn : y_cn y ≤ 4 := hy.2.1
  have hrn : y_rn y ≤ 5 := hy.2.2.1
  have h_X10 := in_X10_best_X10
  have f10 := hts (.fieldLink RX10 10 "CartArguments" "yard" "LCartArguments$Yard;") (by decide +kernel)
  have f58 := hts (.fieldLink RX10 58 "CartArguments" "balance" "LCartArguments$Balance;") (by decide +kernel)
  refine lv_aload_n hx hb dX10_best_0 rfl (lv_at hl 0 rfl) ?_
  refine va_get (ci := 9) (v := .ref (a 0)) hx hb hts h_X10 hown hK hP 38 rfl rfl 0 (by decide) f10 (fun _ h9 => h9) rfl dX10_best_1 ?_
  refine lv_iload_n hx hb dX10_best_4 rfl (lv_at hl 1 rfl) ?_
  refine zVI [.int (x1)] [] (kX9_isCart (a) (y) (KR a b rs (BW ct a d bz (IW ct i (xE g) iv (LW ct lb lz (YW ct sa sy (XO x a sa h b d i lb xv (HW ct h ha hz R))))))) (x1)) hx hb hml hown hts (cwV 1 hts gX10_best_X9_isCart rfl rfl rfl (by decide +kernel) ⟨(Nat.le_of_ble_eq_true rfl), (Nat.le_of_ble_eq_true rfl)⟩) hK hP hD hS hA (va_recv hK hP (ci := 8) (q0 := 0) rfl rfl) rfl hl.1 rfl (Nat.le_of_ble_eq_true rfl) dX10_best_5 ⟨(Nat.le_of_ble_eq_true rfl), (Nat.le_of_ble_eq_true rfl)⟩ (fun r_5 _ H locs hr_5 hP hD hS => ?_)
  subst hr_5
  have hP : va_P D vwCl (YW ct a y (KR a b rs (BW ct a d bz (IW ct i (xE g) iv (LW ct lb lz (YW ct sa sy (XO x a sa h b d i lb xv (HW ct h ha hz R)))))))) H := hP
  have hD : va_D A (YW ct a y (KR a b rs (BW ct a d bz (IW ct i (xE g) iv (LW ct lb lz (YW ct sa sy (XO x a sa h b d i lb xv (HW ct h ha hz R)))))))) := hD
  refine zB_if_eq (tgt := 22) hx hb dX10_best_8 (by decide) (fun c8_1 => ?_) (fun c8_1 => ?_)
  · skip
    refine lv_iconst (v := (-1)) hx hb dX10_best_22 (by decide) ?_
    have e8 : F_bstC y bz x1 = ((-1), bz) := (by simp only [F_bstC, c8_1, p_in, p_worn, p_wi, p_creak, p_le0, p_lt1, p_rng, not_true_eq_false, not_false_eq_true, if_true, if_false, and_true, true_and, and_false, false_and, or_true, true_or, or_false, false_or, and_self, or_self, iff_true, true_iff, iff_false, false_iff, decide_eq_true_eq, decide_true, decide_false, Int32.add_zero, Nat.add_zero, ne_eq, Bool.false_eq_true, eq_self])
    have hP : va_P D vwCl (YW ct a y (KR a b rs (BW ct a d ((F_bstC y bz x1).2) (IW ct i (xE g) iv (LW ct lb lz (YW ct sa sy (XO x a sa h b d i lb xv (HW ct h ha hz R)))))))) H := by rw [e8]; exact hP
    have hD : va_D A (YW ct a y (KR a b rs (BW ct a d ((F_bstC y bz x1).2) (IW ct i (xE g) iv (LW ct lb lz (YW ct sa sy (XO x a sa h b d i lb xv (HW ct h ha hz R)))))))) := by rw [e8]; exact hD
    exact zIret () hx hb hr hlocks hK hP hD hS dX10_best_23 (show (-1) = (F_bstC y bz x1).1 from (by rw [e8]))
  · skip
    refine lv_aload_n hx hb dX10_best_11 rfl (lv_at hl 0 rfl) ?_
    refine va_get (ci := 9) (v := .ref (d 0)) hx hb hts h_X10 hown hK hP 38 rfl rfl 7 (by decide) f58 (fun _ h9 => h9) rfl dX10_best_12 ?_
    refine lv_iload_n hx hb dX10_best_15 rfl (lv_at hl 1 rfl) ?_
    refine zVI [.int (x1)] [] (kX1_leastByWays (a) (y) (b) (rs) (d) (bz) (IW ct i (xE g) iv (LW ct lb lz (YW ct sa sy (XO x a sa h b d i lb xv (HW ct h ha hz R))))) (x1) (show y_n y ≤ 12 from by omega)) hx hb hml hown hts (cwV 1 hts gX10_best_X1_leastByWays rfl rfl rfl (by decide +kernel) ⟨(Nat.le_of_ble_eq_true rfl), (Nat.le_of_ble_eq_true rfl)⟩) hK hP hD hS hA (va_recv hK hP (ci := 1) (q0 := 16) rfl rfl) rfl hl.1 rfl (Nat.le_of_ble_eq_true rfl) dX10_best_16 ⟨(Nat.le_of_ble_eq_true rfl), (Nat.le_of_ble_eq_true rfl)⟩ (fun r_16 _ H locs hr_16 hP hD hS => ?_)
    subst hr_16
    have hP : va_P D vwCl (YW ct a y (KR a b rs (BW ct a d (gatB y (x1) bz) (IW ct i (xE g) iv (LW ct lb lz (YW ct sa sy (XO x a sa h b d i lb xv (HW ct h ha hz R)))))))) H := hP
    have hD : va_D A (YW ct a y (KR a b rs (BW ct a d (gatB y (x1) bz) (IW ct i (xE g) iv (LW ct lb lz (YW ct sa sy (XO x a sa h b d i lb xv (HW ct h ha hz R)))))))) := hD
    refine lv_goto (tgt := 23) hx hb dX10_best_19 (by decide) ?_
    have e8 : F_bstC y bz x1 = ((lsC (b_w (gatB y (x1) bz)) (b_n (gatB y (x1) bz)) 0 (nI 0) (nI 0)), (gatB y (x1) bz)) := (by simp only [F_bstC, c8_1, p_in, p_worn, p_wi, p_creak, p_le0, p_lt1, p_rng, not_true_eq_false, not_false_eq_true, if_true, if_false, and_true, true_and, and_false, false_and, or_true, true_or, or_false, false_or, and_self, or_self, iff_true, true_iff, iff_false, false_iff, decide_eq_true_eq, decide_true, decide_false, Int32.add_zero, Nat.add_zero, ne_eq, Bool.false_eq_true, eq_self])
    have hP : va_P D vwCl (YW ct a y (KR a b rs (BW ct a d ((F_bstC y bz x1).2) (IW ct i (xE g) iv (LW ct lb lz (YW ct sa sy (XO x a sa h b d i lb xv (HW ct h ha hz R)))))))) H := by rw [e8]; exact hP
    have hD : va_D A (YW ct a y (KR a b rs (BW ct a d ((F_bstC y bz x1).2) (IW ct i (xE g) iv (LW ct lb lz (YW ct sa sy (XO x a sa h b d i lb xv (HW ct h ha hz R)))))))) := by rw [e8]; exact hD
    exact zIret () hx hb hr hlocks hK hP hD hS dX10_best_23 (show (lsC (b_w (gatB y (x1) bz)) (b_n (gatB y (x1) bz)) 0 (nI 0) (nI 0)) = (F_bstC y bz x1).1 from (by rw [e8]))
abbrev rmX10_bestAgain : Room := { frames := 3, cells := 0, slots := 0, locals := 77 }
theorem in_X10_bestAgain_X10 : ∀ w ∈ u_ws RX10 TX10 12, w ∈ wsX10_bestAgain := by decide +kernel
set_option maxHeartbeats 4000000 in
set_option maxRecDepth 100000 in
theorem kX10_bestAgain {D : va_G} {g : XG} {ct : Nat → ClassId} {l : Launch} (a : Nat → Nat) (y : YS) (b : Nat → Nat) (rs : RS) (d : Nat → Nat) (bz : BS) (i : Nat → Nat) (iv : IS) (lb : Nat → Nat) (lz : LST) (sa : Nat → Nat) (sy : YS) (x : Nat → Nat) (xv : Int32 × Int32) (h : Nat → Nat) (ha : Nat → Nat → Nat) (hz : HS) (R : va_W) (x1 : Int32) (hy : yI y) (hf : yF y) (hw9 : p_in x1 (y_cn y) → wB (gatB y x1 bz)) : MX D ct g l yX10_bestAgain wsX10_bestAgain rmX10_bestAgain (YW ct a y (KR a b rs (BW ct a d bz (IW ct i (xE g) iv (LW ct lb lz (YW ct sa sy (XO x a sa h b d i lb xv (HW ct h ha hz R)))))))) [.ref (x 0), .int (x1)] (QI D ct (fun r0 (_ : Unit) => r0 = (F_bsgC y bz x1).1) (fun _ : Unit => YW ct a y (KR a b rs (BW ct a d ((F_bsgC y bz x1).2) (IW ct i (xE g) iv (LW ct lb lz (YW ct sa sy (XO x a sa h b d i lb xv (HW ct h ha hz R))))))))) := by
  refine MXof (cc := cX10_bestAgain) (maxL := 2) (ret := (some .int)) (by decide) rfl (Nat.le_of_ble_eq_true rfl) ?_
  intro p e s m args below meth c A H locs F hP hK hD hS hA hX ls hl
  obtain ⟨hx, hb, hr, hlocks, hml, hown, hts, hin⟩ := F
  have hl : lv_has ls 2 [(0, .ref (x 0)), (1, .int (x1))] := hl
  have hkd : ∀ j9, j9 < y_n y → y_kd y j9 = nI 0 ∨ y_kd y j9 = nI 1 := fun j9 hj9 => (hy.2.2.2.1 j9 hj9).1
  have hn : y_n y ≤ 12 := hy.1
  have hcn : y_cn y ≤ 4 := hy.2.1
  have hrn : y_rn y ≤ 5 := hy.2.2.1
  have h_X10 := in_X10_bestAgain_X10
  have f10 := hts (.fieldLink RX10 10 "CartArguments" "yard" "LCartArguments$Yard;") (by decide +kernel)
  have f58 := hts (.fieldLink RX10 58 "CartArguments" "balance" "LCartArguments$Balance;") (by decide +kernel)
  refine lv_aload_n hx hb dX10_bestAgain_0 rfl (lv_at hl 0 rfl) ?_
  refine va_get (ci := 9) (v := .ref (a 0)) hx hb hts h_X10 hown hK hP 38 rfl rfl 0 (by decide) f10 (fun _ h9 => h9) rfl dX10_bestAgain_1 ?_
  refine lv_iload_n hx hb dX10_bestAgain_4 rfl (lv_at hl 1 rfl) ?_
  refine zVI [.int (x1)] [] (kX9_isCart (a) (y) (KR a b rs (BW ct a d bz (IW ct i (xE g) iv (LW ct lb lz (YW ct sa sy (XO x a sa h b d i lb xv (HW ct h ha hz R))))))) (x1)) hx hb hml hown hts (cwV 1 hts gX10_bestAgain_X9_isCart rfl rfl rfl (by decide +kernel) ⟨(Nat.le_of_ble_eq_true rfl), (Nat.le_of_ble_eq_true rfl)⟩) hK hP hD hS hA (va_recv hK hP (ci := 8) (q0 := 0) rfl rfl) rfl hl.1 rfl (Nat.le_of_ble_eq_true rfl) dX10_bestAgain_5 ⟨(Nat.le_of_ble_eq_true rfl), (Nat.le_of_ble_eq_true rfl)⟩ (fun r_5 _ H locs hr_5 hP hD hS => ?_)
  subst hr_5
  have hP : va_P D vwCl (YW ct a y (KR a b rs (BW ct a d bz (IW ct i (xE g) iv (LW ct lb lz (YW ct sa sy (XO x a sa h b d i lb xv (HW ct h ha hz R)))))))) H := hP
  have hD : va_D A (YW ct a y (KR a b rs (BW ct a d bz (IW ct i (xE g) iv (LW ct lb lz (YW ct sa sy (XO x a sa h b d i lb xv (HW ct h ha hz R)))))))) := hD
  refine zB_if_eq (tgt := 22) hx hb dX10_bestAgain_8 (by decide) (fun c8_1 => ?_) (fun c8_1 => ?_)
  · skip
    refine lv_iconst (v := (-1)) hx hb dX10_bestAgain_22 (by decide) ?_
    have e8 : F_bsgC y bz x1 = ((-1), bz) := (by simp only [F_bsgC, c8_1, p_in, p_worn, p_wi, p_creak, p_le0, p_lt1, p_rng, not_true_eq_false, not_false_eq_true, if_true, if_false, and_true, true_and, and_false, false_and, or_true, true_or, or_false, false_or, and_self, or_self, iff_true, true_iff, iff_false, false_iff, decide_eq_true_eq, decide_true, decide_false, Int32.add_zero, Nat.add_zero, ne_eq, Bool.false_eq_true, eq_self])
    have hP : va_P D vwCl (YW ct a y (KR a b rs (BW ct a d ((F_bsgC y bz x1).2) (IW ct i (xE g) iv (LW ct lb lz (YW ct sa sy (XO x a sa h b d i lb xv (HW ct h ha hz R)))))))) H := by rw [e8]; exact hP
    have hD : va_D A (YW ct a y (KR a b rs (BW ct a d ((F_bsgC y bz x1).2) (IW ct i (xE g) iv (LW ct lb lz (YW ct sa sy (XO x a sa h b d i lb xv (HW ct h ha hz R)))))))) := by rw [e8]; exact hD
    exact zIret () hx hb hr hlocks hK hP hD hS dX10_bestAgain_23 (show (-1) = (F_bsgC y bz x1).1 from (by rw [e8]))
  · skip
    refine lv_aload_n hx hb dX10_bestAgain_11 rfl (lv_at hl 0 rfl) ?_
    refine va_get (ci := 9) (v := .ref (d 0)) hx hb hts h_X10 hown hK hP 38 rfl rfl 7 (by decide) f58 (fun _ h9 => h9) rfl dX10_bestAgain_12 ?_
    refine lv_iload_n hx hb dX10_bestAgain_15 rfl (lv_at hl 1 rfl) ?_
    refine zVI [.int (x1)] [] (kX1_leastBySets (a) (y) (b) (rs) (d) (bz) (IW ct i (xE g) iv (LW ct lb lz (YW ct sa sy (XO x a sa h b d i lb xv (HW ct h ha hz R))))) (x1) (show y_n y ≤ 12 from by omega) (show wB (gatB y (x1) bz) from hw9 c8_1)) hx hb hml hown hts (cwV 1 hts gX10_bestAgain_X1_leastBySets rfl rfl rfl (by decide +kernel) ⟨(Nat.le_of_ble_eq_true rfl), (Nat.le_of_ble_eq_true rfl)⟩) hK hP hD hS hA (va_recv hK hP (ci := 1) (q0 := 16) rfl rfl) rfl hl.1 rfl (Nat.le_of_ble_eq_true rfl) dX10_bestAgain_16 ⟨(Nat.le_of_ble_eq_true rfl), (Nat.le_of_ble_eq_true rfl)⟩ (fun r_16 _ H locs hr_16 hP hD hS => ?_)
    subst hr_16
    have hP : va_P D vwCl (YW ct a y (KR a b rs (BW ct a d (setB (gatB y (x1) bz)) (IW ct i (xE g) iv (LW ct lb lz (YW ct sa sy (XO x a sa h b d i lb xv (HW ct h ha hz R)))))))) H := hP
    have hD : va_D A (YW ct a y (KR a b rs (BW ct a d (setB (gatB y (x1) bz)) (IW ct i (xE g) iv (LW ct lb lz (YW ct sa sy (XO x a sa h b d i lb xv (HW ct h ha hz R)))))))) := hD
    refine lv_goto (tgt := 23) hx hb dX10_bestAgain_19 (by decide) ?_
    have e8 : F_bsgC y bz x1 = ((losB (setB (gatB y (x1) bz)) (2 ^ b_n (gatB y (x1) bz) - 1)), (setB (gatB y (x1) bz))) := (by simp only [F_bsgC, c8_1, p_in, p_worn, p_wi, p_creak, p_le0, p_lt1, p_rng, not_true_eq_false, not_false_eq_true, if_true, if_false, and_true, true_and, and_false, false_and, or_true, true_or, or_false, false_or, and_self, or_self, iff_true, true_iff, iff_false, false_iff, decide_eq_true_eq, decide_true, decide_false, Int32.add_zero, Nat.add_zero, ne_eq, Bool.false_eq_true, eq_self])
    have hP : va_P D vwCl (YW ct a y (KR a b rs (BW ct a d ((F_bsgC y bz x1).2) (IW ct i (xE g) iv (LW ct lb lz (YW ct sa sy (XO x a sa h b d i lb xv (HW ct h ha hz R)))))))) H := by rw [e8]; exact hP
    have hD : va_D A (YW ct a y (KR a b rs (BW ct a d ((F_bsgC y bz x1).2) (IW ct i (xE g) iv (LW ct lb lz (YW ct sa sy (XO x a sa h b d i lb xv (HW ct h ha hz R)))))))) := by rw [e8]; exact hD
    exact zIret () hx hb hr hlocks hK hP hD hS dX10_bestAgain_23 (show (losB (setB (gatB y (x1) bz)) (2 ^ b_n (gatB y (x1) bz) - 1)) = (F_bsgC y bz x1).1 from (by rw [e8]))
abbrev rmX10_premise : Room := { frames := 3, cells := 0, slots := 0, locals := 82 }
theorem in_X10_premise_X10 : ∀ w ∈ u_ws RX10 TX10 12, w ∈ wsX10_premise := by decide +kernel
set_option maxHeartbeats 4000000 in
set_option maxRecDepth 100000 in
theorem kX10_premise {D : va_G} {g : XG} {ct : Nat → ClassId} {l : Launch} (a : Nat → Nat) (y : YS) (b : Nat → Nat) (rs : RS) (d : Nat → Nat) (bz : BS) (i : Nat → Nat) (iv : IS) (lb : Nat → Nat) (lz : LST) (sa : Nat → Nat) (sy : YS) (x : Nat → Nat) (xv : Int32 × Int32) (h : Nat → Nat) (ha : Nat → Nat → Nat) (hz : HS) (R : va_W) (x1 : Int32) (hy : yI y) (hf : yF y) (hn8 : hz.1 ≤ 8) (hc8 : hz.2.1 ≤ 8) : MX D ct g l yX10_premise wsX10_premise rmX10_premise (YW ct a y (KR a b rs (BW ct a d bz (IW ct i (xE g) iv (LW ct lb lz (YW ct sa sy (XO x a sa h b d i lb xv (HW ct h ha hz R)))))))) [.ref (x 0), .int (x1)] (QI D ct (fun r0 (_ : Unit) => r0 = (F_set (hz.1, hz.2.1, (upS hz.2.2 (hz.1) y)) ((f_addT y rs (nI (0)) x1 (nI (9))).1)).1) (fun _ : Unit => YW ct a ((f_addT y rs (nI (0)) x1 (nI (9))).2.1) (KR a b ((f_addT y rs (nI (0)) x1 (nI (9))).2.2) (BW ct a d bz (IW ct i (xE g) iv (LW ct lb lz (YW ct sa sy (XO x a sa h b d i lb xv (HW ct h ha ((F_set (hz.1, hz.2.1, (upS hz.2.2 (hz.1) y)) ((f_addT y rs (nI (0)) x1 (nI (9))).1)).2) R))))))))) := by
  refine MXof (cc := cX10_premise) (maxL := 2) (ret := (some .int)) (by decide) rfl (Nat.le_of_ble_eq_true rfl) ?_
  intro p e s m args below meth c A H locs F hP hK hD hS hA hX ls hl
  obtain ⟨hx, hb, hr, hlocks, hml, hown, hts, hin⟩ := F
  have hl : lv_has ls 2 [(0, .ref (x 0)), (1, .int (x1))] := hl
  have hkd : ∀ j9, j9 < y_n y → y_kd y j9 = nI 0 ∨ y_kd y j9 = nI 1 := fun j9 hj9 => (hy.2.2.2.1 j9 hj9).1
  have hn : y_n y ≤ 12 := hy.1
  have hcn : y_cn y ≤ 4 := hy.2.1
  have hrn : y_rn y ≤ 5 := hy.2.2.1
  have h_X10 := in_X10_premise_X10
  have f10 := hts (.fieldLink RX10 10 "CartArguments" "yard" "LCartArguments$Yard;") (by decide +kernel)
  have f26 := hts (.fieldLink RX10 26 "CartArguments" "history" "LCartArguments$History;") (by decide +kernel)
  have f51 := hts (.fieldLink RX10 51 "CartArguments" "works" "LCartArguments$Works;") (by decide +kernel)
  refine lv_aload_n hx hb dX10_premise_0 rfl (lv_at hl 0 rfl) ?_
  refine va_get (ci := 9) (v := .ref (h 0)) hx hb hts h_X10 hown hK hP 38 rfl rfl 3 (by decide) f26 (fun _ h9 => h9) rfl dX10_premise_1 ?_
  refine lv_aload_n hx hb dX10_premise_4 rfl (lv_at hl 0 rfl) ?_
  refine va_get (ci := 9) (v := .ref (a 0)) hx hb hts h_X10 hown hK hP 38 rfl rfl 0 (by decide) f10 (fun _ h9 => h9) rfl dX10_premise_5 ?_
  have hP : va_P D vwCl (YW ct a y (HW ct h ha hz (KR a b rs (BW ct a d bz (IW ct i (xE g) iv (LW ct lb lz (YW ct sa sy (XO x a sa h b d i lb xv R)))))))) H := zPp ((zF7 (YW ct a y []) (KR a b rs []) (BW ct a d bz []) (IW ct i (xE g) iv []) (LW ct lb lz []) (YW ct sa sy []) (XO x a sa h b d i lb xv []) (HWl ct h ha hz) (R)).trans (zMv1 (HWl ct h ha hz) (YW ct a y []) (KR a b rs (BW ct a d bz (IW ct i (xE g) iv (LW ct lb lz (YW ct sa sy (XO x a sa h b d i lb xv R)))))))) hP
  have hD : va_D A (YW ct a y (HW ct h ha hz (KR a b rs (BW ct a d bz (IW ct i (xE g) iv (LW ct lb lz (YW ct sa sy (XO x a sa h b d i lb xv R)))))))) := zDp ((zF7 (YW ct a y []) (KR a b rs []) (BW ct a d bz []) (IW ct i (xE g) iv []) (LW ct lb lz []) (YW ct sa sy []) (XO x a sa h b d i lb xv []) (HWl ct h ha hz) (R)).trans (zMv1 (HWl ct h ha hz) (YW ct a y []) (KR a b rs (BW ct a d bz (IW ct i (xE g) iv (LW ct lb lz (YW ct sa sy (XO x a sa h b d i lb xv R)))))))) hD
  refine zVV [.ref (a 0)] [] (kX3_begin (a) (y) (h) (ha) (hz) (KR a b rs (BW ct a d bz (IW ct i (xE g) iv (LW ct lb lz (YW ct sa sy (XO x a sa h b d i lb xv R)))))) (show hz.1 ≤ 8 from hn8)) hx hb hml hown hts (cwV 1 hts gX10_premise_X3_begin rfl rfl rfl (by decide +kernel) ⟨(Nat.le_of_ble_eq_true rfl), (Nat.le_of_ble_eq_true rfl)⟩) hK hP hD hS hA (va_recv hK hP (ci := 2) (q0 := 12) rfl rfl) rfl hl.1 rfl (Nat.le_of_ble_eq_true rfl) dX10_premise_8 ⟨(Nat.le_of_ble_eq_true rfl), (Nat.le_of_ble_eq_true rfl)⟩ (fun _ H locs hr_8 hP hD hS => ?_)
  have hP : va_P D vwCl (YW ct a y (HW ct h ha (hz.1, hz.2.1, (upS hz.2.2 hz.1 y)) (KR a b rs (BW ct a d bz (IW ct i (xE g) iv (LW ct lb lz (YW ct sa sy (XO x a sa h b d i lb xv R)))))))) H := hP
  have hD : va_D A (YW ct a y (HW ct h ha (hz.1, hz.2.1, (upS hz.2.2 hz.1 y)) (KR a b rs (BW ct a d bz (IW ct i (xE g) iv (LW ct lb lz (YW ct sa sy (XO x a sa h b d i lb xv R)))))))) := hD
  have hP : va_P D vwCl (YW ct a y (KR a b rs (BW ct a d bz (IW ct i (xE g) iv (LW ct lb lz (YW ct sa sy (XO x a sa h b d i lb xv (HW ct h ha (hz.1, hz.2.1, (upS hz.2.2 hz.1 y)) R)))))))) H := zPp ((zF7 (YW ct a y []) (KR a b rs []) (BW ct a d bz []) (IW ct i (xE g) iv []) (LW ct lb lz []) (YW ct sa sy []) (XO x a sa h b d i lb xv []) (HWl ct h ha (hz.1, hz.2.1, (upS hz.2.2 hz.1 y))) (R)).trans (zMv1 (HWl ct h ha (hz.1, hz.2.1, (upS hz.2.2 hz.1 y))) (YW ct a y []) (KR a b rs (BW ct a d bz (IW ct i (xE g) iv (LW ct lb lz (YW ct sa sy (XO x a sa h b d i lb xv R)))))))).symm hP
  have hD : va_D A (YW ct a y (KR a b rs (BW ct a d bz (IW ct i (xE g) iv (LW ct lb lz (YW ct sa sy (XO x a sa h b d i lb xv (HW ct h ha (hz.1, hz.2.1, (upS hz.2.2 hz.1 y)) R)))))))) := zDp ((zF7 (YW ct a y []) (KR a b rs []) (BW ct a d bz []) (IW ct i (xE g) iv []) (LW ct lb lz []) (YW ct sa sy []) (XO x a sa h b d i lb xv []) (HWl ct h ha (hz.1, hz.2.1, (upS hz.2.2 hz.1 y))) (R)).trans (zMv1 (HWl ct h ha (hz.1, hz.2.1, (upS hz.2.2 hz.1 y))) (YW ct a y []) (KR a b rs (BW ct a d bz (IW ct i (xE g) iv (LW ct lb lz (YW ct sa sy (XO x a sa h b d i lb xv R)))))))).symm hD
  refine lv_aload_n hx hb dX10_premise_11 rfl (lv_at hl 0 rfl) ?_
  refine va_get (ci := 9) (v := .ref (h 0)) hx hb hts h_X10 hown hK hP 38 rfl rfl 3 (by decide) f26 (fun _ h9 => h9) rfl dX10_premise_12 ?_
  refine lv_aload_n hx hb dX10_premise_15 rfl (lv_at hl 0 rfl) ?_
  refine va_get (ci := 9) (v := .ref (b 2)) hx hb hts h_X10 hown hK hP 38 rfl rfl 6 (by decide) f51 (fun _ h9 => h9) rfl dX10_premise_16 ?_
  refine lv_iconst (v := nI (0)) hx hb dX10_premise_19 (by decide) ?_
  refine lv_iload_n hx hb dX10_premise_20 rfl (lv_at hl 1 rfl) ?_
  refine lv_bipush (v := nI (9)) hx hb dX10_premise_21 (by decide) ?_
  refine zVI [.int (nI (0)), .int (x1), .int (nI (9))] [.ref (h 0)] (kX8_addThing (a) (y) (b) (rs) (BW ct a d bz (IW ct i (xE g) iv (LW ct lb lz (YW ct sa sy (XO x a sa h b d i lb xv (HW ct h ha (hz.1, hz.2.1, (upS hz.2.2 hz.1 y)) R)))))) (nI (0)) (x1) (nI (9)) (show y_n y ≤ 12 from by omega)) hx hb hml hown hts (cwV 3 hts gX10_premise_X8_addThing rfl rfl rfl (by decide +kernel) ⟨(Nat.le_of_ble_eq_true rfl), (Nat.le_of_ble_eq_true rfl)⟩) hK hP hD hS hA (va_recv hK hP (ci := 7) (q0 := 14) rfl rfl) rfl hl.1 rfl (Nat.le_of_ble_eq_true rfl) dX10_premise_23 ⟨(Nat.le_of_ble_eq_true rfl), (Nat.le_of_ble_eq_true rfl)⟩ (fun r_23 _ H locs hr_23 hP hD hS => ?_)
  subst hr_23
  have hP : va_P D vwCl (YW ct a (f_addT y rs (nI (0)) (x1) (nI (9))).2.1 (KR a b (f_addT y rs (nI (0)) (x1) (nI (9))).2.2 (BW ct a d bz (IW ct i (xE g) iv (LW ct lb lz (YW ct sa sy (XO x a sa h b d i lb xv (HW ct h ha (hz.1, hz.2.1, (upS hz.2.2 hz.1 y)) R)))))))) H := hP
  have hD : va_D A (YW ct a (f_addT y rs (nI (0)) (x1) (nI (9))).2.1 (KR a b (f_addT y rs (nI (0)) (x1) (nI (9))).2.2 (BW ct a d bz (IW ct i (xE g) iv (LW ct lb lz (YW ct sa sy (XO x a sa h b d i lb xv (HW ct h ha (hz.1, hz.2.1, (upS hz.2.2 hz.1 y)) R)))))))) := hD
  have hP : va_P D vwCl (HW ct h ha (hz.1, hz.2.1, (upS hz.2.2 hz.1 y)) (YW ct a (f_addT y rs (nI (0)) (x1) (nI (9))).2.1 (KR a b (f_addT y rs (nI (0)) (x1) (nI (9))).2.2 (BW ct a d bz (IW ct i (xE g) iv (LW ct lb lz (YW ct sa sy (XO x a sa h b d i lb xv R)))))))) H := zPp (zF7 (YW ct a (f_addT y rs (nI (0)) (x1) (nI (9))).2.1 []) (KR a b (f_addT y rs (nI (0)) (x1) (nI (9))).2.2 []) (BW ct a d bz []) (IW ct i (xE g) iv []) (LW ct lb lz []) (YW ct sa sy []) (XO x a sa h b d i lb xv []) (HWl ct h ha (hz.1, hz.2.1, (upS hz.2.2 hz.1 y))) (R)) hP
  have hD : va_D A (HW ct h ha (hz.1, hz.2.1, (upS hz.2.2 hz.1 y)) (YW ct a (f_addT y rs (nI (0)) (x1) (nI (9))).2.1 (KR a b (f_addT y rs (nI (0)) (x1) (nI (9))).2.2 (BW ct a d bz (IW ct i (xE g) iv (LW ct lb lz (YW ct sa sy (XO x a sa h b d i lb xv R)))))))) := zDp (zF7 (YW ct a (f_addT y rs (nI (0)) (x1) (nI (9))).2.1 []) (KR a b (f_addT y rs (nI (0)) (x1) (nI (9))).2.2 []) (BW ct a d bz []) (IW ct i (xE g) iv []) (LW ct lb lz []) (YW ct sa sy []) (XO x a sa h b d i lb xv []) (HWl ct h ha (hz.1, hz.2.1, (upS hz.2.2 hz.1 y))) (R)) hD
  refine zVI [.int (((f_addT y rs (nI (0)) (x1) (nI (9))).1))] [] (kX3_settle (h) (ha) ((hz.1, hz.2.1, (upS hz.2.2 hz.1 y))) (YW ct a (f_addT y rs (nI (0)) (x1) (nI (9))).2.1 (KR a b (f_addT y rs (nI (0)) (x1) (nI (9))).2.2 (BW ct a d bz (IW ct i (xE g) iv (LW ct lb lz (YW ct sa sy (XO x a sa h b d i lb xv R))))))) (((f_addT y rs (nI (0)) (x1) (nI (9))).1)) (show hz.1 ≤ 8 from hn8) (show hz.2.1 ≤ 8 from hc8)) hx hb hml hown hts (cwV 1 hts gX10_premise_X3_settle rfl rfl rfl (by decide +kernel) ⟨(Nat.le_of_ble_eq_true rfl), (Nat.le_of_ble_eq_true rfl)⟩) hK hP hD hS hA (va_recv hK hP (ci := 2) (q0 := 0) rfl rfl) rfl hl.1 rfl (Nat.le_of_ble_eq_true rfl) dX10_premise_26 ⟨(Nat.le_of_ble_eq_true rfl), (Nat.le_of_ble_eq_true rfl)⟩ (fun r_26 _ H locs hr_26 hP hD hS => ?_)
  subst hr_26
  have hP : va_P D vwCl (HW ct h ha ((F_set (hz.1, hz.2.1, (upS hz.2.2 hz.1 y)) (((f_addT y rs (nI (0)) (x1) (nI (9))).1))).2) (YW ct a (f_addT y rs (nI (0)) (x1) (nI (9))).2.1 (KR a b (f_addT y rs (nI (0)) (x1) (nI (9))).2.2 (BW ct a d bz (IW ct i (xE g) iv (LW ct lb lz (YW ct sa sy (XO x a sa h b d i lb xv R)))))))) H := hP
  have hD : va_D A (HW ct h ha ((F_set (hz.1, hz.2.1, (upS hz.2.2 hz.1 y)) (((f_addT y rs (nI (0)) (x1) (nI (9))).1))).2) (YW ct a (f_addT y rs (nI (0)) (x1) (nI (9))).2.1 (KR a b (f_addT y rs (nI (0)) (x1) (nI (9))).2.2 (BW ct a d bz (IW ct i (xE g) iv (LW ct lb lz (YW ct sa sy (XO x a sa h b d i lb xv R)))))))) := hD
  have hP : va_P D vwCl (YW ct a (f_addT y rs (nI (0)) (x1) (nI (9))).2.1 (KR a b (f_addT y rs (nI (0)) (x1) (nI (9))).2.2 (BW ct a d bz (IW ct i (xE g) iv (LW ct lb lz (YW ct sa sy (XO x a sa h b d i lb xv (HW ct h ha ((F_set (hz.1, hz.2.1, (upS hz.2.2 hz.1 y)) (((f_addT y rs (nI (0)) (x1) (nI (9))).1))).2) R)))))))) H := zPp (zF7 (YW ct a (f_addT y rs (nI (0)) (x1) (nI (9))).2.1 []) (KR a b (f_addT y rs (nI (0)) (x1) (nI (9))).2.2 []) (BW ct a d bz []) (IW ct i (xE g) iv []) (LW ct lb lz []) (YW ct sa sy []) (XO x a sa h b d i lb xv []) (HWl ct h ha ((F_set (hz.1, hz.2.1, (upS hz.2.2 hz.1 y)) (((f_addT y rs (nI (0)) (x1) (nI (9))).1))).2)) (R)).symm hP
  have hD : va_D A (YW ct a (f_addT y rs (nI (0)) (x1) (nI (9))).2.1 (KR a b (f_addT y rs (nI (0)) (x1) (nI (9))).2.2 (BW ct a d bz (IW ct i (xE g) iv (LW ct lb lz (YW ct sa sy (XO x a sa h b d i lb xv (HW ct h ha ((F_set (hz.1, hz.2.1, (upS hz.2.2 hz.1 y)) (((f_addT y rs (nI (0)) (x1) (nI (9))).1))).2) R)))))))) := zDp (zF7 (YW ct a (f_addT y rs (nI (0)) (x1) (nI (9))).2.1 []) (KR a b (f_addT y rs (nI (0)) (x1) (nI (9))).2.2 []) (BW ct a d bz []) (IW ct i (xE g) iv []) (LW ct lb lz []) (YW ct sa sy []) (XO x a sa h b d i lb xv []) (HWl ct h ha ((F_set (hz.1, hz.2.1, (upS hz.2.2 hz.1 y)) (((f_addT y rs (nI (0)) (x1) (nI (9))).1))).2)) (R)).symm hD
  exact zIret () hx hb hr hlocks hK hP hD hS dX10_premise_29 (show ((F_set (hz.1, hz.2.1, (upS hz.2.2 hz.1 y)) (((f_addT y rs (nI (0)) (x1) (nI (9))).1))).1) = (F_set (hz.1, hz.2.1, (upS hz.2.2 (hz.1) y)) ((f_addT y rs (nI (0)) x1 (nI (9))).1)).1 from rfl)
abbrev rmX10_conclusion : Room := { frames := 3, cells := 0, slots := 0, locals := 82 }
theorem in_X10_conclusion_X10 : ∀ w ∈ u_ws RX10 TX10 12, w ∈ wsX10_conclusion := by decide +kernel
set_option maxHeartbeats 4000000 in
set_option maxRecDepth 100000 in
theorem kX10_conclusion {D : va_G} {g : XG} {ct : Nat → ClassId} {l : Launch} (a : Nat → Nat) (y : YS) (b : Nat → Nat) (rs : RS) (d : Nat → Nat) (bz : BS) (i : Nat → Nat) (iv : IS) (lb : Nat → Nat) (lz : LST) (sa : Nat → Nat) (sy : YS) (x : Nat → Nat) (xv : Int32 × Int32) (h : Nat → Nat) (ha : Nat → Nat → Nat) (hz : HS) (R : va_W) (x1 : Int32) (hy : yI y) (hf : yF y) (hn8 : hz.1 ≤ 8) (hc8 : hz.2.1 ≤ 8) : MX D ct g l yX10_conclusion wsX10_conclusion rmX10_conclusion (YW ct a y (KR a b rs (BW ct a d bz (IW ct i (xE g) iv (LW ct lb lz (YW ct sa sy (XO x a sa h b d i lb xv (HW ct h ha hz R)))))))) [.ref (x 0), .int (x1)] (QI D ct (fun r0 (_ : Unit) => r0 = (F_set (hz.1, hz.2.1, (upS hz.2.2 (hz.1) y)) ((f_addT y rs (nI (1)) x1 (nI (54))).1)).1) (fun _ : Unit => YW ct a ((f_addT y rs (nI (1)) x1 (nI (54))).2.1) (KR a b ((f_addT y rs (nI (1)) x1 (nI (54))).2.2) (BW ct a d bz (IW ct i (xE g) iv (LW ct lb lz (YW ct sa sy (XO x a sa h b d i lb xv (HW ct h ha ((F_set (hz.1, hz.2.1, (upS hz.2.2 (hz.1) y)) ((f_addT y rs (nI (1)) x1 (nI (54))).1)).2) R))))))))) := by
  refine MXof (cc := cX10_conclusion) (maxL := 2) (ret := (some .int)) (by decide) rfl (Nat.le_of_ble_eq_true rfl) ?_
  intro p e s m args below meth c A H locs F hP hK hD hS hA hX ls hl
  obtain ⟨hx, hb, hr, hlocks, hml, hown, hts, hin⟩ := F
  have hl : lv_has ls 2 [(0, .ref (x 0)), (1, .int (x1))] := hl
  have hkd : ∀ j9, j9 < y_n y → y_kd y j9 = nI 0 ∨ y_kd y j9 = nI 1 := fun j9 hj9 => (hy.2.2.2.1 j9 hj9).1
  have hn : y_n y ≤ 12 := hy.1
  have hcn : y_cn y ≤ 4 := hy.2.1
  have hrn : y_rn y ≤ 5 := hy.2.2.1
  have h_X10 := in_X10_conclusion_X10
  have f10 := hts (.fieldLink RX10 10 "CartArguments" "yard" "LCartArguments$Yard;") (by decide +kernel)
  have f26 := hts (.fieldLink RX10 26 "CartArguments" "history" "LCartArguments$History;") (by decide +kernel)
  have f51 := hts (.fieldLink RX10 51 "CartArguments" "works" "LCartArguments$Works;") (by decide +kernel)
  refine lv_aload_n hx hb dX10_conclusion_0 rfl (lv_at hl 0 rfl) ?_
  refine va_get (ci := 9) (v := .ref (h 0)) hx hb hts h_X10 hown hK hP 38 rfl rfl 3 (by decide) f26 (fun _ h9 => h9) rfl dX10_conclusion_1 ?_
  refine lv_aload_n hx hb dX10_conclusion_4 rfl (lv_at hl 0 rfl) ?_
  refine va_get (ci := 9) (v := .ref (a 0)) hx hb hts h_X10 hown hK hP 38 rfl rfl 0 (by decide) f10 (fun _ h9 => h9) rfl dX10_conclusion_5 ?_
  have hP : va_P D vwCl (YW ct a y (HW ct h ha hz (KR a b rs (BW ct a d bz (IW ct i (xE g) iv (LW ct lb lz (YW ct sa sy (XO x a sa h b d i lb xv R)))))))) H := zPp ((zF7 (YW ct a y []) (KR a b rs []) (BW ct a d bz []) (IW ct i (xE g) iv []) (LW ct lb lz []) (YW ct sa sy []) (XO x a sa h b d i lb xv []) (HWl ct h ha hz) (R)).trans (zMv1 (HWl ct h ha hz) (YW ct a y []) (KR a b rs (BW ct a d bz (IW ct i (xE g) iv (LW ct lb lz (YW ct sa sy (XO x a sa h b d i lb xv R)))))))) hP
  have hD : va_D A (YW ct a y (HW ct h ha hz (KR a b rs (BW ct a d bz (IW ct i (xE g) iv (LW ct lb lz (YW ct sa sy (XO x a sa h b d i lb xv R)))))))) := zDp ((zF7 (YW ct a y []) (KR a b rs []) (BW ct a d bz []) (IW ct i (xE g) iv []) (LW ct lb lz []) (YW ct sa sy []) (XO x a sa h b d i lb xv []) (HWl ct h ha hz) (R)).trans (zMv1 (HWl ct h ha hz) (YW ct a y []) (KR a b rs (BW ct a d bz (IW ct i (xE g) iv (LW ct lb lz (YW ct sa sy (XO x a sa h b d i lb xv R)))))))) hD
  refine zVV [.ref (a 0)] [] (kX3_begin (a) (y) (h) (ha) (hz) (KR a b rs (BW ct a d bz (IW ct i (xE g) iv (LW ct lb lz (YW ct sa sy (XO x a sa h b d i lb xv R)))))) (show hz.1 ≤ 8 from hn8)) hx hb hml hown hts (cwV 1 hts gX10_conclusion_X3_begin rfl rfl rfl (by decide +kernel) ⟨(Nat.le_of_ble_eq_true rfl), (Nat.le_of_ble_eq_true rfl)⟩) hK hP hD hS hA (va_recv hK hP (ci := 2) (q0 := 12) rfl rfl) rfl hl.1 rfl (Nat.le_of_ble_eq_true rfl) dX10_conclusion_8 ⟨(Nat.le_of_ble_eq_true rfl), (Nat.le_of_ble_eq_true rfl)⟩ (fun _ H locs hr_8 hP hD hS => ?_)
  have hP : va_P D vwCl (YW ct a y (HW ct h ha (hz.1, hz.2.1, (upS hz.2.2 hz.1 y)) (KR a b rs (BW ct a d bz (IW ct i (xE g) iv (LW ct lb lz (YW ct sa sy (XO x a sa h b d i lb xv R)))))))) H := hP
  have hD : va_D A (YW ct a y (HW ct h ha (hz.1, hz.2.1, (upS hz.2.2 hz.1 y)) (KR a b rs (BW ct a d bz (IW ct i (xE g) iv (LW ct lb lz (YW ct sa sy (XO x a sa h b d i lb xv R)))))))) := hD
  have hP : va_P D vwCl (YW ct a y (KR a b rs (BW ct a d bz (IW ct i (xE g) iv (LW ct lb lz (YW ct sa sy (XO x a sa h b d i lb xv (HW ct h ha (hz.1, hz.2.1, (upS hz.2.2 hz.1 y)) R)))))))) H := zPp ((zF7 (YW ct a y []) (KR a b rs []) (BW ct a d bz []) (IW ct i (xE g) iv []) (LW ct lb lz []) (YW ct sa sy []) (XO x a sa h b d i lb xv []) (HWl ct h ha (hz.1, hz.2.1, (upS hz.2.2 hz.1 y))) (R)).trans (zMv1 (HWl ct h ha (hz.1, hz.2.1, (upS hz.2.2 hz.1 y))) (YW ct a y []) (KR a b rs (BW ct a d bz (IW ct i (xE g) iv (LW ct lb lz (YW ct sa sy (XO x a sa h b d i lb xv R)))))))).symm hP
  have hD : va_D A (YW ct a y (KR a b rs (BW ct a d bz (IW ct i (xE g) iv (LW ct lb lz (YW ct sa sy (XO x a sa h b d i lb xv (HW ct h ha (hz.1, hz.2.1, (upS hz.2.2 hz.1 y)) R)))))))) := zDp ((zF7 (YW ct a y []) (KR a b rs []) (BW ct a d bz []) (IW ct i (xE g) iv []) (LW ct lb lz []) (YW ct sa sy []) (XO x a sa h b d i lb xv []) (HWl ct h ha (hz.1, hz.2.1, (upS hz.2.2 hz.1 y))) (R)).trans (zMv1 (HWl ct h ha (hz.1, hz.2.1, (upS hz.2.2 hz.1 y))) (YW ct a y []) (KR a b rs (BW ct a d bz (IW ct i (xE g) iv (LW ct lb lz (YW ct sa sy (XO x a sa h b d i lb xv R)))))))).symm hD
  refine lv_aload_n hx hb dX10_conclusion_11 rfl (lv_at hl 0 rfl) ?_
  refine va_get (ci := 9) (v := .ref (h 0)) hx hb hts h_X10 hown hK hP 38 rfl rfl 3 (by decide) f26 (fun _ h9 => h9) rfl dX10_conclusion_12 ?_
  refine lv_aload_n hx hb dX10_conclusion_15 rfl (lv_at hl 0 rfl) ?_
  refine va_get (ci := 9) (v := .ref (b 2)) hx hb hts h_X10 hown hK hP 38 rfl rfl 6 (by decide) f51 (fun _ h9 => h9) rfl dX10_conclusion_16 ?_
  refine lv_iconst (v := nI (1)) hx hb dX10_conclusion_19 (by decide) ?_
  refine lv_iload_n hx hb dX10_conclusion_20 rfl (lv_at hl 1 rfl) ?_
  refine lv_bipush (v := nI (54)) hx hb dX10_conclusion_21 (by decide) ?_
  refine zVI [.int (nI (1)), .int (x1), .int (nI (54))] [.ref (h 0)] (kX8_addThing (a) (y) (b) (rs) (BW ct a d bz (IW ct i (xE g) iv (LW ct lb lz (YW ct sa sy (XO x a sa h b d i lb xv (HW ct h ha (hz.1, hz.2.1, (upS hz.2.2 hz.1 y)) R)))))) (nI (1)) (x1) (nI (54)) (show y_n y ≤ 12 from by omega)) hx hb hml hown hts (cwV 3 hts gX10_conclusion_X8_addThing rfl rfl rfl (by decide +kernel) ⟨(Nat.le_of_ble_eq_true rfl), (Nat.le_of_ble_eq_true rfl)⟩) hK hP hD hS hA (va_recv hK hP (ci := 7) (q0 := 14) rfl rfl) rfl hl.1 rfl (Nat.le_of_ble_eq_true rfl) dX10_conclusion_23 ⟨(Nat.le_of_ble_eq_true rfl), (Nat.le_of_ble_eq_true rfl)⟩ (fun r_23 _ H locs hr_23 hP hD hS => ?_)
  subst hr_23
  have hP : va_P D vwCl (YW ct a (f_addT y rs (nI (1)) (x1) (nI (54))).2.1 (KR a b (f_addT y rs (nI (1)) (x1) (nI (54))).2.2 (BW ct a d bz (IW ct i (xE g) iv (LW ct lb lz (YW ct sa sy (XO x a sa h b d i lb xv (HW ct h ha (hz.1, hz.2.1, (upS hz.2.2 hz.1 y)) R)))))))) H := hP
  have hD : va_D A (YW ct a (f_addT y rs (nI (1)) (x1) (nI (54))).2.1 (KR a b (f_addT y rs (nI (1)) (x1) (nI (54))).2.2 (BW ct a d bz (IW ct i (xE g) iv (LW ct lb lz (YW ct sa sy (XO x a sa h b d i lb xv (HW ct h ha (hz.1, hz.2.1, (upS hz.2.2 hz.1 y)) R)))))))) := hD
  have hP : va_P D vwCl (HW ct h ha (hz.1, hz.2.1, (upS hz.2.2 hz.1 y)) (YW ct a (f_addT y rs (nI (1)) (x1) (nI (54))).2.1 (KR a b (f_addT y rs (nI (1)) (x1) (nI (54))).2.2 (BW ct a d bz (IW ct i (xE g) iv (LW ct lb lz (YW ct sa sy (XO x a sa h b d i lb xv R)))))))) H := zPp (zF7 (YW ct a (f_addT y rs (nI (1)) (x1) (nI (54))).2.1 []) (KR a b (f_addT y rs (nI (1)) (x1) (nI (54))).2.2 []) (BW ct a d bz []) (IW ct i (xE g) iv []) (LW ct lb lz []) (YW ct sa sy []) (XO x a sa h b d i lb xv []) (HWl ct h ha (hz.1, hz.2.1, (upS hz.2.2 hz.1 y))) (R)) hP
  have hD : va_D A (HW ct h ha (hz.1, hz.2.1, (upS hz.2.2 hz.1 y)) (YW ct a (f_addT y rs (nI (1)) (x1) (nI (54))).2.1 (KR a b (f_addT y rs (nI (1)) (x1) (nI (54))).2.2 (BW ct a d bz (IW ct i (xE g) iv (LW ct lb lz (YW ct sa sy (XO x a sa h b d i lb xv R)))))))) := zDp (zF7 (YW ct a (f_addT y rs (nI (1)) (x1) (nI (54))).2.1 []) (KR a b (f_addT y rs (nI (1)) (x1) (nI (54))).2.2 []) (BW ct a d bz []) (IW ct i (xE g) iv []) (LW ct lb lz []) (YW ct sa sy []) (XO x a sa h b d i lb xv []) (HWl ct h ha (hz.1, hz.2.1, (upS hz.2.2 hz.1 y))) (R)) hD
  refine zVI [.int (((f_addT y rs (nI (1)) (x1) (nI (54))).1))] [] (kX3_settle (h) (ha) ((hz.1, hz.2.1, (upS hz.2.2 hz.1 y))) (YW ct a (f_addT y rs (nI (1)) (x1) (nI (54))).2.1 (KR a b (f_addT y rs (nI (1)) (x1) (nI (54))).2.2 (BW ct a d bz (IW ct i (xE g) iv (LW ct lb lz (YW ct sa sy (XO x a sa h b d i lb xv R))))))) (((f_addT y rs (nI (1)) (x1) (nI (54))).1)) (show hz.1 ≤ 8 from hn8) (show hz.2.1 ≤ 8 from hc8)) hx hb hml hown hts (cwV 1 hts gX10_conclusion_X3_settle rfl rfl rfl (by decide +kernel) ⟨(Nat.le_of_ble_eq_true rfl), (Nat.le_of_ble_eq_true rfl)⟩) hK hP hD hS hA (va_recv hK hP (ci := 2) (q0 := 0) rfl rfl) rfl hl.1 rfl (Nat.le_of_ble_eq_true rfl) dX10_conclusion_26 ⟨(Nat.le_of_ble_eq_true rfl), (Nat.le_of_ble_eq_true rfl)⟩ (fun r_26 _ H locs hr_26 hP hD hS => ?_)
  subst hr_26
  have hP : va_P D vwCl (HW ct h ha ((F_set (hz.1, hz.2.1, (upS hz.2.2 hz.1 y)) (((f_addT y rs (nI (1)) (x1) (nI (54))).1))).2) (YW ct a (f_addT y rs (nI (1)) (x1) (nI (54))).2.1 (KR a b (f_addT y rs (nI (1)) (x1) (nI (54))).2.2 (BW ct a d bz (IW ct i (xE g) iv (LW ct lb lz (YW ct sa sy (XO x a sa h b d i lb xv R)))))))) H := hP
  have hD : va_D A (HW ct h ha ((F_set (hz.1, hz.2.1, (upS hz.2.2 hz.1 y)) (((f_addT y rs (nI (1)) (x1) (nI (54))).1))).2) (YW ct a (f_addT y rs (nI (1)) (x1) (nI (54))).2.1 (KR a b (f_addT y rs (nI (1)) (x1) (nI (54))).2.2 (BW ct a d bz (IW ct i (xE g) iv (LW ct lb lz (YW ct sa sy (XO x a sa h b d i lb xv R)))))))) := hD
  have hP : va_P D vwCl (YW ct a (f_addT y rs (nI (1)) (x1) (nI (54))).2.1 (KR a b (f_addT y rs (nI (1)) (x1) (nI (54))).2.2 (BW ct a d bz (IW ct i (xE g) iv (LW ct lb lz (YW ct sa sy (XO x a sa h b d i lb xv (HW ct h ha ((F_set (hz.1, hz.2.1, (upS hz.2.2 hz.1 y)) (((f_addT y rs (nI (1)) (x1) (nI (54))).1))).2) R)))))))) H := zPp (zF7 (YW ct a (f_addT y rs (nI (1)) (x1) (nI (54))).2.1 []) (KR a b (f_addT y rs (nI (1)) (x1) (nI (54))).2.2 []) (BW ct a d bz []) (IW ct i (xE g) iv []) (LW ct lb lz []) (YW ct sa sy []) (XO x a sa h b d i lb xv []) (HWl ct h ha ((F_set (hz.1, hz.2.1, (upS hz.2.2 hz.1 y)) (((f_addT y rs (nI (1)) (x1) (nI (54))).1))).2)) (R)).symm hP
  have hD : va_D A (YW ct a (f_addT y rs (nI (1)) (x1) (nI (54))).2.1 (KR a b (f_addT y rs (nI (1)) (x1) (nI (54))).2.2 (BW ct a d bz (IW ct i (xE g) iv (LW ct lb lz (YW ct sa sy (XO x a sa h b d i lb xv (HW ct h ha ((F_set (hz.1, hz.2.1, (upS hz.2.2 hz.1 y)) (((f_addT y rs (nI (1)) (x1) (nI (54))).1))).2) R)))))))) := zDp (zF7 (YW ct a (f_addT y rs (nI (1)) (x1) (nI (54))).2.1 []) (KR a b (f_addT y rs (nI (1)) (x1) (nI (54))).2.2 []) (BW ct a d bz []) (IW ct i (xE g) iv []) (LW ct lb lz []) (YW ct sa sy []) (XO x a sa h b d i lb xv []) (HWl ct h ha ((F_set (hz.1, hz.2.1, (upS hz.2.2 hz.1 y)) (((f_addT y rs (nI (1)) (x1) (nI (54))).1))).2)) (R)).symm hD
  exact zIret () hx hb hr hlocks hK hP hD hS dX10_conclusion_29 (show ((F_set (hz.1, hz.2.1, (upS hz.2.2 hz.1 y)) (((f_addT y rs (nI (1)) (x1) (nI (54))).1))).1) = (F_set (hz.1, hz.2.1, (upS hz.2.2 (hz.1) y)) ((f_addT y rs (nI (1)) x1 (nI (54))).1)).1 from rfl)
abbrev rmX10_cart : Room := { frames := 3, cells := 0, slots := 0, locals := 82 }
theorem in_X10_cart_X10 : ∀ w ∈ u_ws RX10 TX10 12, w ∈ wsX10_cart := by decide +kernel
set_option maxHeartbeats 4000000 in
set_option maxRecDepth 100000 in
theorem kX10_cart {D : va_G} {g : XG} {ct : Nat → ClassId} {l : Launch} (a : Nat → Nat) (y : YS) (b : Nat → Nat) (rs : RS) (d : Nat → Nat) (bz : BS) (i : Nat → Nat) (iv : IS) (lb : Nat → Nat) (lz : LST) (sa : Nat → Nat) (sy : YS) (x : Nat → Nat) (xv : Int32 × Int32) (h : Nat → Nat) (ha : Nat → Nat → Nat) (hz : HS) (R : va_W) (x1 : Int32) (hy : yI y) (hf : yF y) (hn8 : hz.1 ≤ 8) (hc8 : hz.2.1 ≤ 8) : MX D ct g l yX10_cart wsX10_cart rmX10_cart (YW ct a y (KR a b rs (BW ct a d bz (IW ct i (xE g) iv (LW ct lb lz (YW ct sa sy (XO x a sa h b d i lb xv (HW ct h ha hz R)))))))) [.ref (x 0), .int (x1)] (QI D ct (fun r0 (_ : Unit) => r0 = (F_set (hz.1, hz.2.1, (upS hz.2.2 (hz.1) y)) ((f_addC y rs x1).1)).1) (fun _ : Unit => YW ct a ((f_addC y rs x1).2.1) (KR a b ((f_addC y rs x1).2.2) (BW ct a d bz (IW ct i (xE g) iv (LW ct lb lz (YW ct sa sy (XO x a sa h b d i lb xv (HW ct h ha ((F_set (hz.1, hz.2.1, (upS hz.2.2 (hz.1) y)) ((f_addC y rs x1).1)).2) R))))))))) := by
  refine MXof (cc := cX10_cart) (maxL := 2) (ret := (some .int)) (by decide) rfl (Nat.le_of_ble_eq_true rfl) ?_
  intro p e s m args below meth c A H locs F hP hK hD hS hA hX ls hl
  obtain ⟨hx, hb, hr, hlocks, hml, hown, hts, hin⟩ := F
  have hl : lv_has ls 2 [(0, .ref (x 0)), (1, .int (x1))] := hl
  have hkd : ∀ j9, j9 < y_n y → y_kd y j9 = nI 0 ∨ y_kd y j9 = nI 1 := fun j9 hj9 => (hy.2.2.2.1 j9 hj9).1
  have hn : y_n y ≤ 12 := hy.1
  have hcn : y_cn y ≤ 4 := hy.2.1
  have hrn : y_rn y ≤ 5 := hy.2.2.1
  have h_X10 := in_X10_cart_X10
  have f10 := hts (.fieldLink RX10 10 "CartArguments" "yard" "LCartArguments$Yard;") (by decide +kernel)
  have f26 := hts (.fieldLink RX10 26 "CartArguments" "history" "LCartArguments$History;") (by decide +kernel)
  have f51 := hts (.fieldLink RX10 51 "CartArguments" "works" "LCartArguments$Works;") (by decide +kernel)
  refine lv_aload_n hx hb dX10_cart_0 rfl (lv_at hl 0 rfl) ?_
  refine va_get (ci := 9) (v := .ref (h 0)) hx hb hts h_X10 hown hK hP 38 rfl rfl 3 (by decide) f26 (fun _ h9 => h9) rfl dX10_cart_1 ?_
  refine lv_aload_n hx hb dX10_cart_4 rfl (lv_at hl 0 rfl) ?_
  refine va_get (ci := 9) (v := .ref (a 0)) hx hb hts h_X10 hown hK hP 38 rfl rfl 0 (by decide) f10 (fun _ h9 => h9) rfl dX10_cart_5 ?_
  have hP : va_P D vwCl (YW ct a y (HW ct h ha hz (KR a b rs (BW ct a d bz (IW ct i (xE g) iv (LW ct lb lz (YW ct sa sy (XO x a sa h b d i lb xv R)))))))) H := zPp ((zF7 (YW ct a y []) (KR a b rs []) (BW ct a d bz []) (IW ct i (xE g) iv []) (LW ct lb lz []) (YW ct sa sy []) (XO x a sa h b d i lb xv []) (HWl ct h ha hz) (R)).trans (zMv1 (HWl ct h ha hz) (YW ct a y []) (KR a b rs (BW ct a d bz (IW ct i (xE g) iv (LW ct lb lz (YW ct sa sy (XO x a sa h b d i lb xv R)))))))) hP
  have hD : va_D A (YW ct a y (HW ct h ha hz (KR a b rs (BW ct a d bz (IW ct i (xE g) iv (LW ct lb lz (YW ct sa sy (XO x a sa h b d i lb xv R)))))))) := zDp ((zF7 (YW ct a y []) (KR a b rs []) (BW ct a d bz []) (IW ct i (xE g) iv []) (LW ct lb lz []) (YW ct sa sy []) (XO x a sa h b d i lb xv []) (HWl ct h ha hz) (R)).trans (zMv1 (HWl ct h ha hz) (YW ct a y []) (KR a b rs (BW ct a d bz (IW ct i (xE g) iv (LW ct lb lz (YW ct sa sy (XO x a sa h b d i lb xv R)))))))) hD
  refine zVV [.ref (a 0)] [] (kX3_begin (a) (y) (h) (ha) (hz) (KR a b rs (BW ct a d bz (IW ct i (xE g) iv (LW ct lb lz (YW ct sa sy (XO x a sa h b d i lb xv R)))))) (show hz.1 ≤ 8 from hn8)) hx hb hml hown hts (cwV 1 hts gX10_cart_X3_begin rfl rfl rfl (by decide +kernel) ⟨(Nat.le_of_ble_eq_true rfl), (Nat.le_of_ble_eq_true rfl)⟩) hK hP hD hS hA (va_recv hK hP (ci := 2) (q0 := 12) rfl rfl) rfl hl.1 rfl (Nat.le_of_ble_eq_true rfl) dX10_cart_8 ⟨(Nat.le_of_ble_eq_true rfl), (Nat.le_of_ble_eq_true rfl)⟩ (fun _ H locs hr_8 hP hD hS => ?_)
  have hP : va_P D vwCl (YW ct a y (HW ct h ha (hz.1, hz.2.1, (upS hz.2.2 hz.1 y)) (KR a b rs (BW ct a d bz (IW ct i (xE g) iv (LW ct lb lz (YW ct sa sy (XO x a sa h b d i lb xv R)))))))) H := hP
  have hD : va_D A (YW ct a y (HW ct h ha (hz.1, hz.2.1, (upS hz.2.2 hz.1 y)) (KR a b rs (BW ct a d bz (IW ct i (xE g) iv (LW ct lb lz (YW ct sa sy (XO x a sa h b d i lb xv R)))))))) := hD
  have hP : va_P D vwCl (YW ct a y (KR a b rs (BW ct a d bz (IW ct i (xE g) iv (LW ct lb lz (YW ct sa sy (XO x a sa h b d i lb xv (HW ct h ha (hz.1, hz.2.1, (upS hz.2.2 hz.1 y)) R)))))))) H := zPp ((zF7 (YW ct a y []) (KR a b rs []) (BW ct a d bz []) (IW ct i (xE g) iv []) (LW ct lb lz []) (YW ct sa sy []) (XO x a sa h b d i lb xv []) (HWl ct h ha (hz.1, hz.2.1, (upS hz.2.2 hz.1 y))) (R)).trans (zMv1 (HWl ct h ha (hz.1, hz.2.1, (upS hz.2.2 hz.1 y))) (YW ct a y []) (KR a b rs (BW ct a d bz (IW ct i (xE g) iv (LW ct lb lz (YW ct sa sy (XO x a sa h b d i lb xv R)))))))).symm hP
  have hD : va_D A (YW ct a y (KR a b rs (BW ct a d bz (IW ct i (xE g) iv (LW ct lb lz (YW ct sa sy (XO x a sa h b d i lb xv (HW ct h ha (hz.1, hz.2.1, (upS hz.2.2 hz.1 y)) R)))))))) := zDp ((zF7 (YW ct a y []) (KR a b rs []) (BW ct a d bz []) (IW ct i (xE g) iv []) (LW ct lb lz []) (YW ct sa sy []) (XO x a sa h b d i lb xv []) (HWl ct h ha (hz.1, hz.2.1, (upS hz.2.2 hz.1 y))) (R)).trans (zMv1 (HWl ct h ha (hz.1, hz.2.1, (upS hz.2.2 hz.1 y))) (YW ct a y []) (KR a b rs (BW ct a d bz (IW ct i (xE g) iv (LW ct lb lz (YW ct sa sy (XO x a sa h b d i lb xv R)))))))).symm hD
  refine lv_aload_n hx hb dX10_cart_11 rfl (lv_at hl 0 rfl) ?_
  refine va_get (ci := 9) (v := .ref (h 0)) hx hb hts h_X10 hown hK hP 38 rfl rfl 3 (by decide) f26 (fun _ h9 => h9) rfl dX10_cart_12 ?_
  refine lv_aload_n hx hb dX10_cart_15 rfl (lv_at hl 0 rfl) ?_
  refine va_get (ci := 9) (v := .ref (b 2)) hx hb hts h_X10 hown hK hP 38 rfl rfl 6 (by decide) f51 (fun _ h9 => h9) rfl dX10_cart_16 ?_
  refine lv_iload_n hx hb dX10_cart_19 rfl (lv_at hl 1 rfl) ?_
  refine zVI [.int (x1)] [.ref (h 0)] (kX8_addCart (a) (y) (b) (rs) (BW ct a d bz (IW ct i (xE g) iv (LW ct lb lz (YW ct sa sy (XO x a sa h b d i lb xv (HW ct h ha (hz.1, hz.2.1, (upS hz.2.2 hz.1 y)) R)))))) (x1) (show y_cn y ≤ 4 from by omega)) hx hb hml hown hts (cwV 1 hts gX10_cart_X8_addCart rfl rfl rfl (by decide +kernel) ⟨(Nat.le_of_ble_eq_true rfl), (Nat.le_of_ble_eq_true rfl)⟩) hK hP hD hS hA (va_recv hK hP (ci := 7) (q0 := 14) rfl rfl) rfl hl.1 rfl (Nat.le_of_ble_eq_true rfl) dX10_cart_20 ⟨(Nat.le_of_ble_eq_true rfl), (Nat.le_of_ble_eq_true rfl)⟩ (fun r_20 _ H locs hr_20 hP hD hS => ?_)
  subst hr_20
  have hP : va_P D vwCl (YW ct a (f_addC y rs (x1)).2.1 (KR a b (f_addC y rs (x1)).2.2 (BW ct a d bz (IW ct i (xE g) iv (LW ct lb lz (YW ct sa sy (XO x a sa h b d i lb xv (HW ct h ha (hz.1, hz.2.1, (upS hz.2.2 hz.1 y)) R)))))))) H := hP
  have hD : va_D A (YW ct a (f_addC y rs (x1)).2.1 (KR a b (f_addC y rs (x1)).2.2 (BW ct a d bz (IW ct i (xE g) iv (LW ct lb lz (YW ct sa sy (XO x a sa h b d i lb xv (HW ct h ha (hz.1, hz.2.1, (upS hz.2.2 hz.1 y)) R)))))))) := hD
  have hP : va_P D vwCl (HW ct h ha (hz.1, hz.2.1, (upS hz.2.2 hz.1 y)) (YW ct a (f_addC y rs (x1)).2.1 (KR a b (f_addC y rs (x1)).2.2 (BW ct a d bz (IW ct i (xE g) iv (LW ct lb lz (YW ct sa sy (XO x a sa h b d i lb xv R)))))))) H := zPp (zF7 (YW ct a (f_addC y rs (x1)).2.1 []) (KR a b (f_addC y rs (x1)).2.2 []) (BW ct a d bz []) (IW ct i (xE g) iv []) (LW ct lb lz []) (YW ct sa sy []) (XO x a sa h b d i lb xv []) (HWl ct h ha (hz.1, hz.2.1, (upS hz.2.2 hz.1 y))) (R)) hP
  have hD : va_D A (HW ct h ha (hz.1, hz.2.1, (upS hz.2.2 hz.1 y)) (YW ct a (f_addC y rs (x1)).2.1 (KR a b (f_addC y rs (x1)).2.2 (BW ct a d bz (IW ct i (xE g) iv (LW ct lb lz (YW ct sa sy (XO x a sa h b d i lb xv R)))))))) := zDp (zF7 (YW ct a (f_addC y rs (x1)).2.1 []) (KR a b (f_addC y rs (x1)).2.2 []) (BW ct a d bz []) (IW ct i (xE g) iv []) (LW ct lb lz []) (YW ct sa sy []) (XO x a sa h b d i lb xv []) (HWl ct h ha (hz.1, hz.2.1, (upS hz.2.2 hz.1 y))) (R)) hD
  refine zVI [.int (((f_addC y rs (x1)).1))] [] (kX3_settle (h) (ha) ((hz.1, hz.2.1, (upS hz.2.2 hz.1 y))) (YW ct a (f_addC y rs (x1)).2.1 (KR a b (f_addC y rs (x1)).2.2 (BW ct a d bz (IW ct i (xE g) iv (LW ct lb lz (YW ct sa sy (XO x a sa h b d i lb xv R))))))) (((f_addC y rs (x1)).1)) (show hz.1 ≤ 8 from hn8) (show hz.2.1 ≤ 8 from hc8)) hx hb hml hown hts (cwV 1 hts gX10_cart_X3_settle rfl rfl rfl (by decide +kernel) ⟨(Nat.le_of_ble_eq_true rfl), (Nat.le_of_ble_eq_true rfl)⟩) hK hP hD hS hA (va_recv hK hP (ci := 2) (q0 := 0) rfl rfl) rfl hl.1 rfl (Nat.le_of_ble_eq_true rfl) dX10_cart_23 ⟨(Nat.le_of_ble_eq_true rfl), (Nat.le_of_ble_eq_true rfl)⟩ (fun r_23 _ H locs hr_23 hP hD hS => ?_)
  subst hr_23
  have hP : va_P D vwCl (HW ct h ha ((F_set (hz.1, hz.2.1, (upS hz.2.2 hz.1 y)) (((f_addC y rs (x1)).1))).2) (YW ct a (f_addC y rs (x1)).2.1 (KR a b (f_addC y rs (x1)).2.2 (BW ct a d bz (IW ct i (xE g) iv (LW ct lb lz (YW ct sa sy (XO x a sa h b d i lb xv R)))))))) H := hP
  have hD : va_D A (HW ct h ha ((F_set (hz.1, hz.2.1, (upS hz.2.2 hz.1 y)) (((f_addC y rs (x1)).1))).2) (YW ct a (f_addC y rs (x1)).2.1 (KR a b (f_addC y rs (x1)).2.2 (BW ct a d bz (IW ct i (xE g) iv (LW ct lb lz (YW ct sa sy (XO x a sa h b d i lb xv R)))))))) := hD
  have hP : va_P D vwCl (YW ct a (f_addC y rs (x1)).2.1 (KR a b (f_addC y rs (x1)).2.2 (BW ct a d bz (IW ct i (xE g) iv (LW ct lb lz (YW ct sa sy (XO x a sa h b d i lb xv (HW ct h ha ((F_set (hz.1, hz.2.1, (upS hz.2.2 hz.1 y)) (((f_addC y rs (x1)).1))).2) R)))))))) H := zPp (zF7 (YW ct a (f_addC y rs (x1)).2.1 []) (KR a b (f_addC y rs (x1)).2.2 []) (BW ct a d bz []) (IW ct i (xE g) iv []) (LW ct lb lz []) (YW ct sa sy []) (XO x a sa h b d i lb xv []) (HWl ct h ha ((F_set (hz.1, hz.2.1, (upS hz.2.2 hz.1 y)) (((f_addC y rs (x1)).1))).2)) (R)).symm hP
  have hD : va_D A (YW ct a (f_addC y rs (x1)).2.1 (KR a b (f_addC y rs (x1)).2.2 (BW ct a d bz (IW ct i (xE g) iv (LW ct lb lz (YW ct sa sy (XO x a sa h b d i lb xv (HW ct h ha ((F_set (hz.1, hz.2.1, (upS hz.2.2 hz.1 y)) (((f_addC y rs (x1)).1))).2) R)))))))) := zDp (zF7 (YW ct a (f_addC y rs (x1)).2.1 []) (KR a b (f_addC y rs (x1)).2.2 []) (BW ct a d bz []) (IW ct i (xE g) iv []) (LW ct lb lz []) (YW ct sa sy []) (XO x a sa h b d i lb xv []) (HWl ct h ha ((F_set (hz.1, hz.2.1, (upS hz.2.2 hz.1 y)) (((f_addC y rs (x1)).1))).2)) (R)).symm hD
  exact zIret () hx hb hr hlocks hK hP hD hS dX10_cart_26 (show ((F_set (hz.1, hz.2.1, (upS hz.2.2 hz.1 y)) (((f_addC y rs (x1)).1))).1) = (F_set (hz.1, hz.2.1, (upS hz.2.2 (hz.1) y)) ((f_addC y rs x1).1)).1 from rfl)
abbrev rmX10_road : Room := { frames := 3, cells := 0, slots := 0, locals := 82 }
theorem in_X10_road_X10 : ∀ w ∈ u_ws RX10 TX10 12, w ∈ wsX10_road := by decide +kernel
set_option maxHeartbeats 4000000 in
set_option maxRecDepth 100000 in
theorem kX10_road {D : va_G} {g : XG} {ct : Nat → ClassId} {l : Launch} (a : Nat → Nat) (y : YS) (b : Nat → Nat) (rs : RS) (d : Nat → Nat) (bz : BS) (i : Nat → Nat) (iv : IS) (lb : Nat → Nat) (lz : LST) (sa : Nat → Nat) (sy : YS) (x : Nat → Nat) (xv : Int32 × Int32) (h : Nat → Nat) (ha : Nat → Nat → Nat) (hz : HS) (R : va_W) (x1 : Int32) (x2 : Int32) (x3 : Int32) (hy : yI y) (hf : yF y) (hn8 : hz.1 ≤ 8) (hc8 : hz.2.1 ≤ 8) : MX D ct g l yX10_road wsX10_road rmX10_road (YW ct a y (KR a b rs (BW ct a d bz (IW ct i (xE g) iv (LW ct lb lz (YW ct sa sy (XO x a sa h b d i lb xv (HW ct h ha hz R)))))))) [.ref (x 0), .int (x1), .int (x2), .int (x3)] (QI D ct (fun r0 (_ : Unit) => r0 = (F_set (hz.1, hz.2.1, (upS hz.2.2 (hz.1) y)) ((f_addR y rs x1 x2 x3).1)).1) (fun _ : Unit => YW ct a ((f_addR y rs x1 x2 x3).2.1) (KR a b ((f_addR y rs x1 x2 x3).2.2) (BW ct a d bz (IW ct i (xE g) iv (LW ct lb lz (YW ct sa sy (XO x a sa h b d i lb xv (HW ct h ha ((F_set (hz.1, hz.2.1, (upS hz.2.2 (hz.1) y)) ((f_addR y rs x1 x2 x3).1)).2) R))))))))) := by
  refine MXof (cc := cX10_road) (maxL := 4) (ret := (some .int)) (by decide) rfl (Nat.le_of_ble_eq_true rfl) ?_
  intro p e s m args below meth c A H locs F hP hK hD hS hA hX ls hl
  obtain ⟨hx, hb, hr, hlocks, hml, hown, hts, hin⟩ := F
  have hl : lv_has ls 4 [(0, .ref (x 0)), (1, .int (x1)), (2, .int (x2)), (3, .int (x3))] := hl
  have hkd : ∀ j9, j9 < y_n y → y_kd y j9 = nI 0 ∨ y_kd y j9 = nI 1 := fun j9 hj9 => (hy.2.2.2.1 j9 hj9).1
  have hn : y_n y ≤ 12 := hy.1
  have hcn : y_cn y ≤ 4 := hy.2.1
  have hrn : y_rn y ≤ 5 := hy.2.2.1
  have h_X10 := in_X10_road_X10
  have f10 := hts (.fieldLink RX10 10 "CartArguments" "yard" "LCartArguments$Yard;") (by decide +kernel)
  have f26 := hts (.fieldLink RX10 26 "CartArguments" "history" "LCartArguments$History;") (by decide +kernel)
  have f51 := hts (.fieldLink RX10 51 "CartArguments" "works" "LCartArguments$Works;") (by decide +kernel)
  refine lv_aload_n hx hb dX10_road_0 rfl (lv_at hl 0 rfl) ?_
  refine va_get (ci := 9) (v := .ref (h 0)) hx hb hts h_X10 hown hK hP 38 rfl rfl 3 (by decide) f26 (fun _ h9 => h9) rfl dX10_road_1 ?_
  refine lv_aload_n hx hb dX10_road_4 rfl (lv_at hl 0 rfl) ?_
  refine va_get (ci := 9) (v := .ref (a 0)) hx hb hts h_X10 hown hK hP 38 rfl rfl 0 (by decide) f10 (fun _ h9 => h9) rfl dX10_road_5 ?_
  have hP : va_P D vwCl (YW ct a y (HW ct h ha hz (KR a b rs (BW ct a d bz (IW ct i (xE g) iv (LW ct lb lz (YW ct sa sy (XO x a sa h b d i lb xv R)))))))) H := zPp ((zF7 (YW ct a y []) (KR a b rs []) (BW ct a d bz []) (IW ct i (xE g) iv []) (LW ct lb lz []) (YW ct sa sy []) (XO x a sa h b d i lb xv []) (HWl ct h ha hz) (R)).trans (zMv1 (HWl ct h ha hz) (YW ct a y []) (KR a b rs (BW ct a d bz (IW ct i (xE g) iv (LW ct lb lz (YW ct sa sy (XO x a sa h b d i lb xv R)))))))) hP
  have hD : va_D A (YW ct a y (HW ct h ha hz (KR a b rs (BW ct a d bz (IW ct i (xE g) iv (LW ct lb lz (YW ct sa sy (XO x a sa h b d i lb xv R)))))))) := zDp ((zF7 (YW ct a y []) (KR a b rs []) (BW ct a d bz []) (IW ct i (xE g) iv []) (LW ct lb lz []) (YW ct sa sy []) (XO x a sa h b d i lb xv []) (HWl ct h ha hz) (R)).trans (zMv1 (HWl ct h ha hz) (YW ct a y []) (KR a b rs (BW ct a d bz (IW ct i (xE g) iv (LW ct lb lz (YW ct sa sy (XO x a sa h b d i lb xv R)))))))) hD
  refine zVV [.ref (a 0)] [] (kX3_begin (a) (y) (h) (ha) (hz) (KR a b rs (BW ct a d bz (IW ct i (xE g) iv (LW ct lb lz (YW ct sa sy (XO x a sa h b d i lb xv R)))))) (show hz.1 ≤ 8 from hn8)) hx hb hml hown hts (cwV 1 hts gX10_road_X3_begin rfl rfl rfl (by decide +kernel) ⟨(Nat.le_of_ble_eq_true rfl), (Nat.le_of_ble_eq_true rfl)⟩) hK hP hD hS hA (va_recv hK hP (ci := 2) (q0 := 12) rfl rfl) rfl hl.1 rfl (Nat.le_of_ble_eq_true rfl) dX10_road_8 ⟨(Nat.le_of_ble_eq_true rfl), (Nat.le_of_ble_eq_true rfl)⟩ (fun _ H locs hr_8 hP hD hS => ?_)
  have hP : va_P D vwCl (YW ct a y (HW ct h ha (hz.1, hz.2.1, (upS hz.2.2 hz.1 y)) (KR a b rs (BW ct a d bz (IW ct i (xE g) iv (LW ct lb lz (YW ct sa sy (XO x a sa h b d i lb xv R)))))))) H := hP
  have hD : va_D A (YW ct a y (HW ct h ha (hz.1, hz.2.1, (upS hz.2.2 hz.1 y)) (KR a b rs (BW ct a d bz (IW ct i (xE g) iv (LW ct lb lz (YW ct sa sy (XO x a sa h b d i lb xv R)))))))) := hD
  have hP : va_P D vwCl (YW ct a y (KR a b rs (BW ct a d bz (IW ct i (xE g) iv (LW ct lb lz (YW ct sa sy (XO x a sa h b d i lb xv (HW ct h ha (hz.1, hz.2.1, (upS hz.2.2 hz.1 y)) R)))))))) H := zPp ((zF7 (YW ct a y []) (KR a b rs []) (BW ct a d bz []) (IW ct i (xE g) iv []) (LW ct lb lz []) (YW ct sa sy []) (XO x a sa h b d i lb xv []) (HWl ct h ha (hz.1, hz.2.1, (upS hz.2.2 hz.1 y))) (R)).trans (zMv1 (HWl ct h ha (hz.1, hz.2.1, (upS hz.2.2 hz.1 y))) (YW ct a y []) (KR a b rs (BW ct a d bz (IW ct i (xE g) iv (LW ct lb lz (YW ct sa sy (XO x a sa h b d i lb xv R)))))))).symm hP
  have hD : va_D A (YW ct a y (KR a b rs (BW ct a d bz (IW ct i (xE g) iv (LW ct lb lz (YW ct sa sy (XO x a sa h b d i lb xv (HW ct h ha (hz.1, hz.2.1, (upS hz.2.2 hz.1 y)) R)))))))) := zDp ((zF7 (YW ct a y []) (KR a b rs []) (BW ct a d bz []) (IW ct i (xE g) iv []) (LW ct lb lz []) (YW ct sa sy []) (XO x a sa h b d i lb xv []) (HWl ct h ha (hz.1, hz.2.1, (upS hz.2.2 hz.1 y))) (R)).trans (zMv1 (HWl ct h ha (hz.1, hz.2.1, (upS hz.2.2 hz.1 y))) (YW ct a y []) (KR a b rs (BW ct a d bz (IW ct i (xE g) iv (LW ct lb lz (YW ct sa sy (XO x a sa h b d i lb xv R)))))))).symm hD
  refine lv_aload_n hx hb dX10_road_11 rfl (lv_at hl 0 rfl) ?_
  refine va_get (ci := 9) (v := .ref (h 0)) hx hb hts h_X10 hown hK hP 38 rfl rfl 3 (by decide) f26 (fun _ h9 => h9) rfl dX10_road_12 ?_
  refine lv_aload_n hx hb dX10_road_15 rfl (lv_at hl 0 rfl) ?_
  refine va_get (ci := 9) (v := .ref (b 2)) hx hb hts h_X10 hown hK hP 38 rfl rfl 6 (by decide) f51 (fun _ h9 => h9) rfl dX10_road_16 ?_
  refine lv_iload_n hx hb dX10_road_19 rfl (lv_at hl 1 rfl) ?_
  refine lv_iload_n hx hb dX10_road_20 rfl (lv_at hl 2 rfl) ?_
  refine lv_iload_n hx hb dX10_road_21 rfl (lv_at hl 3 rfl) ?_
  refine zVI [.int (x1), .int (x2), .int (x3)] [.ref (h 0)] (kX8_addRoad (a) (y) (b) (rs) (BW ct a d bz (IW ct i (xE g) iv (LW ct lb lz (YW ct sa sy (XO x a sa h b d i lb xv (HW ct h ha (hz.1, hz.2.1, (upS hz.2.2 hz.1 y)) R)))))) (x1) (x2) (x3) (show y_rn y ≤ 5 from by omega)) hx hb hml hown hts (cwV 3 hts gX10_road_X8_addRoad rfl rfl rfl (by decide +kernel) ⟨(Nat.le_of_ble_eq_true rfl), (Nat.le_of_ble_eq_true rfl)⟩) hK hP hD hS hA (va_recv hK hP (ci := 7) (q0 := 14) rfl rfl) rfl hl.1 rfl (Nat.le_of_ble_eq_true rfl) dX10_road_22 ⟨(Nat.le_of_ble_eq_true rfl), (Nat.le_of_ble_eq_true rfl)⟩ (fun r_22 _ H locs hr_22 hP hD hS => ?_)
  subst hr_22
  have hP : va_P D vwCl (YW ct a (f_addR y rs (x1) (x2) (x3)).2.1 (KR a b (f_addR y rs (x1) (x2) (x3)).2.2 (BW ct a d bz (IW ct i (xE g) iv (LW ct lb lz (YW ct sa sy (XO x a sa h b d i lb xv (HW ct h ha (hz.1, hz.2.1, (upS hz.2.2 hz.1 y)) R)))))))) H := hP
  have hD : va_D A (YW ct a (f_addR y rs (x1) (x2) (x3)).2.1 (KR a b (f_addR y rs (x1) (x2) (x3)).2.2 (BW ct a d bz (IW ct i (xE g) iv (LW ct lb lz (YW ct sa sy (XO x a sa h b d i lb xv (HW ct h ha (hz.1, hz.2.1, (upS hz.2.2 hz.1 y)) R)))))))) := hD
  have hP : va_P D vwCl (HW ct h ha (hz.1, hz.2.1, (upS hz.2.2 hz.1 y)) (YW ct a (f_addR y rs (x1) (x2) (x3)).2.1 (KR a b (f_addR y rs (x1) (x2) (x3)).2.2 (BW ct a d bz (IW ct i (xE g) iv (LW ct lb lz (YW ct sa sy (XO x a sa h b d i lb xv R)))))))) H := zPp (zF7 (YW ct a (f_addR y rs (x1) (x2) (x3)).2.1 []) (KR a b (f_addR y rs (x1) (x2) (x3)).2.2 []) (BW ct a d bz []) (IW ct i (xE g) iv []) (LW ct lb lz []) (YW ct sa sy []) (XO x a sa h b d i lb xv []) (HWl ct h ha (hz.1, hz.2.1, (upS hz.2.2 hz.1 y))) (R)) hP
  have hD : va_D A (HW ct h ha (hz.1, hz.2.1, (upS hz.2.2 hz.1 y)) (YW ct a (f_addR y rs (x1) (x2) (x3)).2.1 (KR a b (f_addR y rs (x1) (x2) (x3)).2.2 (BW ct a d bz (IW ct i (xE g) iv (LW ct lb lz (YW ct sa sy (XO x a sa h b d i lb xv R)))))))) := zDp (zF7 (YW ct a (f_addR y rs (x1) (x2) (x3)).2.1 []) (KR a b (f_addR y rs (x1) (x2) (x3)).2.2 []) (BW ct a d bz []) (IW ct i (xE g) iv []) (LW ct lb lz []) (YW ct sa sy []) (XO x a sa h b d i lb xv []) (HWl ct h ha (hz.1, hz.2.1, (upS hz.2.2 hz.1 y))) (R)) hD
  refine zVI [.int (((f_addR y rs (x1) (x2) (x3)).1))] [] (kX3_settle (h) (ha) ((hz.1, hz.2.1, (upS hz.2.2 hz.1 y))) (YW ct a (f_addR y rs (x1) (x2) (x3)).2.1 (KR a b (f_addR y rs (x1) (x2) (x3)).2.2 (BW ct a d bz (IW ct i (xE g) iv (LW ct lb lz (YW ct sa sy (XO x a sa h b d i lb xv R))))))) (((f_addR y rs (x1) (x2) (x3)).1)) (show hz.1 ≤ 8 from hn8) (show hz.2.1 ≤ 8 from hc8)) hx hb hml hown hts (cwV 1 hts gX10_road_X3_settle rfl rfl rfl (by decide +kernel) ⟨(Nat.le_of_ble_eq_true rfl), (Nat.le_of_ble_eq_true rfl)⟩) hK hP hD hS hA (va_recv hK hP (ci := 2) (q0 := 0) rfl rfl) rfl hl.1 rfl (Nat.le_of_ble_eq_true rfl) dX10_road_25 ⟨(Nat.le_of_ble_eq_true rfl), (Nat.le_of_ble_eq_true rfl)⟩ (fun r_25 _ H locs hr_25 hP hD hS => ?_)
  subst hr_25
  have hP : va_P D vwCl (HW ct h ha ((F_set (hz.1, hz.2.1, (upS hz.2.2 hz.1 y)) (((f_addR y rs (x1) (x2) (x3)).1))).2) (YW ct a (f_addR y rs (x1) (x2) (x3)).2.1 (KR a b (f_addR y rs (x1) (x2) (x3)).2.2 (BW ct a d bz (IW ct i (xE g) iv (LW ct lb lz (YW ct sa sy (XO x a sa h b d i lb xv R)))))))) H := hP
  have hD : va_D A (HW ct h ha ((F_set (hz.1, hz.2.1, (upS hz.2.2 hz.1 y)) (((f_addR y rs (x1) (x2) (x3)).1))).2) (YW ct a (f_addR y rs (x1) (x2) (x3)).2.1 (KR a b (f_addR y rs (x1) (x2) (x3)).2.2 (BW ct a d bz (IW ct i (xE g) iv (LW ct lb lz (YW ct sa sy (XO x a sa h b d i lb xv R)))))))) := hD
  have hP : va_P D vwCl (YW ct a (f_addR y rs (x1) (x2) (x3)).2.1 (KR a b (f_addR y rs (x1) (x2) (x3)).2.2 (BW ct a d bz (IW ct i (xE g) iv (LW ct lb lz (YW ct sa sy (XO x a sa h b d i lb xv (HW ct h ha ((F_set (hz.1, hz.2.1, (upS hz.2.2 hz.1 y)) (((f_addR y rs (x1) (x2) (x3)).1))).2) R)))))))) H := zPp (zF7 (YW ct a (f_addR y rs (x1) (x2) (x3)).2.1 []) (KR a b (f_addR y rs (x1) (x2) (x3)).2.2 []) (BW ct a d bz []) (IW ct i (xE g) iv []) (LW ct lb lz []) (YW ct sa sy []) (XO x a sa h b d i lb xv []) (HWl ct h ha ((F_set (hz.1, hz.2.1, (upS hz.2.2 hz.1 y)) (((f_addR y rs (x1) (x2) (x3)).1))).2)) (R)).symm hP
  have hD : va_D A (YW ct a (f_addR y rs (x1) (x2) (x3)).2.1 (KR a b (f_addR y rs (x1) (x2) (x3)).2.2 (BW ct a d bz (IW ct i (xE g) iv (LW ct lb lz (YW ct sa sy (XO x a sa h b d i lb xv (HW ct h ha ((F_set (hz.1, hz.2.1, (upS hz.2.2 hz.1 y)) (((f_addR y rs (x1) (x2) (x3)).1))).2) R)))))))) := zDp (zF7 (YW ct a (f_addR y rs (x1) (x2) (x3)).2.1 []) (KR a b (f_addR y rs (x1) (x2) (x3)).2.2 []) (BW ct a d bz []) (IW ct i (xE g) iv []) (LW ct lb lz []) (YW ct sa sy []) (XO x a sa h b d i lb xv []) (HWl ct h ha ((F_set (hz.1, hz.2.1, (upS hz.2.2 hz.1 y)) (((f_addR y rs (x1) (x2) (x3)).1))).2)) (R)).symm hD
  exact zIret () hx hb hr hlocks hK hP hD hS dX10_road_28 (show ((F_set (hz.1, hz.2.1, (upS hz.2.2 hz.1 y)) (((f_addR y rs (x1) (x2) (x3)).1))).1) = (F_set (hz.1, hz.2.1, (upS hz.2.2 (hz.1) y)) ((f_addR y rs x1 x2 x3).1)).1 from rfl)
abbrev rmX10_load : Room := { frames := 3, cells := 0, slots := 0, locals := 82 }
theorem in_X10_load_X10 : ∀ w ∈ u_ws RX10 TX10 12, w ∈ wsX10_load := by decide +kernel
set_option maxHeartbeats 4000000 in
set_option maxRecDepth 100000 in
theorem kX10_load {D : va_G} {g : XG} {ct : Nat → ClassId} {l : Launch} (a : Nat → Nat) (y : YS) (b : Nat → Nat) (rs : RS) (d : Nat → Nat) (bz : BS) (i : Nat → Nat) (iv : IS) (lb : Nat → Nat) (lz : LST) (sa : Nat → Nat) (sy : YS) (x : Nat → Nat) (xv : Int32 × Int32) (h : Nat → Nat) (ha : Nat → Nat → Nat) (hz : HS) (R : va_W) (x1 : Int32) (x2 : Int32) (x3 : Int32) (hy : yI y) (hf : yF y) (hn8 : hz.1 ≤ 8) (hc8 : hz.2.1 ≤ 8) : MX D ct g l yX10_load wsX10_load rmX10_load (YW ct a y (KR a b rs (BW ct a d bz (IW ct i (xE g) iv (LW ct lb lz (YW ct sa sy (XO x a sa h b d i lb xv (HW ct h ha hz R)))))))) [.ref (x 0), .int (x1), .int (x2), .int (x3)] (QI D ct (fun r0 (_ : Unit) => r0 = (F_set (hz.1, hz.2.1, (upS hz.2.2 (hz.1) y)) ((f_put y rs x1 x2 x3).1)).1) (fun _ : Unit => YW ct a ((f_put y rs x1 x2 x3).2.1) (KR a b ((f_put y rs x1 x2 x3).2.2) (BW ct a d bz (IW ct i (xE g) iv (LW ct lb lz (YW ct sa sy (XO x a sa h b d i lb xv (HW ct h ha ((F_set (hz.1, hz.2.1, (upS hz.2.2 (hz.1) y)) ((f_put y rs x1 x2 x3).1)).2) R))))))))) := by
  refine MXof (cc := cX10_load) (maxL := 4) (ret := (some .int)) (by decide) rfl (Nat.le_of_ble_eq_true rfl) ?_
  intro p e s m args below meth c A H locs F hP hK hD hS hA hX ls hl
  obtain ⟨hx, hb, hr, hlocks, hml, hown, hts, hin⟩ := F
  have hl : lv_has ls 4 [(0, .ref (x 0)), (1, .int (x1)), (2, .int (x2)), (3, .int (x3))] := hl
  have hkd : ∀ j9, j9 < y_n y → y_kd y j9 = nI 0 ∨ y_kd y j9 = nI 1 := fun j9 hj9 => (hy.2.2.2.1 j9 hj9).1
  have hn : y_n y ≤ 12 := hy.1
  have hcn : y_cn y ≤ 4 := hy.2.1
  have hrn : y_rn y ≤ 5 := hy.2.2.1
  have h_X10 := in_X10_load_X10
  have f10 := hts (.fieldLink RX10 10 "CartArguments" "yard" "LCartArguments$Yard;") (by decide +kernel)
  have f26 := hts (.fieldLink RX10 26 "CartArguments" "history" "LCartArguments$History;") (by decide +kernel)
  have f51 := hts (.fieldLink RX10 51 "CartArguments" "works" "LCartArguments$Works;") (by decide +kernel)
  refine lv_aload_n hx hb dX10_load_0 rfl (lv_at hl 0 rfl) ?_
  refine va_get (ci := 9) (v := .ref (h 0)) hx hb hts h_X10 hown hK hP 38 rfl rfl 3 (by decide) f26 (fun _ h9 => h9) rfl dX10_load_1 ?_
  refine lv_aload_n hx hb dX10_load_4 rfl (lv_at hl 0 rfl) ?_
  refine va_get (ci := 9) (v := .ref (a 0)) hx hb hts h_X10 hown hK hP 38 rfl rfl 0 (by decide) f10 (fun _ h9 => h9) rfl dX10_load_5 ?_
  have hP : va_P D vwCl (YW ct a y (HW ct h ha hz (KR a b rs (BW ct a d bz (IW ct i (xE g) iv (LW ct lb lz (YW ct sa sy (XO x a sa h b d i lb xv R)))))))) H := zPp ((zF7 (YW ct a y []) (KR a b rs []) (BW ct a d bz []) (IW ct i (xE g) iv []) (LW ct lb lz []) (YW ct sa sy []) (XO x a sa h b d i lb xv []) (HWl ct h ha hz) (R)).trans (zMv1 (HWl ct h ha hz) (YW ct a y []) (KR a b rs (BW ct a d bz (IW ct i (xE g) iv (LW ct lb lz (YW ct sa sy (XO x a sa h b d i lb xv R)))))))) hP
  have hD : va_D A (YW ct a y (HW ct h ha hz (KR a b rs (BW ct a d bz (IW ct i (xE g) iv (LW ct lb lz (YW ct sa sy (XO x a sa h b d i lb xv R)))))))) := zDp ((zF7 (YW ct a y []) (KR a b rs []) (BW ct a d bz []) (IW ct i (xE g) iv []) (LW ct lb lz []) (YW ct sa sy []) (XO x a sa h b d i lb xv []) (HWl ct h ha hz) (R)).trans (zMv1 (HWl ct h ha hz) (YW ct a y []) (KR a b rs (BW ct a d bz (IW ct i (xE g) iv (LW ct lb lz (YW ct sa sy (XO x a sa h b d i lb xv R)))))))) hD
  refine zVV [.ref (a 0)] [] (kX3_begin (a) (y) (h) (ha) (hz) (KR a b rs (BW ct a d bz (IW ct i (xE g) iv (LW ct lb lz (YW ct sa sy (XO x a sa h b d i lb xv R)))))) (show hz.1 ≤ 8 from hn8)) hx hb hml hown hts (cwV 1 hts gX10_load_X3_begin rfl rfl rfl (by decide +kernel) ⟨(Nat.le_of_ble_eq_true rfl), (Nat.le_of_ble_eq_true rfl)⟩) hK hP hD hS hA (va_recv hK hP (ci := 2) (q0 := 12) rfl rfl) rfl hl.1 rfl (Nat.le_of_ble_eq_true rfl) dX10_load_8 ⟨(Nat.le_of_ble_eq_true rfl), (Nat.le_of_ble_eq_true rfl)⟩ (fun _ H locs hr_8 hP hD hS => ?_)
  have hP : va_P D vwCl (YW ct a y (HW ct h ha (hz.1, hz.2.1, (upS hz.2.2 hz.1 y)) (KR a b rs (BW ct a d bz (IW ct i (xE g) iv (LW ct lb lz (YW ct sa sy (XO x a sa h b d i lb xv R)))))))) H := hP
  have hD : va_D A (YW ct a y (HW ct h ha (hz.1, hz.2.1, (upS hz.2.2 hz.1 y)) (KR a b rs (BW ct a d bz (IW ct i (xE g) iv (LW ct lb lz (YW ct sa sy (XO x a sa h b d i lb xv R)))))))) := hD
  have hP : va_P D vwCl (YW ct a y (KR a b rs (BW ct a d bz (IW ct i (xE g) iv (LW ct lb lz (YW ct sa sy (XO x a sa h b d i lb xv (HW ct h ha (hz.1, hz.2.1, (upS hz.2.2 hz.1 y)) R)))))))) H := zPp ((zF7 (YW ct a y []) (KR a b rs []) (BW ct a d bz []) (IW ct i (xE g) iv []) (LW ct lb lz []) (YW ct sa sy []) (XO x a sa h b d i lb xv []) (HWl ct h ha (hz.1, hz.2.1, (upS hz.2.2 hz.1 y))) (R)).trans (zMv1 (HWl ct h ha (hz.1, hz.2.1, (upS hz.2.2 hz.1 y))) (YW ct a y []) (KR a b rs (BW ct a d bz (IW ct i (xE g) iv (LW ct lb lz (YW ct sa sy (XO x a sa h b d i lb xv R)))))))).symm hP
  have hD : va_D A (YW ct a y (KR a b rs (BW ct a d bz (IW ct i (xE g) iv (LW ct lb lz (YW ct sa sy (XO x a sa h b d i lb xv (HW ct h ha (hz.1, hz.2.1, (upS hz.2.2 hz.1 y)) R)))))))) := zDp ((zF7 (YW ct a y []) (KR a b rs []) (BW ct a d bz []) (IW ct i (xE g) iv []) (LW ct lb lz []) (YW ct sa sy []) (XO x a sa h b d i lb xv []) (HWl ct h ha (hz.1, hz.2.1, (upS hz.2.2 hz.1 y))) (R)).trans (zMv1 (HWl ct h ha (hz.1, hz.2.1, (upS hz.2.2 hz.1 y))) (YW ct a y []) (KR a b rs (BW ct a d bz (IW ct i (xE g) iv (LW ct lb lz (YW ct sa sy (XO x a sa h b d i lb xv R)))))))).symm hD
  refine lv_aload_n hx hb dX10_load_11 rfl (lv_at hl 0 rfl) ?_
  refine va_get (ci := 9) (v := .ref (h 0)) hx hb hts h_X10 hown hK hP 38 rfl rfl 3 (by decide) f26 (fun _ h9 => h9) rfl dX10_load_12 ?_
  refine lv_aload_n hx hb dX10_load_15 rfl (lv_at hl 0 rfl) ?_
  refine va_get (ci := 9) (v := .ref (b 2)) hx hb hts h_X10 hown hK hP 38 rfl rfl 6 (by decide) f51 (fun _ h9 => h9) rfl dX10_load_16 ?_
  refine lv_iload_n hx hb dX10_load_19 rfl (lv_at hl 1 rfl) ?_
  refine lv_iload_n hx hb dX10_load_20 rfl (lv_at hl 2 rfl) ?_
  refine lv_iload_n hx hb dX10_load_21 rfl (lv_at hl 3 rfl) ?_
  refine zVI [.int (x1), .int (x2), .int (x3)] [.ref (h 0)] (kX8_putOn (a) (y) (b) (rs) (BW ct a d bz (IW ct i (xE g) iv (LW ct lb lz (YW ct sa sy (XO x a sa h b d i lb xv (HW ct h ha (hz.1, hz.2.1, (upS hz.2.2 hz.1 y)) R)))))) (x1) (x2) (x3) (show y_n y ≤ 12 from by omega)) hx hb hml hown hts (cwV 3 hts gX10_load_X8_putOn rfl rfl rfl (by decide +kernel) ⟨(Nat.le_of_ble_eq_true rfl), (Nat.le_of_ble_eq_true rfl)⟩) hK hP hD hS hA (va_recv hK hP (ci := 7) (q0 := 14) rfl rfl) rfl hl.1 rfl (Nat.le_of_ble_eq_true rfl) dX10_load_22 ⟨(Nat.le_of_ble_eq_true rfl), (Nat.le_of_ble_eq_true rfl)⟩ (fun r_22 _ H locs hr_22 hP hD hS => ?_)
  subst hr_22
  have hP : va_P D vwCl (YW ct a (f_put y rs (x1) (x2) (x3)).2.1 (KR a b (f_put y rs (x1) (x2) (x3)).2.2 (BW ct a d bz (IW ct i (xE g) iv (LW ct lb lz (YW ct sa sy (XO x a sa h b d i lb xv (HW ct h ha (hz.1, hz.2.1, (upS hz.2.2 hz.1 y)) R)))))))) H := hP
  have hD : va_D A (YW ct a (f_put y rs (x1) (x2) (x3)).2.1 (KR a b (f_put y rs (x1) (x2) (x3)).2.2 (BW ct a d bz (IW ct i (xE g) iv (LW ct lb lz (YW ct sa sy (XO x a sa h b d i lb xv (HW ct h ha (hz.1, hz.2.1, (upS hz.2.2 hz.1 y)) R)))))))) := hD
  have hP : va_P D vwCl (HW ct h ha (hz.1, hz.2.1, (upS hz.2.2 hz.1 y)) (YW ct a (f_put y rs (x1) (x2) (x3)).2.1 (KR a b (f_put y rs (x1) (x2) (x3)).2.2 (BW ct a d bz (IW ct i (xE g) iv (LW ct lb lz (YW ct sa sy (XO x a sa h b d i lb xv R)))))))) H := zPp (zF7 (YW ct a (f_put y rs (x1) (x2) (x3)).2.1 []) (KR a b (f_put y rs (x1) (x2) (x3)).2.2 []) (BW ct a d bz []) (IW ct i (xE g) iv []) (LW ct lb lz []) (YW ct sa sy []) (XO x a sa h b d i lb xv []) (HWl ct h ha (hz.1, hz.2.1, (upS hz.2.2 hz.1 y))) (R)) hP
  have hD : va_D A (HW ct h ha (hz.1, hz.2.1, (upS hz.2.2 hz.1 y)) (YW ct a (f_put y rs (x1) (x2) (x3)).2.1 (KR a b (f_put y rs (x1) (x2) (x3)).2.2 (BW ct a d bz (IW ct i (xE g) iv (LW ct lb lz (YW ct sa sy (XO x a sa h b d i lb xv R)))))))) := zDp (zF7 (YW ct a (f_put y rs (x1) (x2) (x3)).2.1 []) (KR a b (f_put y rs (x1) (x2) (x3)).2.2 []) (BW ct a d bz []) (IW ct i (xE g) iv []) (LW ct lb lz []) (YW ct sa sy []) (XO x a sa h b d i lb xv []) (HWl ct h ha (hz.1, hz.2.1, (upS hz.2.2 hz.1 y))) (R)) hD
  refine zVI [.int (((f_put y rs (x1) (x2) (x3)).1))] [] (kX3_settle (h) (ha) ((hz.1, hz.2.1, (upS hz.2.2 hz.1 y))) (YW ct a (f_put y rs (x1) (x2) (x3)).2.1 (KR a b (f_put y rs (x1) (x2) (x3)).2.2 (BW ct a d bz (IW ct i (xE g) iv (LW ct lb lz (YW ct sa sy (XO x a sa h b d i lb xv R))))))) (((f_put y rs (x1) (x2) (x3)).1)) (show hz.1 ≤ 8 from hn8) (show hz.2.1 ≤ 8 from hc8)) hx hb hml hown hts (cwV 1 hts gX10_load_X3_settle rfl rfl rfl (by decide +kernel) ⟨(Nat.le_of_ble_eq_true rfl), (Nat.le_of_ble_eq_true rfl)⟩) hK hP hD hS hA (va_recv hK hP (ci := 2) (q0 := 0) rfl rfl) rfl hl.1 rfl (Nat.le_of_ble_eq_true rfl) dX10_load_25 ⟨(Nat.le_of_ble_eq_true rfl), (Nat.le_of_ble_eq_true rfl)⟩ (fun r_25 _ H locs hr_25 hP hD hS => ?_)
  subst hr_25
  have hP : va_P D vwCl (HW ct h ha ((F_set (hz.1, hz.2.1, (upS hz.2.2 hz.1 y)) (((f_put y rs (x1) (x2) (x3)).1))).2) (YW ct a (f_put y rs (x1) (x2) (x3)).2.1 (KR a b (f_put y rs (x1) (x2) (x3)).2.2 (BW ct a d bz (IW ct i (xE g) iv (LW ct lb lz (YW ct sa sy (XO x a sa h b d i lb xv R)))))))) H := hP
  have hD : va_D A (HW ct h ha ((F_set (hz.1, hz.2.1, (upS hz.2.2 hz.1 y)) (((f_put y rs (x1) (x2) (x3)).1))).2) (YW ct a (f_put y rs (x1) (x2) (x3)).2.1 (KR a b (f_put y rs (x1) (x2) (x3)).2.2 (BW ct a d bz (IW ct i (xE g) iv (LW ct lb lz (YW ct sa sy (XO x a sa h b d i lb xv R)))))))) := hD
  have hP : va_P D vwCl (YW ct a (f_put y rs (x1) (x2) (x3)).2.1 (KR a b (f_put y rs (x1) (x2) (x3)).2.2 (BW ct a d bz (IW ct i (xE g) iv (LW ct lb lz (YW ct sa sy (XO x a sa h b d i lb xv (HW ct h ha ((F_set (hz.1, hz.2.1, (upS hz.2.2 hz.1 y)) (((f_put y rs (x1) (x2) (x3)).1))).2) R)))))))) H := zPp (zF7 (YW ct a (f_put y rs (x1) (x2) (x3)).2.1 []) (KR a b (f_put y rs (x1) (x2) (x3)).2.2 []) (BW ct a d bz []) (IW ct i (xE g) iv []) (LW ct lb lz []) (YW ct sa sy []) (XO x a sa h b d i lb xv []) (HWl ct h ha ((F_set (hz.1, hz.2.1, (upS hz.2.2 hz.1 y)) (((f_put y rs (x1) (x2) (x3)).1))).2)) (R)).symm hP
  have hD : va_D A (YW ct a (f_put y rs (x1) (x2) (x3)).2.1 (KR a b (f_put y rs (x1) (x2) (x3)).2.2 (BW ct a d bz (IW ct i (xE g) iv (LW ct lb lz (YW ct sa sy (XO x a sa h b d i lb xv (HW ct h ha ((F_set (hz.1, hz.2.1, (upS hz.2.2 hz.1 y)) (((f_put y rs (x1) (x2) (x3)).1))).2) R)))))))) := zDp (zF7 (YW ct a (f_put y rs (x1) (x2) (x3)).2.1 []) (KR a b (f_put y rs (x1) (x2) (x3)).2.2 []) (BW ct a d bz []) (IW ct i (xE g) iv []) (LW ct lb lz []) (YW ct sa sy []) (XO x a sa h b d i lb xv []) (HWl ct h ha ((F_set (hz.1, hz.2.1, (upS hz.2.2 hz.1 y)) (((f_put y rs (x1) (x2) (x3)).1))).2)) (R)).symm hD
  exact zIret () hx hb hr hlocks hK hP hD hS dX10_load_28 (show ((F_set (hz.1, hz.2.1, (upS hz.2.2 hz.1 y)) (((f_put y rs (x1) (x2) (x3)).1))).1) = (F_set (hz.1, hz.2.1, (upS hz.2.2 (hz.1) y)) ((f_put y rs x1 x2 x3).1)).1 from rfl)
abbrev rmX10_unload : Room := { frames := 3, cells := 0, slots := 0, locals := 82 }
theorem in_X10_unload_X10 : ∀ w ∈ u_ws RX10 TX10 12, w ∈ wsX10_unload := by decide +kernel
set_option maxHeartbeats 4000000 in
set_option maxRecDepth 100000 in
theorem kX10_unload {D : va_G} {g : XG} {ct : Nat → ClassId} {l : Launch} (a : Nat → Nat) (y : YS) (b : Nat → Nat) (rs : RS) (d : Nat → Nat) (bz : BS) (i : Nat → Nat) (iv : IS) (lb : Nat → Nat) (lz : LST) (sa : Nat → Nat) (sy : YS) (x : Nat → Nat) (xv : Int32 × Int32) (h : Nat → Nat) (ha : Nat → Nat → Nat) (hz : HS) (R : va_W) (x1 : Int32) (hy : yI y) (hf : yF y) (hn8 : hz.1 ≤ 8) (hc8 : hz.2.1 ≤ 8) : MX D ct g l yX10_unload wsX10_unload rmX10_unload (YW ct a y (KR a b rs (BW ct a d bz (IW ct i (xE g) iv (LW ct lb lz (YW ct sa sy (XO x a sa h b d i lb xv (HW ct h ha hz R)))))))) [.ref (x 0), .int (x1)] (QI D ct (fun r0 (_ : Unit) => r0 = (F_set (hz.1, hz.2.1, (upS hz.2.2 (hz.1) y)) ((f_off y rs x1).1)).1) (fun _ : Unit => YW ct a ((f_off y rs x1).2.1) (KR a b ((f_off y rs x1).2.2) (BW ct a d bz (IW ct i (xE g) iv (LW ct lb lz (YW ct sa sy (XO x a sa h b d i lb xv (HW ct h ha ((F_set (hz.1, hz.2.1, (upS hz.2.2 (hz.1) y)) ((f_off y rs x1).1)).2) R))))))))) := by
  refine MXof (cc := cX10_unload) (maxL := 2) (ret := (some .int)) (by decide) rfl (Nat.le_of_ble_eq_true rfl) ?_
  intro p e s m args below meth c A H locs F hP hK hD hS hA hX ls hl
  obtain ⟨hx, hb, hr, hlocks, hml, hown, hts, hin⟩ := F
  have hl : lv_has ls 2 [(0, .ref (x 0)), (1, .int (x1))] := hl
  have hkd : ∀ j9, j9 < y_n y → y_kd y j9 = nI 0 ∨ y_kd y j9 = nI 1 := fun j9 hj9 => (hy.2.2.2.1 j9 hj9).1
  have hn : y_n y ≤ 12 := hy.1
  have hcn : y_cn y ≤ 4 := hy.2.1
  have hrn : y_rn y ≤ 5 := hy.2.2.1
  have h_X10 := in_X10_unload_X10
  have f10 := hts (.fieldLink RX10 10 "CartArguments" "yard" "LCartArguments$Yard;") (by decide +kernel)
  have f26 := hts (.fieldLink RX10 26 "CartArguments" "history" "LCartArguments$History;") (by decide +kernel)
  have f51 := hts (.fieldLink RX10 51 "CartArguments" "works" "LCartArguments$Works;") (by decide +kernel)
  refine lv_aload_n hx hb dX10_unload_0 rfl (lv_at hl 0 rfl) ?_
  refine va_get (ci := 9) (v := .ref (h 0)) hx hb hts h_X10 hown hK hP 38 rfl rfl 3 (by decide) f26 (fun _ h9 => h9) rfl dX10_unload_1 ?_
  refine lv_aload_n hx hb dX10_unload_4 rfl (lv_at hl 0 rfl) ?_
  refine va_get (ci := 9) (v := .ref (a 0)) hx hb hts h_X10 hown hK hP 38 rfl rfl 0 (by decide) f10 (fun _ h9 => h9) rfl dX10_unload_5 ?_
  have hP : va_P D vwCl (YW ct a y (HW ct h ha hz (KR a b rs (BW ct a d bz (IW ct i (xE g) iv (LW ct lb lz (YW ct sa sy (XO x a sa h b d i lb xv R)))))))) H := zPp ((zF7 (YW ct a y []) (KR a b rs []) (BW ct a d bz []) (IW ct i (xE g) iv []) (LW ct lb lz []) (YW ct sa sy []) (XO x a sa h b d i lb xv []) (HWl ct h ha hz) (R)).trans (zMv1 (HWl ct h ha hz) (YW ct a y []) (KR a b rs (BW ct a d bz (IW ct i (xE g) iv (LW ct lb lz (YW ct sa sy (XO x a sa h b d i lb xv R)))))))) hP
  have hD : va_D A (YW ct a y (HW ct h ha hz (KR a b rs (BW ct a d bz (IW ct i (xE g) iv (LW ct lb lz (YW ct sa sy (XO x a sa h b d i lb xv R)))))))) := zDp ((zF7 (YW ct a y []) (KR a b rs []) (BW ct a d bz []) (IW ct i (xE g) iv []) (LW ct lb lz []) (YW ct sa sy []) (XO x a sa h b d i lb xv []) (HWl ct h ha hz) (R)).trans (zMv1 (HWl ct h ha hz) (YW ct a y []) (KR a b rs (BW ct a d bz (IW ct i (xE g) iv (LW ct lb lz (YW ct sa sy (XO x a sa h b d i lb xv R)))))))) hD
  refine zVV [.ref (a 0)] [] (kX3_begin (a) (y) (h) (ha) (hz) (KR a b rs (BW ct a d bz (IW ct i (xE g) iv (LW ct lb lz (YW ct sa sy (XO x a sa h b d i lb xv R)))))) (show hz.1 ≤ 8 from hn8)) hx hb hml hown hts (cwV 1 hts gX10_unload_X3_begin rfl rfl rfl (by decide +kernel) ⟨(Nat.le_of_ble_eq_true rfl), (Nat.le_of_ble_eq_true rfl)⟩) hK hP hD hS hA (va_recv hK hP (ci := 2) (q0 := 12) rfl rfl) rfl hl.1 rfl (Nat.le_of_ble_eq_true rfl) dX10_unload_8 ⟨(Nat.le_of_ble_eq_true rfl), (Nat.le_of_ble_eq_true rfl)⟩ (fun _ H locs hr_8 hP hD hS => ?_)
  have hP : va_P D vwCl (YW ct a y (HW ct h ha (hz.1, hz.2.1, (upS hz.2.2 hz.1 y)) (KR a b rs (BW ct a d bz (IW ct i (xE g) iv (LW ct lb lz (YW ct sa sy (XO x a sa h b d i lb xv R)))))))) H := hP
  have hD : va_D A (YW ct a y (HW ct h ha (hz.1, hz.2.1, (upS hz.2.2 hz.1 y)) (KR a b rs (BW ct a d bz (IW ct i (xE g) iv (LW ct lb lz (YW ct sa sy (XO x a sa h b d i lb xv R)))))))) := hD
  have hP : va_P D vwCl (YW ct a y (KR a b rs (BW ct a d bz (IW ct i (xE g) iv (LW ct lb lz (YW ct sa sy (XO x a sa h b d i lb xv (HW ct h ha (hz.1, hz.2.1, (upS hz.2.2 hz.1 y)) R)))))))) H := zPp ((zF7 (YW ct a y []) (KR a b rs []) (BW ct a d bz []) (IW ct i (xE g) iv []) (LW ct lb lz []) (YW ct sa sy []) (XO x a sa h b d i lb xv []) (HWl ct h ha (hz.1, hz.2.1, (upS hz.2.2 hz.1 y))) (R)).trans (zMv1 (HWl ct h ha (hz.1, hz.2.1, (upS hz.2.2 hz.1 y))) (YW ct a y []) (KR a b rs (BW ct a d bz (IW ct i (xE g) iv (LW ct lb lz (YW ct sa sy (XO x a sa h b d i lb xv R)))))))).symm hP
  have hD : va_D A (YW ct a y (KR a b rs (BW ct a d bz (IW ct i (xE g) iv (LW ct lb lz (YW ct sa sy (XO x a sa h b d i lb xv (HW ct h ha (hz.1, hz.2.1, (upS hz.2.2 hz.1 y)) R)))))))) := zDp ((zF7 (YW ct a y []) (KR a b rs []) (BW ct a d bz []) (IW ct i (xE g) iv []) (LW ct lb lz []) (YW ct sa sy []) (XO x a sa h b d i lb xv []) (HWl ct h ha (hz.1, hz.2.1, (upS hz.2.2 hz.1 y))) (R)).trans (zMv1 (HWl ct h ha (hz.1, hz.2.1, (upS hz.2.2 hz.1 y))) (YW ct a y []) (KR a b rs (BW ct a d bz (IW ct i (xE g) iv (LW ct lb lz (YW ct sa sy (XO x a sa h b d i lb xv R)))))))).symm hD
  refine lv_aload_n hx hb dX10_unload_11 rfl (lv_at hl 0 rfl) ?_
  refine va_get (ci := 9) (v := .ref (h 0)) hx hb hts h_X10 hown hK hP 38 rfl rfl 3 (by decide) f26 (fun _ h9 => h9) rfl dX10_unload_12 ?_
  refine lv_aload_n hx hb dX10_unload_15 rfl (lv_at hl 0 rfl) ?_
  refine va_get (ci := 9) (v := .ref (b 2)) hx hb hts h_X10 hown hK hP 38 rfl rfl 6 (by decide) f51 (fun _ h9 => h9) rfl dX10_unload_16 ?_
  refine lv_iload_n hx hb dX10_unload_19 rfl (lv_at hl 1 rfl) ?_
  refine zVI [.int (x1)] [.ref (h 0)] (kX8_takeOff (a) (y) (b) (rs) (BW ct a d bz (IW ct i (xE g) iv (LW ct lb lz (YW ct sa sy (XO x a sa h b d i lb xv (HW ct h ha (hz.1, hz.2.1, (upS hz.2.2 hz.1 y)) R)))))) (x1) (show y_n y ≤ 12 from by omega)) hx hb hml hown hts (cwV 1 hts gX10_unload_X8_takeOff rfl rfl rfl (by decide +kernel) ⟨(Nat.le_of_ble_eq_true rfl), (Nat.le_of_ble_eq_true rfl)⟩) hK hP hD hS hA (va_recv hK hP (ci := 7) (q0 := 14) rfl rfl) rfl hl.1 rfl (Nat.le_of_ble_eq_true rfl) dX10_unload_20 ⟨(Nat.le_of_ble_eq_true rfl), (Nat.le_of_ble_eq_true rfl)⟩ (fun r_20 _ H locs hr_20 hP hD hS => ?_)
  subst hr_20
  have hP : va_P D vwCl (YW ct a (f_off y rs (x1)).2.1 (KR a b (f_off y rs (x1)).2.2 (BW ct a d bz (IW ct i (xE g) iv (LW ct lb lz (YW ct sa sy (XO x a sa h b d i lb xv (HW ct h ha (hz.1, hz.2.1, (upS hz.2.2 hz.1 y)) R)))))))) H := hP
  have hD : va_D A (YW ct a (f_off y rs (x1)).2.1 (KR a b (f_off y rs (x1)).2.2 (BW ct a d bz (IW ct i (xE g) iv (LW ct lb lz (YW ct sa sy (XO x a sa h b d i lb xv (HW ct h ha (hz.1, hz.2.1, (upS hz.2.2 hz.1 y)) R)))))))) := hD
  have hP : va_P D vwCl (HW ct h ha (hz.1, hz.2.1, (upS hz.2.2 hz.1 y)) (YW ct a (f_off y rs (x1)).2.1 (KR a b (f_off y rs (x1)).2.2 (BW ct a d bz (IW ct i (xE g) iv (LW ct lb lz (YW ct sa sy (XO x a sa h b d i lb xv R)))))))) H := zPp (zF7 (YW ct a (f_off y rs (x1)).2.1 []) (KR a b (f_off y rs (x1)).2.2 []) (BW ct a d bz []) (IW ct i (xE g) iv []) (LW ct lb lz []) (YW ct sa sy []) (XO x a sa h b d i lb xv []) (HWl ct h ha (hz.1, hz.2.1, (upS hz.2.2 hz.1 y))) (R)) hP
  have hD : va_D A (HW ct h ha (hz.1, hz.2.1, (upS hz.2.2 hz.1 y)) (YW ct a (f_off y rs (x1)).2.1 (KR a b (f_off y rs (x1)).2.2 (BW ct a d bz (IW ct i (xE g) iv (LW ct lb lz (YW ct sa sy (XO x a sa h b d i lb xv R)))))))) := zDp (zF7 (YW ct a (f_off y rs (x1)).2.1 []) (KR a b (f_off y rs (x1)).2.2 []) (BW ct a d bz []) (IW ct i (xE g) iv []) (LW ct lb lz []) (YW ct sa sy []) (XO x a sa h b d i lb xv []) (HWl ct h ha (hz.1, hz.2.1, (upS hz.2.2 hz.1 y))) (R)) hD
  refine zVI [.int (((f_off y rs (x1)).1))] [] (kX3_settle (h) (ha) ((hz.1, hz.2.1, (upS hz.2.2 hz.1 y))) (YW ct a (f_off y rs (x1)).2.1 (KR a b (f_off y rs (x1)).2.2 (BW ct a d bz (IW ct i (xE g) iv (LW ct lb lz (YW ct sa sy (XO x a sa h b d i lb xv R))))))) (((f_off y rs (x1)).1)) (show hz.1 ≤ 8 from hn8) (show hz.2.1 ≤ 8 from hc8)) hx hb hml hown hts (cwV 1 hts gX10_unload_X3_settle rfl rfl rfl (by decide +kernel) ⟨(Nat.le_of_ble_eq_true rfl), (Nat.le_of_ble_eq_true rfl)⟩) hK hP hD hS hA (va_recv hK hP (ci := 2) (q0 := 0) rfl rfl) rfl hl.1 rfl (Nat.le_of_ble_eq_true rfl) dX10_unload_23 ⟨(Nat.le_of_ble_eq_true rfl), (Nat.le_of_ble_eq_true rfl)⟩ (fun r_23 _ H locs hr_23 hP hD hS => ?_)
  subst hr_23
  have hP : va_P D vwCl (HW ct h ha ((F_set (hz.1, hz.2.1, (upS hz.2.2 hz.1 y)) (((f_off y rs (x1)).1))).2) (YW ct a (f_off y rs (x1)).2.1 (KR a b (f_off y rs (x1)).2.2 (BW ct a d bz (IW ct i (xE g) iv (LW ct lb lz (YW ct sa sy (XO x a sa h b d i lb xv R)))))))) H := hP
  have hD : va_D A (HW ct h ha ((F_set (hz.1, hz.2.1, (upS hz.2.2 hz.1 y)) (((f_off y rs (x1)).1))).2) (YW ct a (f_off y rs (x1)).2.1 (KR a b (f_off y rs (x1)).2.2 (BW ct a d bz (IW ct i (xE g) iv (LW ct lb lz (YW ct sa sy (XO x a sa h b d i lb xv R)))))))) := hD
  have hP : va_P D vwCl (YW ct a (f_off y rs (x1)).2.1 (KR a b (f_off y rs (x1)).2.2 (BW ct a d bz (IW ct i (xE g) iv (LW ct lb lz (YW ct sa sy (XO x a sa h b d i lb xv (HW ct h ha ((F_set (hz.1, hz.2.1, (upS hz.2.2 hz.1 y)) (((f_off y rs (x1)).1))).2) R)))))))) H := zPp (zF7 (YW ct a (f_off y rs (x1)).2.1 []) (KR a b (f_off y rs (x1)).2.2 []) (BW ct a d bz []) (IW ct i (xE g) iv []) (LW ct lb lz []) (YW ct sa sy []) (XO x a sa h b d i lb xv []) (HWl ct h ha ((F_set (hz.1, hz.2.1, (upS hz.2.2 hz.1 y)) (((f_off y rs (x1)).1))).2)) (R)).symm hP
  have hD : va_D A (YW ct a (f_off y rs (x1)).2.1 (KR a b (f_off y rs (x1)).2.2 (BW ct a d bz (IW ct i (xE g) iv (LW ct lb lz (YW ct sa sy (XO x a sa h b d i lb xv (HW ct h ha ((F_set (hz.1, hz.2.1, (upS hz.2.2 hz.1 y)) (((f_off y rs (x1)).1))).2) R)))))))) := zDp (zF7 (YW ct a (f_off y rs (x1)).2.1 []) (KR a b (f_off y rs (x1)).2.2 []) (BW ct a d bz []) (IW ct i (xE g) iv []) (LW ct lb lz []) (YW ct sa sy []) (XO x a sa h b d i lb xv []) (HWl ct h ha ((F_set (hz.1, hz.2.1, (upS hz.2.2 hz.1 y)) (((f_off y rs (x1)).1))).2)) (R)).symm hD
  exact zIret () hx hb hr hlocks hK hP hD hS dX10_unload_26 (show ((F_set (hz.1, hz.2.1, (upS hz.2.2 hz.1 y)) (((f_off y rs (x1)).1))).1) = (F_set (hz.1, hz.2.1, (upS hz.2.2 (hz.1) y)) ((f_off y rs x1).1)).1 from rfl)
abbrev rmX10_swap : Room := { frames := 3, cells := 0, slots := 0, locals := 82 }
theorem in_X10_swap_X10 : ∀ w ∈ u_ws RX10 TX10 12, w ∈ wsX10_swap := by decide +kernel
set_option maxHeartbeats 4000000 in
set_option maxRecDepth 100000 in
theorem kX10_swap {D : va_G} {g : XG} {ct : Nat → ClassId} {l : Launch} (a : Nat → Nat) (y : YS) (b : Nat → Nat) (rs : RS) (d : Nat → Nat) (bz : BS) (i : Nat → Nat) (iv : IS) (lb : Nat → Nat) (lz : LST) (sa : Nat → Nat) (sy : YS) (x : Nat → Nat) (xv : Int32 × Int32) (h : Nat → Nat) (ha : Nat → Nat → Nat) (hz : HS) (R : va_W) (x1 : Int32) (x2 : Int32) (x3 : Int32) (hy : yI y) (hf : yF y) (hn8 : hz.1 ≤ 8) (hc8 : hz.2.1 ≤ 8) : MX D ct g l yX10_swap wsX10_swap rmX10_swap (YW ct a y (KR a b rs (BW ct a d bz (IW ct i (xE g) iv (LW ct lb lz (YW ct sa sy (XO x a sa h b d i lb xv (HW ct h ha hz R)))))))) [.ref (x 0), .int (x1), .int (x2), .int (x3)] (QI D ct (fun r0 (_ : Unit) => r0 = (F_set (hz.1, hz.2.1, (upS hz.2.2 (hz.1) y)) ((f_swap y rs x1 x2 x3).1)).1) (fun _ : Unit => YW ct a ((f_swap y rs x1 x2 x3).2.1) (KR a b ((f_swap y rs x1 x2 x3).2.2) (BW ct a d bz (IW ct i (xE g) iv (LW ct lb lz (YW ct sa sy (XO x a sa h b d i lb xv (HW ct h ha ((F_set (hz.1, hz.2.1, (upS hz.2.2 (hz.1) y)) ((f_swap y rs x1 x2 x3).1)).2) R))))))))) := by
  refine MXof (cc := cX10_swap) (maxL := 4) (ret := (some .int)) (by decide) rfl (Nat.le_of_ble_eq_true rfl) ?_
  intro p e s m args below meth c A H locs F hP hK hD hS hA hX ls hl
  obtain ⟨hx, hb, hr, hlocks, hml, hown, hts, hin⟩ := F
  have hl : lv_has ls 4 [(0, .ref (x 0)), (1, .int (x1)), (2, .int (x2)), (3, .int (x3))] := hl
  have hkd : ∀ j9, j9 < y_n y → y_kd y j9 = nI 0 ∨ y_kd y j9 = nI 1 := fun j9 hj9 => (hy.2.2.2.1 j9 hj9).1
  have hn : y_n y ≤ 12 := hy.1
  have hcn : y_cn y ≤ 4 := hy.2.1
  have hrn : y_rn y ≤ 5 := hy.2.2.1
  have h_X10 := in_X10_swap_X10
  have f10 := hts (.fieldLink RX10 10 "CartArguments" "yard" "LCartArguments$Yard;") (by decide +kernel)
  have f26 := hts (.fieldLink RX10 26 "CartArguments" "history" "LCartArguments$History;") (by decide +kernel)
  have f51 := hts (.fieldLink RX10 51 "CartArguments" "works" "LCartArguments$Works;") (by decide +kernel)
  refine lv_aload_n hx hb dX10_swap_0 rfl (lv_at hl 0 rfl) ?_
  refine va_get (ci := 9) (v := .ref (h 0)) hx hb hts h_X10 hown hK hP 38 rfl rfl 3 (by decide) f26 (fun _ h9 => h9) rfl dX10_swap_1 ?_
  refine lv_aload_n hx hb dX10_swap_4 rfl (lv_at hl 0 rfl) ?_
  refine va_get (ci := 9) (v := .ref (a 0)) hx hb hts h_X10 hown hK hP 38 rfl rfl 0 (by decide) f10 (fun _ h9 => h9) rfl dX10_swap_5 ?_
  have hP : va_P D vwCl (YW ct a y (HW ct h ha hz (KR a b rs (BW ct a d bz (IW ct i (xE g) iv (LW ct lb lz (YW ct sa sy (XO x a sa h b d i lb xv R)))))))) H := zPp ((zF7 (YW ct a y []) (KR a b rs []) (BW ct a d bz []) (IW ct i (xE g) iv []) (LW ct lb lz []) (YW ct sa sy []) (XO x a sa h b d i lb xv []) (HWl ct h ha hz) (R)).trans (zMv1 (HWl ct h ha hz) (YW ct a y []) (KR a b rs (BW ct a d bz (IW ct i (xE g) iv (LW ct lb lz (YW ct sa sy (XO x a sa h b d i lb xv R)))))))) hP
  have hD : va_D A (YW ct a y (HW ct h ha hz (KR a b rs (BW ct a d bz (IW ct i (xE g) iv (LW ct lb lz (YW ct sa sy (XO x a sa h b d i lb xv R)))))))) := zDp ((zF7 (YW ct a y []) (KR a b rs []) (BW ct a d bz []) (IW ct i (xE g) iv []) (LW ct lb lz []) (YW ct sa sy []) (XO x a sa h b d i lb xv []) (HWl ct h ha hz) (R)).trans (zMv1 (HWl ct h ha hz) (YW ct a y []) (KR a b rs (BW ct a d bz (IW ct i (xE g) iv (LW ct lb lz (YW ct sa sy (XO x a sa h b d i lb xv R)))))))) hD
  refine zVV [.ref (a 0)] [] (kX3_begin (a) (y) (h) (ha) (hz) (KR a b rs (BW ct a d bz (IW ct i (xE g) iv (LW ct lb lz (YW ct sa sy (XO x a sa h b d i lb xv R)))))) (show hz.1 ≤ 8 from hn8)) hx hb hml hown hts (cwV 1 hts gX10_swap_X3_begin rfl rfl rfl (by decide +kernel) ⟨(Nat.le_of_ble_eq_true rfl), (Nat.le_of_ble_eq_true rfl)⟩) hK hP hD hS hA (va_recv hK hP (ci := 2) (q0 := 12) rfl rfl) rfl hl.1 rfl (Nat.le_of_ble_eq_true rfl) dX10_swap_8 ⟨(Nat.le_of_ble_eq_true rfl), (Nat.le_of_ble_eq_true rfl)⟩ (fun _ H locs hr_8 hP hD hS => ?_)
  have hP : va_P D vwCl (YW ct a y (HW ct h ha (hz.1, hz.2.1, (upS hz.2.2 hz.1 y)) (KR a b rs (BW ct a d bz (IW ct i (xE g) iv (LW ct lb lz (YW ct sa sy (XO x a sa h b d i lb xv R)))))))) H := hP
  have hD : va_D A (YW ct a y (HW ct h ha (hz.1, hz.2.1, (upS hz.2.2 hz.1 y)) (KR a b rs (BW ct a d bz (IW ct i (xE g) iv (LW ct lb lz (YW ct sa sy (XO x a sa h b d i lb xv R)))))))) := hD
  have hP : va_P D vwCl (YW ct a y (KR a b rs (BW ct a d bz (IW ct i (xE g) iv (LW ct lb lz (YW ct sa sy (XO x a sa h b d i lb xv (HW ct h ha (hz.1, hz.2.1, (upS hz.2.2 hz.1 y)) R)))))))) H := zPp ((zF7 (YW ct a y []) (KR a b rs []) (BW ct a d bz []) (IW ct i (xE g) iv []) (LW ct lb lz []) (YW ct sa sy []) (XO x a sa h b d i lb xv []) (HWl ct h ha (hz.1, hz.2.1, (upS hz.2.2 hz.1 y))) (R)).trans (zMv1 (HWl ct h ha (hz.1, hz.2.1, (upS hz.2.2 hz.1 y))) (YW ct a y []) (KR a b rs (BW ct a d bz (IW ct i (xE g) iv (LW ct lb lz (YW ct sa sy (XO x a sa h b d i lb xv R)))))))).symm hP
  have hD : va_D A (YW ct a y (KR a b rs (BW ct a d bz (IW ct i (xE g) iv (LW ct lb lz (YW ct sa sy (XO x a sa h b d i lb xv (HW ct h ha (hz.1, hz.2.1, (upS hz.2.2 hz.1 y)) R)))))))) := zDp ((zF7 (YW ct a y []) (KR a b rs []) (BW ct a d bz []) (IW ct i (xE g) iv []) (LW ct lb lz []) (YW ct sa sy []) (XO x a sa h b d i lb xv []) (HWl ct h ha (hz.1, hz.2.1, (upS hz.2.2 hz.1 y))) (R)).trans (zMv1 (HWl ct h ha (hz.1, hz.2.1, (upS hz.2.2 hz.1 y))) (YW ct a y []) (KR a b rs (BW ct a d bz (IW ct i (xE g) iv (LW ct lb lz (YW ct sa sy (XO x a sa h b d i lb xv R)))))))).symm hD
  refine lv_aload_n hx hb dX10_swap_11 rfl (lv_at hl 0 rfl) ?_
  refine va_get (ci := 9) (v := .ref (h 0)) hx hb hts h_X10 hown hK hP 38 rfl rfl 3 (by decide) f26 (fun _ h9 => h9) rfl dX10_swap_12 ?_
  refine lv_aload_n hx hb dX10_swap_15 rfl (lv_at hl 0 rfl) ?_
  refine va_get (ci := 9) (v := .ref (b 2)) hx hb hts h_X10 hown hK hP 38 rfl rfl 6 (by decide) f51 (fun _ h9 => h9) rfl dX10_swap_16 ?_
  refine lv_iload_n hx hb dX10_swap_19 rfl (lv_at hl 1 rfl) ?_
  refine lv_iload_n hx hb dX10_swap_20 rfl (lv_at hl 2 rfl) ?_
  refine lv_iload_n hx hb dX10_swap_21 rfl (lv_at hl 3 rfl) ?_
  refine zVI [.int (x1), .int (x2), .int (x3)] [.ref (h 0)] (kX8_exchange (a) (y) (b) (rs) (BW ct a d bz (IW ct i (xE g) iv (LW ct lb lz (YW ct sa sy (XO x a sa h b d i lb xv (HW ct h ha (hz.1, hz.2.1, (upS hz.2.2 hz.1 y)) R)))))) (x1) (x2) (x3) (show y_n y ≤ 12 from by omega) (show ∀ j9, j9 < y_n y → y_kd y j9 = nI 0 ∨ y_kd y j9 = nI 1 from hkd)) hx hb hml hown hts (cwV 3 hts gX10_swap_X8_exchange rfl rfl rfl (by decide +kernel) ⟨(Nat.le_of_ble_eq_true rfl), (Nat.le_of_ble_eq_true rfl)⟩) hK hP hD hS hA (va_recv hK hP (ci := 7) (q0 := 14) rfl rfl) rfl hl.1 rfl (Nat.le_of_ble_eq_true rfl) dX10_swap_22 ⟨(Nat.le_of_ble_eq_true rfl), (Nat.le_of_ble_eq_true rfl)⟩ (fun r_22 _ H locs hr_22 hP hD hS => ?_)
  subst hr_22
  have hP : va_P D vwCl (YW ct a (f_swap y rs (x1) (x2) (x3)).2.1 (KR a b (f_swap y rs (x1) (x2) (x3)).2.2 (BW ct a d bz (IW ct i (xE g) iv (LW ct lb lz (YW ct sa sy (XO x a sa h b d i lb xv (HW ct h ha (hz.1, hz.2.1, (upS hz.2.2 hz.1 y)) R)))))))) H := hP
  have hD : va_D A (YW ct a (f_swap y rs (x1) (x2) (x3)).2.1 (KR a b (f_swap y rs (x1) (x2) (x3)).2.2 (BW ct a d bz (IW ct i (xE g) iv (LW ct lb lz (YW ct sa sy (XO x a sa h b d i lb xv (HW ct h ha (hz.1, hz.2.1, (upS hz.2.2 hz.1 y)) R)))))))) := hD
  have hP : va_P D vwCl (HW ct h ha (hz.1, hz.2.1, (upS hz.2.2 hz.1 y)) (YW ct a (f_swap y rs (x1) (x2) (x3)).2.1 (KR a b (f_swap y rs (x1) (x2) (x3)).2.2 (BW ct a d bz (IW ct i (xE g) iv (LW ct lb lz (YW ct sa sy (XO x a sa h b d i lb xv R)))))))) H := zPp (zF7 (YW ct a (f_swap y rs (x1) (x2) (x3)).2.1 []) (KR a b (f_swap y rs (x1) (x2) (x3)).2.2 []) (BW ct a d bz []) (IW ct i (xE g) iv []) (LW ct lb lz []) (YW ct sa sy []) (XO x a sa h b d i lb xv []) (HWl ct h ha (hz.1, hz.2.1, (upS hz.2.2 hz.1 y))) (R)) hP
  have hD : va_D A (HW ct h ha (hz.1, hz.2.1, (upS hz.2.2 hz.1 y)) (YW ct a (f_swap y rs (x1) (x2) (x3)).2.1 (KR a b (f_swap y rs (x1) (x2) (x3)).2.2 (BW ct a d bz (IW ct i (xE g) iv (LW ct lb lz (YW ct sa sy (XO x a sa h b d i lb xv R)))))))) := zDp (zF7 (YW ct a (f_swap y rs (x1) (x2) (x3)).2.1 []) (KR a b (f_swap y rs (x1) (x2) (x3)).2.2 []) (BW ct a d bz []) (IW ct i (xE g) iv []) (LW ct lb lz []) (YW ct sa sy []) (XO x a sa h b d i lb xv []) (HWl ct h ha (hz.1, hz.2.1, (upS hz.2.2 hz.1 y))) (R)) hD
  refine zVI [.int (((f_swap y rs (x1) (x2) (x3)).1))] [] (kX3_settle (h) (ha) ((hz.1, hz.2.1, (upS hz.2.2 hz.1 y))) (YW ct a (f_swap y rs (x1) (x2) (x3)).2.1 (KR a b (f_swap y rs (x1) (x2) (x3)).2.2 (BW ct a d bz (IW ct i (xE g) iv (LW ct lb lz (YW ct sa sy (XO x a sa h b d i lb xv R))))))) (((f_swap y rs (x1) (x2) (x3)).1)) (show hz.1 ≤ 8 from hn8) (show hz.2.1 ≤ 8 from hc8)) hx hb hml hown hts (cwV 1 hts gX10_swap_X3_settle rfl rfl rfl (by decide +kernel) ⟨(Nat.le_of_ble_eq_true rfl), (Nat.le_of_ble_eq_true rfl)⟩) hK hP hD hS hA (va_recv hK hP (ci := 2) (q0 := 0) rfl rfl) rfl hl.1 rfl (Nat.le_of_ble_eq_true rfl) dX10_swap_25 ⟨(Nat.le_of_ble_eq_true rfl), (Nat.le_of_ble_eq_true rfl)⟩ (fun r_25 _ H locs hr_25 hP hD hS => ?_)
  subst hr_25
  have hP : va_P D vwCl (HW ct h ha ((F_set (hz.1, hz.2.1, (upS hz.2.2 hz.1 y)) (((f_swap y rs (x1) (x2) (x3)).1))).2) (YW ct a (f_swap y rs (x1) (x2) (x3)).2.1 (KR a b (f_swap y rs (x1) (x2) (x3)).2.2 (BW ct a d bz (IW ct i (xE g) iv (LW ct lb lz (YW ct sa sy (XO x a sa h b d i lb xv R)))))))) H := hP
  have hD : va_D A (HW ct h ha ((F_set (hz.1, hz.2.1, (upS hz.2.2 hz.1 y)) (((f_swap y rs (x1) (x2) (x3)).1))).2) (YW ct a (f_swap y rs (x1) (x2) (x3)).2.1 (KR a b (f_swap y rs (x1) (x2) (x3)).2.2 (BW ct a d bz (IW ct i (xE g) iv (LW ct lb lz (YW ct sa sy (XO x a sa h b d i lb xv R)))))))) := hD
  have hP : va_P D vwCl (YW ct a (f_swap y rs (x1) (x2) (x3)).2.1 (KR a b (f_swap y rs (x1) (x2) (x3)).2.2 (BW ct a d bz (IW ct i (xE g) iv (LW ct lb lz (YW ct sa sy (XO x a sa h b d i lb xv (HW ct h ha ((F_set (hz.1, hz.2.1, (upS hz.2.2 hz.1 y)) (((f_swap y rs (x1) (x2) (x3)).1))).2) R)))))))) H := zPp (zF7 (YW ct a (f_swap y rs (x1) (x2) (x3)).2.1 []) (KR a b (f_swap y rs (x1) (x2) (x3)).2.2 []) (BW ct a d bz []) (IW ct i (xE g) iv []) (LW ct lb lz []) (YW ct sa sy []) (XO x a sa h b d i lb xv []) (HWl ct h ha ((F_set (hz.1, hz.2.1, (upS hz.2.2 hz.1 y)) (((f_swap y rs (x1) (x2) (x3)).1))).2)) (R)).symm hP
  have hD : va_D A (YW ct a (f_swap y rs (x1) (x2) (x3)).2.1 (KR a b (f_swap y rs (x1) (x2) (x3)).2.2 (BW ct a d bz (IW ct i (xE g) iv (LW ct lb lz (YW ct sa sy (XO x a sa h b d i lb xv (HW ct h ha ((F_set (hz.1, hz.2.1, (upS hz.2.2 hz.1 y)) (((f_swap y rs (x1) (x2) (x3)).1))).2) R)))))))) := zDp (zF7 (YW ct a (f_swap y rs (x1) (x2) (x3)).2.1 []) (KR a b (f_swap y rs (x1) (x2) (x3)).2.2 []) (BW ct a d bz []) (IW ct i (xE g) iv []) (LW ct lb lz []) (YW ct sa sy []) (XO x a sa h b d i lb xv []) (HWl ct h ha ((F_set (hz.1, hz.2.1, (upS hz.2.2 hz.1 y)) (((f_swap y rs (x1) (x2) (x3)).1))).2)) (R)).symm hD
  exact zIret () hx hb hr hlocks hK hP hD hS dX10_swap_28 (show ((F_set (hz.1, hz.2.1, (upS hz.2.2 hz.1 y)) (((f_swap y rs (x1) (x2) (x3)).1))).1) = (F_set (hz.1, hz.2.1, (upS hz.2.2 (hz.1) y)) ((f_swap y rs x1 x2 x3).1)).1 from rfl)
abbrev rmX10_trip : Room := { frames := 5, cells := 0, slots := 0, locals := 108 }
theorem in_X10_trip_X10 : ∀ w ∈ u_ws RX10 TX10 12, w ∈ wsX10_trip := by decide +kernel
set_option maxHeartbeats 4000000 in
set_option maxRecDepth 100000 in
theorem kX10_trip {D : va_G} {g : XG} {ct : Nat → ClassId} {l : Launch} (a : Nat → Nat) (y : YS) (b : Nat → Nat) (rs : RS) (d : Nat → Nat) (bz : BS) (i : Nat → Nat) (iv : IS) (lb : Nat → Nat) (lz : LST) (sa : Nat → Nat) (sy : YS) (x : Nat → Nat) (xv : Int32 × Int32) (h : Nat → Nat) (ha : Nat → Nat → Nat) (hz : HS) (R : va_W) (x1 : Int32) (x2 : Int32) (hy : yI y) (hf : yF y) (hn8 : hz.1 ≤ 8) (hc8 : hz.2.1 ≤ 8) : MX D ct g l yX10_trip wsX10_trip rmX10_trip (YW ct a y (KR a b rs (BW ct a d bz (IW ct i (xE g) iv (LW ct lb lz (YW ct sa sy (XO x a sa h b d i lb xv (HW ct h ha hz R)))))))) [.ref (x 0), .int (x1), .int (x2)] (QI D ct (fun r0 (_ : Unit) => r0 = (F_set (hz.1, hz.2.1, (upS hz.2.2 (hz.1) y)) ((f_go y rs x1 x2).1)).1) (fun _ : Unit => YW ct a ((f_go y rs x1 x2).2.1) (KR a b ((f_go y rs x1 x2).2.2) (BW ct a d bz (IW ct i (xE g) iv (LW ct lb lz (YW ct sa sy (XO x a sa h b d i lb xv (HW ct h ha ((F_set (hz.1, hz.2.1, (upS hz.2.2 (hz.1) y)) ((f_go y rs x1 x2).1)).2) R))))))))) := by
  refine MXof (cc := cX10_trip) (maxL := 3) (ret := (some .int)) (by decide) rfl (Nat.le_of_ble_eq_true rfl) ?_
  intro p e s m args below meth c A H locs F hP hK hD hS hA hX ls hl
  obtain ⟨hx, hb, hr, hlocks, hml, hown, hts, hin⟩ := F
  have hl : lv_has ls 3 [(0, .ref (x 0)), (1, .int (x1)), (2, .int (x2))] := hl
  have hkd : ∀ j9, j9 < y_n y → y_kd y j9 = nI 0 ∨ y_kd y j9 = nI 1 := fun j9 hj9 => (hy.2.2.2.1 j9 hj9).1
  have hn : y_n y ≤ 12 := hy.1
  have hcn : y_cn y ≤ 4 := hy.2.1
  have hrn : y_rn y ≤ 5 := hy.2.2.1
  have h_X10 := in_X10_trip_X10
  have f10 := hts (.fieldLink RX10 10 "CartArguments" "yard" "LCartArguments$Yard;") (by decide +kernel)
  have f26 := hts (.fieldLink RX10 26 "CartArguments" "history" "LCartArguments$History;") (by decide +kernel)
  have f51 := hts (.fieldLink RX10 51 "CartArguments" "works" "LCartArguments$Works;") (by decide +kernel)
  refine lv_aload_n hx hb dX10_trip_0 rfl (lv_at hl 0 rfl) ?_
  refine va_get (ci := 9) (v := .ref (h 0)) hx hb hts h_X10 hown hK hP 38 rfl rfl 3 (by decide) f26 (fun _ h9 => h9) rfl dX10_trip_1 ?_
  refine lv_aload_n hx hb dX10_trip_4 rfl (lv_at hl 0 rfl) ?_
  refine va_get (ci := 9) (v := .ref (a 0)) hx hb hts h_X10 hown hK hP 38 rfl rfl 0 (by decide) f10 (fun _ h9 => h9) rfl dX10_trip_5 ?_
  have hP : va_P D vwCl (YW ct a y (HW ct h ha hz (KR a b rs (BW ct a d bz (IW ct i (xE g) iv (LW ct lb lz (YW ct sa sy (XO x a sa h b d i lb xv R)))))))) H := zPp ((zF7 (YW ct a y []) (KR a b rs []) (BW ct a d bz []) (IW ct i (xE g) iv []) (LW ct lb lz []) (YW ct sa sy []) (XO x a sa h b d i lb xv []) (HWl ct h ha hz) (R)).trans (zMv1 (HWl ct h ha hz) (YW ct a y []) (KR a b rs (BW ct a d bz (IW ct i (xE g) iv (LW ct lb lz (YW ct sa sy (XO x a sa h b d i lb xv R)))))))) hP
  have hD : va_D A (YW ct a y (HW ct h ha hz (KR a b rs (BW ct a d bz (IW ct i (xE g) iv (LW ct lb lz (YW ct sa sy (XO x a sa h b d i lb xv R)))))))) := zDp ((zF7 (YW ct a y []) (KR a b rs []) (BW ct a d bz []) (IW ct i (xE g) iv []) (LW ct lb lz []) (YW ct sa sy []) (XO x a sa h b d i lb xv []) (HWl ct h ha hz) (R)).trans (zMv1 (HWl ct h ha hz) (YW ct a y []) (KR a b rs (BW ct a d bz (IW ct i (xE g) iv (LW ct lb lz (YW ct sa sy (XO x a sa h b d i lb xv R)))))))) hD
  refine zVV [.ref (a 0)] [] (kX3_begin (a) (y) (h) (ha) (hz) (KR a b rs (BW ct a d bz (IW ct i (xE g) iv (LW ct lb lz (YW ct sa sy (XO x a sa h b d i lb xv R)))))) (show hz.1 ≤ 8 from hn8)) hx hb hml hown hts (cwV 1 hts gX10_trip_X3_begin rfl rfl rfl (by decide +kernel) ⟨(Nat.le_of_ble_eq_true rfl), (Nat.le_of_ble_eq_true rfl)⟩) hK hP hD hS hA (va_recv hK hP (ci := 2) (q0 := 12) rfl rfl) rfl hl.1 rfl (Nat.le_of_ble_eq_true rfl) dX10_trip_8 ⟨(Nat.le_of_ble_eq_true rfl), (Nat.le_of_ble_eq_true rfl)⟩ (fun _ H locs hr_8 hP hD hS => ?_)
  have hP : va_P D vwCl (YW ct a y (HW ct h ha (hz.1, hz.2.1, (upS hz.2.2 hz.1 y)) (KR a b rs (BW ct a d bz (IW ct i (xE g) iv (LW ct lb lz (YW ct sa sy (XO x a sa h b d i lb xv R)))))))) H := hP
  have hD : va_D A (YW ct a y (HW ct h ha (hz.1, hz.2.1, (upS hz.2.2 hz.1 y)) (KR a b rs (BW ct a d bz (IW ct i (xE g) iv (LW ct lb lz (YW ct sa sy (XO x a sa h b d i lb xv R)))))))) := hD
  have hP : va_P D vwCl (YW ct a y (KR a b rs (BW ct a d bz (IW ct i (xE g) iv (LW ct lb lz (YW ct sa sy (XO x a sa h b d i lb xv (HW ct h ha (hz.1, hz.2.1, (upS hz.2.2 hz.1 y)) R)))))))) H := zPp ((zF7 (YW ct a y []) (KR a b rs []) (BW ct a d bz []) (IW ct i (xE g) iv []) (LW ct lb lz []) (YW ct sa sy []) (XO x a sa h b d i lb xv []) (HWl ct h ha (hz.1, hz.2.1, (upS hz.2.2 hz.1 y))) (R)).trans (zMv1 (HWl ct h ha (hz.1, hz.2.1, (upS hz.2.2 hz.1 y))) (YW ct a y []) (KR a b rs (BW ct a d bz (IW ct i (xE g) iv (LW ct lb lz (YW ct sa sy (XO x a sa h b d i lb xv R)))))))).symm hP
  have hD : va_D A (YW ct a y (KR a b rs (BW ct a d bz (IW ct i (xE g) iv (LW ct lb lz (YW ct sa sy (XO x a sa h b d i lb xv (HW ct h ha (hz.1, hz.2.1, (upS hz.2.2 hz.1 y)) R)))))))) := zDp ((zF7 (YW ct a y []) (KR a b rs []) (BW ct a d bz []) (IW ct i (xE g) iv []) (LW ct lb lz []) (YW ct sa sy []) (XO x a sa h b d i lb xv []) (HWl ct h ha (hz.1, hz.2.1, (upS hz.2.2 hz.1 y))) (R)).trans (zMv1 (HWl ct h ha (hz.1, hz.2.1, (upS hz.2.2 hz.1 y))) (YW ct a y []) (KR a b rs (BW ct a d bz (IW ct i (xE g) iv (LW ct lb lz (YW ct sa sy (XO x a sa h b d i lb xv R)))))))).symm hD
  refine lv_aload_n hx hb dX10_trip_11 rfl (lv_at hl 0 rfl) ?_
  refine va_get (ci := 9) (v := .ref (h 0)) hx hb hts h_X10 hown hK hP 38 rfl rfl 3 (by decide) f26 (fun _ h9 => h9) rfl dX10_trip_12 ?_
  refine lv_aload_n hx hb dX10_trip_15 rfl (lv_at hl 0 rfl) ?_
  refine va_get (ci := 9) (v := .ref (b 2)) hx hb hts h_X10 hown hK hP 38 rfl rfl 6 (by decide) f51 (fun _ h9 => h9) rfl dX10_trip_16 ?_
  refine lv_iload_n hx hb dX10_trip_19 rfl (lv_at hl 1 rfl) ?_
  refine lv_iload_n hx hb dX10_trip_20 rfl (lv_at hl 2 rfl) ?_
  refine zVI [.int (x1), .int (x2)] [.ref (h 0)] (kX8_drive (a) (y) (b) (rs) (BW ct a d bz (IW ct i (xE g) iv (LW ct lb lz (YW ct sa sy (XO x a sa h b d i lb xv (HW ct h ha (hz.1, hz.2.1, (upS hz.2.2 hz.1 y)) R)))))) (x1) (x2) (show yI y from hy) (show yF y from hf)) hx hb hml hown hts (cwV 2 hts gX10_trip_X8_drive rfl rfl rfl (by decide +kernel) ⟨(Nat.le_of_ble_eq_true rfl), (Nat.le_of_ble_eq_true rfl)⟩) hK hP hD hS hA (va_recv hK hP (ci := 7) (q0 := 14) rfl rfl) rfl hl.1 rfl (Nat.le_of_ble_eq_true rfl) dX10_trip_21 ⟨(Nat.le_of_ble_eq_true rfl), (Nat.le_of_ble_eq_true rfl)⟩ (fun r_21 _ H locs hr_21 hP hD hS => ?_)
  subst hr_21
  have hP : va_P D vwCl (YW ct a (f_go y rs (x1) (x2)).2.1 (KR a b (f_go y rs (x1) (x2)).2.2 (BW ct a d bz (IW ct i (xE g) iv (LW ct lb lz (YW ct sa sy (XO x a sa h b d i lb xv (HW ct h ha (hz.1, hz.2.1, (upS hz.2.2 hz.1 y)) R)))))))) H := hP
  have hD : va_D A (YW ct a (f_go y rs (x1) (x2)).2.1 (KR a b (f_go y rs (x1) (x2)).2.2 (BW ct a d bz (IW ct i (xE g) iv (LW ct lb lz (YW ct sa sy (XO x a sa h b d i lb xv (HW ct h ha (hz.1, hz.2.1, (upS hz.2.2 hz.1 y)) R)))))))) := hD
  have hP : va_P D vwCl (HW ct h ha (hz.1, hz.2.1, (upS hz.2.2 hz.1 y)) (YW ct a (f_go y rs (x1) (x2)).2.1 (KR a b (f_go y rs (x1) (x2)).2.2 (BW ct a d bz (IW ct i (xE g) iv (LW ct lb lz (YW ct sa sy (XO x a sa h b d i lb xv R)))))))) H := zPp (zF7 (YW ct a (f_go y rs (x1) (x2)).2.1 []) (KR a b (f_go y rs (x1) (x2)).2.2 []) (BW ct a d bz []) (IW ct i (xE g) iv []) (LW ct lb lz []) (YW ct sa sy []) (XO x a sa h b d i lb xv []) (HWl ct h ha (hz.1, hz.2.1, (upS hz.2.2 hz.1 y))) (R)) hP
  have hD : va_D A (HW ct h ha (hz.1, hz.2.1, (upS hz.2.2 hz.1 y)) (YW ct a (f_go y rs (x1) (x2)).2.1 (KR a b (f_go y rs (x1) (x2)).2.2 (BW ct a d bz (IW ct i (xE g) iv (LW ct lb lz (YW ct sa sy (XO x a sa h b d i lb xv R)))))))) := zDp (zF7 (YW ct a (f_go y rs (x1) (x2)).2.1 []) (KR a b (f_go y rs (x1) (x2)).2.2 []) (BW ct a d bz []) (IW ct i (xE g) iv []) (LW ct lb lz []) (YW ct sa sy []) (XO x a sa h b d i lb xv []) (HWl ct h ha (hz.1, hz.2.1, (upS hz.2.2 hz.1 y))) (R)) hD
  refine zVI [.int (((f_go y rs (x1) (x2)).1))] [] (kX3_settle (h) (ha) ((hz.1, hz.2.1, (upS hz.2.2 hz.1 y))) (YW ct a (f_go y rs (x1) (x2)).2.1 (KR a b (f_go y rs (x1) (x2)).2.2 (BW ct a d bz (IW ct i (xE g) iv (LW ct lb lz (YW ct sa sy (XO x a sa h b d i lb xv R))))))) (((f_go y rs (x1) (x2)).1)) (show hz.1 ≤ 8 from hn8) (show hz.2.1 ≤ 8 from hc8)) hx hb hml hown hts (cwV 1 hts gX10_trip_X3_settle rfl rfl rfl (by decide +kernel) ⟨(Nat.le_of_ble_eq_true rfl), (Nat.le_of_ble_eq_true rfl)⟩) hK hP hD hS hA (va_recv hK hP (ci := 2) (q0 := 0) rfl rfl) rfl hl.1 rfl (Nat.le_of_ble_eq_true rfl) dX10_trip_24 ⟨(Nat.le_of_ble_eq_true rfl), (Nat.le_of_ble_eq_true rfl)⟩ (fun r_24 _ H locs hr_24 hP hD hS => ?_)
  subst hr_24
  have hP : va_P D vwCl (HW ct h ha ((F_set (hz.1, hz.2.1, (upS hz.2.2 hz.1 y)) (((f_go y rs (x1) (x2)).1))).2) (YW ct a (f_go y rs (x1) (x2)).2.1 (KR a b (f_go y rs (x1) (x2)).2.2 (BW ct a d bz (IW ct i (xE g) iv (LW ct lb lz (YW ct sa sy (XO x a sa h b d i lb xv R)))))))) H := hP
  have hD : va_D A (HW ct h ha ((F_set (hz.1, hz.2.1, (upS hz.2.2 hz.1 y)) (((f_go y rs (x1) (x2)).1))).2) (YW ct a (f_go y rs (x1) (x2)).2.1 (KR a b (f_go y rs (x1) (x2)).2.2 (BW ct a d bz (IW ct i (xE g) iv (LW ct lb lz (YW ct sa sy (XO x a sa h b d i lb xv R)))))))) := hD
  have hP : va_P D vwCl (YW ct a (f_go y rs (x1) (x2)).2.1 (KR a b (f_go y rs (x1) (x2)).2.2 (BW ct a d bz (IW ct i (xE g) iv (LW ct lb lz (YW ct sa sy (XO x a sa h b d i lb xv (HW ct h ha ((F_set (hz.1, hz.2.1, (upS hz.2.2 hz.1 y)) (((f_go y rs (x1) (x2)).1))).2) R)))))))) H := zPp (zF7 (YW ct a (f_go y rs (x1) (x2)).2.1 []) (KR a b (f_go y rs (x1) (x2)).2.2 []) (BW ct a d bz []) (IW ct i (xE g) iv []) (LW ct lb lz []) (YW ct sa sy []) (XO x a sa h b d i lb xv []) (HWl ct h ha ((F_set (hz.1, hz.2.1, (upS hz.2.2 hz.1 y)) (((f_go y rs (x1) (x2)).1))).2)) (R)).symm hP
  have hD : va_D A (YW ct a (f_go y rs (x1) (x2)).2.1 (KR a b (f_go y rs (x1) (x2)).2.2 (BW ct a d bz (IW ct i (xE g) iv (LW ct lb lz (YW ct sa sy (XO x a sa h b d i lb xv (HW ct h ha ((F_set (hz.1, hz.2.1, (upS hz.2.2 hz.1 y)) (((f_go y rs (x1) (x2)).1))).2) R)))))))) := zDp (zF7 (YW ct a (f_go y rs (x1) (x2)).2.1 []) (KR a b (f_go y rs (x1) (x2)).2.2 []) (BW ct a d bz []) (IW ct i (xE g) iv []) (LW ct lb lz []) (YW ct sa sy []) (XO x a sa h b d i lb xv []) (HWl ct h ha ((F_set (hz.1, hz.2.1, (upS hz.2.2 hz.1 y)) (((f_go y rs (x1) (x2)).1))).2)) (R)).symm hD
  exact zIret () hx hb hr hlocks hK hP hD hS dX10_trip_27 (show ((F_set (hz.1, hz.2.1, (upS hz.2.2 hz.1 y)) (((f_go y rs (x1) (x2)).1))).1) = (F_set (hz.1, hz.2.1, (upS hz.2.2 (hz.1) y)) ((f_go y rs x1 x2).1)).1 from rfl)
abbrev rmX10_grease : Room := { frames := 5, cells := 0, slots := 0, locals := 108 }
theorem in_X10_grease_X10 : ∀ w ∈ u_ws RX10 TX10 12, w ∈ wsX10_grease := by decide +kernel
set_option maxHeartbeats 4000000 in
set_option maxRecDepth 100000 in
theorem kX10_grease {D : va_G} {g : XG} {ct : Nat → ClassId} {l : Launch} (a : Nat → Nat) (y : YS) (b : Nat → Nat) (rs : RS) (d : Nat → Nat) (bz : BS) (i : Nat → Nat) (iv : IS) (lb : Nat → Nat) (lz : LST) (sa : Nat → Nat) (sy : YS) (x : Nat → Nat) (xv : Int32 × Int32) (h : Nat → Nat) (ha : Nat → Nat → Nat) (hz : HS) (R : va_W) (x1 : Int32) (hy : yI y) (hf : yF y) (hn8 : hz.1 ≤ 8) (hc8 : hz.2.1 ≤ 8) : MX D ct g l yX10_grease wsX10_grease rmX10_grease (YW ct a y (KR a b rs (BW ct a d bz (IW ct i (xE g) iv (LW ct lb lz (YW ct sa sy (XO x a sa h b d i lb xv (HW ct h ha hz R)))))))) [.ref (x 0), .int (x1)] (QI D ct (fun r0 (_ : Unit) => r0 = (F_set (hz.1, hz.2.1, (upS hz.2.2 (hz.1) y)) ((f_grease y rs x1).1)).1) (fun _ : Unit => YW ct a ((f_grease y rs x1).2.1) (KR a b ((f_grease y rs x1).2.2) (BW ct a d bz (IW ct i (xE g) iv (LW ct lb lz (YW ct sa sy (XO x a sa h b d i lb xv (HW ct h ha ((F_set (hz.1, hz.2.1, (upS hz.2.2 (hz.1) y)) ((f_grease y rs x1).1)).2) R))))))))) := by
  refine MXof (cc := cX10_grease) (maxL := 2) (ret := (some .int)) (by decide) rfl (Nat.le_of_ble_eq_true rfl) ?_
  intro p e s m args below meth c A H locs F hP hK hD hS hA hX ls hl
  obtain ⟨hx, hb, hr, hlocks, hml, hown, hts, hin⟩ := F
  have hl : lv_has ls 2 [(0, .ref (x 0)), (1, .int (x1))] := hl
  have hkd : ∀ j9, j9 < y_n y → y_kd y j9 = nI 0 ∨ y_kd y j9 = nI 1 := fun j9 hj9 => (hy.2.2.2.1 j9 hj9).1
  have hn : y_n y ≤ 12 := hy.1
  have hcn : y_cn y ≤ 4 := hy.2.1
  have hrn : y_rn y ≤ 5 := hy.2.2.1
  have h_X10 := in_X10_grease_X10
  have f10 := hts (.fieldLink RX10 10 "CartArguments" "yard" "LCartArguments$Yard;") (by decide +kernel)
  have f26 := hts (.fieldLink RX10 26 "CartArguments" "history" "LCartArguments$History;") (by decide +kernel)
  have f51 := hts (.fieldLink RX10 51 "CartArguments" "works" "LCartArguments$Works;") (by decide +kernel)
  refine lv_aload_n hx hb dX10_grease_0 rfl (lv_at hl 0 rfl) ?_
  refine va_get (ci := 9) (v := .ref (h 0)) hx hb hts h_X10 hown hK hP 38 rfl rfl 3 (by decide) f26 (fun _ h9 => h9) rfl dX10_grease_1 ?_
  refine lv_aload_n hx hb dX10_grease_4 rfl (lv_at hl 0 rfl) ?_
  refine va_get (ci := 9) (v := .ref (a 0)) hx hb hts h_X10 hown hK hP 38 rfl rfl 0 (by decide) f10 (fun _ h9 => h9) rfl dX10_grease_5 ?_
  have hP : va_P D vwCl (YW ct a y (HW ct h ha hz (KR a b rs (BW ct a d bz (IW ct i (xE g) iv (LW ct lb lz (YW ct sa sy (XO x a sa h b d i lb xv R)))))))) H := zPp ((zF7 (YW ct a y []) (KR a b rs []) (BW ct a d bz []) (IW ct i (xE g) iv []) (LW ct lb lz []) (YW ct sa sy []) (XO x a sa h b d i lb xv []) (HWl ct h ha hz) (R)).trans (zMv1 (HWl ct h ha hz) (YW ct a y []) (KR a b rs (BW ct a d bz (IW ct i (xE g) iv (LW ct lb lz (YW ct sa sy (XO x a sa h b d i lb xv R)))))))) hP
  have hD : va_D A (YW ct a y (HW ct h ha hz (KR a b rs (BW ct a d bz (IW ct i (xE g) iv (LW ct lb lz (YW ct sa sy (XO x a sa h b d i lb xv R)))))))) := zDp ((zF7 (YW ct a y []) (KR a b rs []) (BW ct a d bz []) (IW ct i (xE g) iv []) (LW ct lb lz []) (YW ct sa sy []) (XO x a sa h b d i lb xv []) (HWl ct h ha hz) (R)).trans (zMv1 (HWl ct h ha hz) (YW ct a y []) (KR a b rs (BW ct a d bz (IW ct i (xE g) iv (LW ct lb lz (YW ct sa sy (XO x a sa h b d i lb xv R)))))))) hD
  refine zVV [.ref (a 0)] [] (kX3_begin (a) (y) (h) (ha) (hz) (KR a b rs (BW ct a d bz (IW ct i (xE g) iv (LW ct lb lz (YW ct sa sy (XO x a sa h b d i lb xv R)))))) (show hz.1 ≤ 8 from hn8)) hx hb hml hown hts (cwV 1 hts gX10_grease_X3_begin rfl rfl rfl (by decide +kernel) ⟨(Nat.le_of_ble_eq_true rfl), (Nat.le_of_ble_eq_true rfl)⟩) hK hP hD hS hA (va_recv hK hP (ci := 2) (q0 := 12) rfl rfl) rfl hl.1 rfl (Nat.le_of_ble_eq_true rfl) dX10_grease_8 ⟨(Nat.le_of_ble_eq_true rfl), (Nat.le_of_ble_eq_true rfl)⟩ (fun _ H locs hr_8 hP hD hS => ?_)
  have hP : va_P D vwCl (YW ct a y (HW ct h ha (hz.1, hz.2.1, (upS hz.2.2 hz.1 y)) (KR a b rs (BW ct a d bz (IW ct i (xE g) iv (LW ct lb lz (YW ct sa sy (XO x a sa h b d i lb xv R)))))))) H := hP
  have hD : va_D A (YW ct a y (HW ct h ha (hz.1, hz.2.1, (upS hz.2.2 hz.1 y)) (KR a b rs (BW ct a d bz (IW ct i (xE g) iv (LW ct lb lz (YW ct sa sy (XO x a sa h b d i lb xv R)))))))) := hD
  have hP : va_P D vwCl (YW ct a y (KR a b rs (BW ct a d bz (IW ct i (xE g) iv (LW ct lb lz (YW ct sa sy (XO x a sa h b d i lb xv (HW ct h ha (hz.1, hz.2.1, (upS hz.2.2 hz.1 y)) R)))))))) H := zPp ((zF7 (YW ct a y []) (KR a b rs []) (BW ct a d bz []) (IW ct i (xE g) iv []) (LW ct lb lz []) (YW ct sa sy []) (XO x a sa h b d i lb xv []) (HWl ct h ha (hz.1, hz.2.1, (upS hz.2.2 hz.1 y))) (R)).trans (zMv1 (HWl ct h ha (hz.1, hz.2.1, (upS hz.2.2 hz.1 y))) (YW ct a y []) (KR a b rs (BW ct a d bz (IW ct i (xE g) iv (LW ct lb lz (YW ct sa sy (XO x a sa h b d i lb xv R)))))))).symm hP
  have hD : va_D A (YW ct a y (KR a b rs (BW ct a d bz (IW ct i (xE g) iv (LW ct lb lz (YW ct sa sy (XO x a sa h b d i lb xv (HW ct h ha (hz.1, hz.2.1, (upS hz.2.2 hz.1 y)) R)))))))) := zDp ((zF7 (YW ct a y []) (KR a b rs []) (BW ct a d bz []) (IW ct i (xE g) iv []) (LW ct lb lz []) (YW ct sa sy []) (XO x a sa h b d i lb xv []) (HWl ct h ha (hz.1, hz.2.1, (upS hz.2.2 hz.1 y))) (R)).trans (zMv1 (HWl ct h ha (hz.1, hz.2.1, (upS hz.2.2 hz.1 y))) (YW ct a y []) (KR a b rs (BW ct a d bz (IW ct i (xE g) iv (LW ct lb lz (YW ct sa sy (XO x a sa h b d i lb xv R)))))))).symm hD
  refine lv_aload_n hx hb dX10_grease_11 rfl (lv_at hl 0 rfl) ?_
  refine va_get (ci := 9) (v := .ref (h 0)) hx hb hts h_X10 hown hK hP 38 rfl rfl 3 (by decide) f26 (fun _ h9 => h9) rfl dX10_grease_12 ?_
  refine lv_aload_n hx hb dX10_grease_15 rfl (lv_at hl 0 rfl) ?_
  refine va_get (ci := 9) (v := .ref (b 2)) hx hb hts h_X10 hown hK hP 38 rfl rfl 6 (by decide) f51 (fun _ h9 => h9) rfl dX10_grease_16 ?_
  refine lv_iload_n hx hb dX10_grease_19 rfl (lv_at hl 1 rfl) ?_
  refine zVI [.int (x1)] [.ref (h 0)] (kX8_greaseAxles (a) (y) (b) (rs) (BW ct a d bz (IW ct i (xE g) iv (LW ct lb lz (YW ct sa sy (XO x a sa h b d i lb xv (HW ct h ha (hz.1, hz.2.1, (upS hz.2.2 hz.1 y)) R)))))) (x1) (show y_cn y ≤ 4 from by omega)) hx hb hml hown hts (cwV 1 hts gX10_grease_X8_greaseAxles rfl rfl rfl (by decide +kernel) ⟨(Nat.le_of_ble_eq_true rfl), (Nat.le_of_ble_eq_true rfl)⟩) hK hP hD hS hA (va_recv hK hP (ci := 7) (q0 := 14) rfl rfl) rfl hl.1 rfl (Nat.le_of_ble_eq_true rfl) dX10_grease_20 ⟨(Nat.le_of_ble_eq_true rfl), (Nat.le_of_ble_eq_true rfl)⟩ (fun r_20 _ H locs hr_20 hP hD hS => ?_)
  subst hr_20
  have hP : va_P D vwCl (YW ct a (f_grease y rs (x1)).2.1 (KR a b (f_grease y rs (x1)).2.2 (BW ct a d bz (IW ct i (xE g) iv (LW ct lb lz (YW ct sa sy (XO x a sa h b d i lb xv (HW ct h ha (hz.1, hz.2.1, (upS hz.2.2 hz.1 y)) R)))))))) H := hP
  have hD : va_D A (YW ct a (f_grease y rs (x1)).2.1 (KR a b (f_grease y rs (x1)).2.2 (BW ct a d bz (IW ct i (xE g) iv (LW ct lb lz (YW ct sa sy (XO x a sa h b d i lb xv (HW ct h ha (hz.1, hz.2.1, (upS hz.2.2 hz.1 y)) R)))))))) := hD
  have hP : va_P D vwCl (HW ct h ha (hz.1, hz.2.1, (upS hz.2.2 hz.1 y)) (YW ct a (f_grease y rs (x1)).2.1 (KR a b (f_grease y rs (x1)).2.2 (BW ct a d bz (IW ct i (xE g) iv (LW ct lb lz (YW ct sa sy (XO x a sa h b d i lb xv R)))))))) H := zPp (zF7 (YW ct a (f_grease y rs (x1)).2.1 []) (KR a b (f_grease y rs (x1)).2.2 []) (BW ct a d bz []) (IW ct i (xE g) iv []) (LW ct lb lz []) (YW ct sa sy []) (XO x a sa h b d i lb xv []) (HWl ct h ha (hz.1, hz.2.1, (upS hz.2.2 hz.1 y))) (R)) hP
  have hD : va_D A (HW ct h ha (hz.1, hz.2.1, (upS hz.2.2 hz.1 y)) (YW ct a (f_grease y rs (x1)).2.1 (KR a b (f_grease y rs (x1)).2.2 (BW ct a d bz (IW ct i (xE g) iv (LW ct lb lz (YW ct sa sy (XO x a sa h b d i lb xv R)))))))) := zDp (zF7 (YW ct a (f_grease y rs (x1)).2.1 []) (KR a b (f_grease y rs (x1)).2.2 []) (BW ct a d bz []) (IW ct i (xE g) iv []) (LW ct lb lz []) (YW ct sa sy []) (XO x a sa h b d i lb xv []) (HWl ct h ha (hz.1, hz.2.1, (upS hz.2.2 hz.1 y))) (R)) hD
  refine zVI [.int (((f_grease y rs (x1)).1))] [] (kX3_settle (h) (ha) ((hz.1, hz.2.1, (upS hz.2.2 hz.1 y))) (YW ct a (f_grease y rs (x1)).2.1 (KR a b (f_grease y rs (x1)).2.2 (BW ct a d bz (IW ct i (xE g) iv (LW ct lb lz (YW ct sa sy (XO x a sa h b d i lb xv R))))))) (((f_grease y rs (x1)).1)) (show hz.1 ≤ 8 from hn8) (show hz.2.1 ≤ 8 from hc8)) hx hb hml hown hts (cwV 1 hts gX10_grease_X3_settle rfl rfl rfl (by decide +kernel) ⟨(Nat.le_of_ble_eq_true rfl), (Nat.le_of_ble_eq_true rfl)⟩) hK hP hD hS hA (va_recv hK hP (ci := 2) (q0 := 0) rfl rfl) rfl hl.1 rfl (Nat.le_of_ble_eq_true rfl) dX10_grease_23 ⟨(Nat.le_of_ble_eq_true rfl), (Nat.le_of_ble_eq_true rfl)⟩ (fun r_23 _ H locs hr_23 hP hD hS => ?_)
  subst hr_23
  have hP : va_P D vwCl (HW ct h ha ((F_set (hz.1, hz.2.1, (upS hz.2.2 hz.1 y)) (((f_grease y rs (x1)).1))).2) (YW ct a (f_grease y rs (x1)).2.1 (KR a b (f_grease y rs (x1)).2.2 (BW ct a d bz (IW ct i (xE g) iv (LW ct lb lz (YW ct sa sy (XO x a sa h b d i lb xv R)))))))) H := hP
  have hD : va_D A (HW ct h ha ((F_set (hz.1, hz.2.1, (upS hz.2.2 hz.1 y)) (((f_grease y rs (x1)).1))).2) (YW ct a (f_grease y rs (x1)).2.1 (KR a b (f_grease y rs (x1)).2.2 (BW ct a d bz (IW ct i (xE g) iv (LW ct lb lz (YW ct sa sy (XO x a sa h b d i lb xv R)))))))) := hD
  have hP : va_P D vwCl (YW ct a (f_grease y rs (x1)).2.1 (KR a b (f_grease y rs (x1)).2.2 (BW ct a d bz (IW ct i (xE g) iv (LW ct lb lz (YW ct sa sy (XO x a sa h b d i lb xv (HW ct h ha ((F_set (hz.1, hz.2.1, (upS hz.2.2 hz.1 y)) (((f_grease y rs (x1)).1))).2) R)))))))) H := zPp (zF7 (YW ct a (f_grease y rs (x1)).2.1 []) (KR a b (f_grease y rs (x1)).2.2 []) (BW ct a d bz []) (IW ct i (xE g) iv []) (LW ct lb lz []) (YW ct sa sy []) (XO x a sa h b d i lb xv []) (HWl ct h ha ((F_set (hz.1, hz.2.1, (upS hz.2.2 hz.1 y)) (((f_grease y rs (x1)).1))).2)) (R)).symm hP
  have hD : va_D A (YW ct a (f_grease y rs (x1)).2.1 (KR a b (f_grease y rs (x1)).2.2 (BW ct a d bz (IW ct i (xE g) iv (LW ct lb lz (YW ct sa sy (XO x a sa h b d i lb xv (HW ct h ha ((F_set (hz.1, hz.2.1, (upS hz.2.2 hz.1 y)) (((f_grease y rs (x1)).1))).2) R)))))))) := zDp (zF7 (YW ct a (f_grease y rs (x1)).2.1 []) (KR a b (f_grease y rs (x1)).2.2 []) (BW ct a d bz []) (IW ct i (xE g) iv []) (LW ct lb lz []) (YW ct sa sy []) (XO x a sa h b d i lb xv []) (HWl ct h ha ((F_set (hz.1, hz.2.1, (upS hz.2.2 hz.1 y)) (((f_grease y rs (x1)).1))).2)) (R)).symm hD
  exact zIret () hx hb hr hlocks hK hP hD hS dX10_grease_26 (show ((F_set (hz.1, hz.2.1, (upS hz.2.2 hz.1 y)) (((f_grease y rs (x1)).1))).1) = (F_set (hz.1, hz.2.1, (upS hz.2.2 (hz.1) y)) ((f_grease y rs x1).1)).1 from rfl)
