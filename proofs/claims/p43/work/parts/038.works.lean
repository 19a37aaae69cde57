/-! WORKS -/
abbrev rmX8_addThing : Room := { frames := 1, cells := 0, slots := 0, locals := 22 }
theorem in_X8_addThing_X8 : ∀ w ∈ u_ws RX8 TX8 3, w ∈ wsX8_addThing := by decide +kernel
theorem in_X8_addThing_X9 : ∀ w ∈ u_ws RX9 TX9 16, w ∈ wsX8_addThing := by decide +kernel
set_option maxHeartbeats 4000000 in
set_option maxRecDepth 100000 in
theorem kX8_addThing {D : va_G} {ct : Nat → ClassId} {l : Launch} (a : Nat → Nat) (y : YS) (b : Nat → Nat) (rs : RS) (R : va_W) (x1 : Int32) (x2 : Int32) (x3 : Int32) (hn : y_n y ≤ 12) : MI D ct l yX8_addThing wsX8_addThing rmX8_addThing (YW ct a y (KR a b rs R)) [.ref (b 2), .int (x1), .int (x2), .int (x3)] (fun r0 (_ : Unit) => r0 = (f_addT y rs x1 x2 x3).1) (fun _ : Unit => YW ct a (f_addT y rs x1 x2 x3).2.1 (KR a b (f_addT y rs x1 x2 x3).2.2 R)) := by
  refine MIof (cc := cX8_addThing) (maxL := 5) (ret := (some .int)) (by decide) rfl (Nat.le_of_ble_eq_true rfl) ?_
  intro p e s m args below meth c A H locs F hP hK hD hS hA ls hl
  obtain ⟨hx, hb, hr, hlocks, hml, hown, hts, hin⟩ := F
  have hl : lv_has ls 5 [(0, .ref (b 2)), (1, .int (x1)), (2, .int (x2)), (3, .int (x3))] := hl
  have h_X8 := in_X8_addThing_X8
  have h_X9 := in_X8_addThing_X9
  have f9 := hts (.fieldLink RX8 9 "CartArguments$Works" "yard" "LCartArguments$Yard;") (by decide +kernel)
  have f19 := hts (.fieldLink RX8 19 "CartArguments$Works" "reasons" "LCartArguments$Reasons;") (by decide +kernel)
  have f23 := hts (.fieldLink RX8 23 "CartArguments$Yard" "things" "I") (by decide +kernel)
  have f35 := hts (.fieldLink RX8 35 "CartArguments$Yard" "kinds" "[I") (by decide +kernel)
  have f39 := hts (.fieldLink RX8 39 "CartArguments$Yard" "weights" "[I") (by decide +kernel)
  have f42 := hts (.fieldLink RX8 42 "CartArguments$Yard" "cartsUnder" "[I") (by decide +kernel)
  have f45 := hts (.fieldLink RX8 45 "CartArguments$Yard" "places" "[I") (by decide +kernel)
  refine lv_iload_n hx hb dX8_addThing_0 rfl (lv_at hl 2 rfl) ?_
  refine lv_iconst (v := nI (1)) hx hb dX8_addThing_1 (by decide) ?_
  refine lv_icmp_lt (tgt := 10) hx hb dX8_addThing_2 (by decide) (fun c2_1 => ?_) (fun c2_1 => ?_)
  · skip
    refine lv_bipush (v := (-2)) hx hb dX8_addThing_10 (by decide) ?_
    have e9 : f_addT y rs x1 x2 x3 = ((-2), y, rs) := (by simp only [f_addT, setAt, yMove, rsOf, yWr, c2_1, p_in, p_worn, p_wi, p_creak, p_over, p_le0, p_lt1, not_true_eq_false, not_false_eq_true, if_true, if_false, and_true, true_and, and_false, false_and, or_true, true_or, or_false, false_or, and_self, or_self, iff_true, true_iff, iff_false, false_iff, decide_eq_true_eq, decide_true, decide_false, Int32.add_zero, Nat.add_zero, ne_eq, Bool.false_eq_true, eq_self])
    exact zIret () hx hb hr hlocks hK (by show va_P D vwCl (YW ct a (f_addT y rs x1 x2 x3).2.1 (KR a b (f_addT y rs x1 x2 x3).2.2 R)) H; rw [e9]; exact hP) (by show va_D A (YW ct a (f_addT y rs x1 x2 x3).2.1 (KR a b (f_addT y rs x1 x2 x3).2.2 R)); rw [e9]; exact hD) hS dX8_addThing_12 (show (-2) = (f_addT y rs x1 x2 x3).1 from (by rw [e9]))
  · skip
    refine lv_iload_n hx hb dX8_addThing_5 rfl (lv_at hl 2 rfl) ?_
    refine lv_iload_n hx hb dX8_addThing_6 rfl (lv_at hl 3 rfl) ?_
    refine lv_icmp_le (tgt := 13) hx hb dX8_addThing_7 (by decide) (fun c7_2 => ?_) (fun c7_2 => ?_)
    · skip
      refine lv_aload_n hx hb dX8_addThing_13 rfl (lv_at hl 0 rfl) ?_
      refine va_get (ci := 7) (v := .ref (a 0)) hx hb hts h_X8 hown hK hP 14 rfl rfl 0 (by decide) f9 (fun _ h9 => h9) rfl dX8_addThing_14 ?_
      refine va_get (ci := 8) (v := .int (nI (y_n y))) hx hb hts h_X9 hown hK hP 0 rfl rfl 0 (by decide) f23 (fun _ h9 => h9) rfl dX8_addThing_17 ?_
      refine lv_istore (lv' := [(4, .int (nI (y_n y))), (0, .ref (b 2)), (1, .int (x1)), (2, .int (x2)), (3, .int (x3))]) hx hb dX8_addThing_20 hl (by decide) rfl (fun ls hl => ?_)
      refine lv_iload hx hb dX8_addThing_22 (lv_at hl 0 rfl) ?_
      refine lv_bipush (v := nI (12)) hx hb dX8_addThing_24 (by decide) ?_
      refine zN_icmp_lt (tgt := 40) hx hb (by omega) (by omega) dX8_addThing_26 (by decide) (fun c26_3 => ?_) (fun c26_3 => ?_)
      · skip
        refine lv_aload_n hx hb dX8_addThing_40 rfl (lv_at hl 1 rfl) ?_
        refine va_get (ci := 7) (v := .ref (a 0)) hx hb hts h_X8 hown hK hP 14 rfl rfl 0 (by decide) f9 (fun _ h9 => h9) rfl dX8_addThing_41 ?_
        refine va_get (ci := 8) (v := .ref (a 1)) hx hb hts h_X9 hown hK hP 0 rfl rfl 1 (by decide) f35 (fun _ h9 => h9) rfl dX8_addThing_44 ?_
        refine lv_iload hx hb dX8_addThing_47 (lv_at hl 0 rfl) ?_
        refine lv_iload_n hx hb dX8_addThing_49 rfl (lv_at hl 2 rfl) ?_
        refine zIast (n := 12) (f := y_kd y) (i := y_n y) hx hb hK hP hD hS 1 rfl (by omega) (by decide) dX8_addThing_50 (fun H locs hP hD hS => ?_)
        have hP : va_P D vwCl (YW ct a (y_n y, (upd (y_kd y) (y_n y) (x1)), y_w y, y_cu y, y_pl y, y_cn y, y_st y, y_wr y, y_tr y, y_rn y, y_li y, y_mi y, y_ra y, y_rt y, y_tl y, y_mm y) (KR a b rs R)) H := hP
        have hD : va_D A (YW ct a (y_n y, (upd (y_kd y) (y_n y) (x1)), y_w y, y_cu y, y_pl y, y_cn y, y_st y, y_wr y, y_tr y, y_rn y, y_li y, y_mi y, y_ra y, y_rt y, y_tl y, y_mm y) (KR a b rs R)) := hD
        refine lv_aload_n hx hb dX8_addThing_51 rfl (lv_at hl 1 rfl) ?_
        refine va_get (ci := 7) (v := .ref (a 0)) hx hb hts h_X8 hown hK hP 14 rfl rfl 0 (by decide) f9 (fun _ h9 => h9) rfl dX8_addThing_52 ?_
        refine va_get (ci := 8) (v := .ref (a 2)) hx hb hts h_X9 hown hK hP 0 rfl rfl 2 (by decide) f39 (fun _ h9 => h9) rfl dX8_addThing_55 ?_
        refine lv_iload hx hb dX8_addThing_58 (lv_at hl 0 rfl) ?_
        refine lv_iload_n hx hb dX8_addThing_60 rfl (lv_at hl 3 rfl) ?_
        refine zIast (n := 12) (f := y_w y) (i := y_n y) hx hb hK hP hD hS 2 rfl (by omega) (by decide) dX8_addThing_61 (fun H locs hP hD hS => ?_)
        have hP : va_P D vwCl (YW ct a (y_n y, (upd (y_kd y) (y_n y) (x1)), (upd (y_w y) (y_n y) (x2)), y_cu y, y_pl y, y_cn y, y_st y, y_wr y, y_tr y, y_rn y, y_li y, y_mi y, y_ra y, y_rt y, y_tl y, y_mm y) (KR a b rs R)) H := hP
        have hD : va_D A (YW ct a (y_n y, (upd (y_kd y) (y_n y) (x1)), (upd (y_w y) (y_n y) (x2)), y_cu y, y_pl y, y_cn y, y_st y, y_wr y, y_tr y, y_rn y, y_li y, y_mi y, y_ra y, y_rt y, y_tl y, y_mm y) (KR a b rs R)) := hD
        refine lv_aload_n hx hb dX8_addThing_62 rfl (lv_at hl 1 rfl) ?_
        refine va_get (ci := 7) (v := .ref (a 0)) hx hb hts h_X8 hown hK hP 14 rfl rfl 0 (by decide) f9 (fun _ h9 => h9) rfl dX8_addThing_63 ?_
        refine va_get (ci := 8) (v := .ref (a 3)) hx hb hts h_X9 hown hK hP 0 rfl rfl 3 (by decide) f42 (fun _ h9 => h9) rfl dX8_addThing_66 ?_
        refine lv_iload hx hb dX8_addThing_69 (lv_at hl 0 rfl) ?_
        refine lv_bipush (v := (-4)) hx hb dX8_addThing_71 (by decide) ?_
        refine zIast (n := 12) (f := y_cu y) (i := y_n y) hx hb hK hP hD hS 3 rfl (by omega) (by decide) dX8_addThing_73 (fun H locs hP hD hS => ?_)
        have hP : va_P D vwCl (YW ct a (y_n y, (upd (y_kd y) (y_n y) (x1)), (upd (y_w y) (y_n y) (x2)), (upd (y_cu y) (y_n y) ((-4))), y_pl y, y_cn y, y_st y, y_wr y, y_tr y, y_rn y, y_li y, y_mi y, y_ra y, y_rt y, y_tl y, y_mm y) (KR a b rs R)) H := hP
        have hD : va_D A (YW ct a (y_n y, (upd (y_kd y) (y_n y) (x1)), (upd (y_w y) (y_n y) (x2)), (upd (y_cu y) (y_n y) ((-4))), y_pl y, y_cn y, y_st y, y_wr y, y_tr y, y_rn y, y_li y, y_mi y, y_ra y, y_rt y, y_tl y, y_mm y) (KR a b rs R)) := hD
        refine lv_aload_n hx hb dX8_addThing_74 rfl (lv_at hl 1 rfl) ?_
        refine va_get (ci := 7) (v := .ref (a 0)) hx hb hts h_X8 hown hK hP 14 rfl rfl 0 (by decide) f9 (fun _ h9 => h9) rfl dX8_addThing_75 ?_
        refine va_get (ci := 8) (v := .ref (a 4)) hx hb hts h_X9 hown hK hP 0 rfl rfl 4 (by decide) f45 (fun _ h9 => h9) rfl dX8_addThing_78 ?_
        refine lv_iload hx hb dX8_addThing_81 (lv_at hl 0 rfl) ?_
        refine lv_bipush (v := (-4)) hx hb dX8_addThing_83 (by decide) ?_
        refine zIast (n := 12) (f := y_pl y) (i := y_n y) hx hb hK hP hD hS 4 rfl (by omega) (by decide) dX8_addThing_85 (fun H locs hP hD hS => ?_)
        have hP : va_P D vwCl (YW ct a (y_n y, (upd (y_kd y) (y_n y) (x1)), (upd (y_w y) (y_n y) (x2)), (upd (y_cu y) (y_n y) ((-4))), (upd (y_pl y) (y_n y) ((-4))), y_cn y, y_st y, y_wr y, y_tr y, y_rn y, y_li y, y_mi y, y_ra y, y_rt y, y_tl y, y_mm y) (KR a b rs R)) H := hP
        have hD : va_D A (YW ct a (y_n y, (upd (y_kd y) (y_n y) (x1)), (upd (y_w y) (y_n y) (x2)), (upd (y_cu y) (y_n y) ((-4))), (upd (y_pl y) (y_n y) ((-4))), y_cn y, y_st y, y_wr y, y_tr y, y_rn y, y_li y, y_mi y, y_ra y, y_rt y, y_tl y, y_mm y) (KR a b rs R)) := hD
        refine lv_aload_n hx hb dX8_addThing_86 rfl (lv_at hl 1 rfl) ?_
        refine va_get (ci := 7) (v := .ref (a 0)) hx hb hts h_X8 hown hK hP 14 rfl rfl 0 (by decide) f9 (fun _ h9 => h9) rfl dX8_addThing_87 ?_
        refine lv_iload hx hb dX8_addThing_90 (lv_at hl 0 rfl) ?_
        refine lv_iconst (v := nI (1)) hx hb dX8_addThing_92 (by decide) ?_
        refine zNadd hx hb dX8_addThing_93 ?_
        refine va_put (ci := 8) (v := .int (nI ((y_n y + 1)))) (ty := .int) hx hb hts h_X9 tyX9 tyX9_ok nmX9 hown hK hP hD hS 0 rfl rfl 0 (by decide) f23 (fun _ h9 => h9) rfl (by decide +kernel) rfl rfl (Nat.le_of_ble_eq_true rfl) dX8_addThing_94 (fun H locs hP hD hS => ?_)
        have hP : va_P D vwCl (YW ct a ((y_n y + 1), (upd (y_kd y) (y_n y) (x1)), (upd (y_w y) (y_n y) (x2)), (upd (y_cu y) (y_n y) ((-4))), (upd (y_pl y) (y_n y) ((-4))), y_cn y, y_st y, y_wr y, y_tr y, y_rn y, y_li y, y_mi y, y_ra y, y_rt y, y_tl y, y_mm y) (KR a b rs R)) H := hP
        have hD : va_D A (YW ct a ((y_n y + 1), (upd (y_kd y) (y_n y) (x1)), (upd (y_w y) (y_n y) (x2)), (upd (y_cu y) (y_n y) ((-4))), (upd (y_pl y) (y_n y) ((-4))), y_cn y, y_st y, y_wr y, y_tr y, y_rn y, y_li y, y_mi y, y_ra y, y_rt y, y_tl y, y_mm y) (KR a b rs R)) := hD
        refine lv_iload hx hb dX8_addThing_97 (lv_at hl 0 rfl) ?_
        have e9 : f_addT y rs x1 x2 x3 = (nI (y_n y), ((y_n y + 1), (upd (y_kd y) (y_n y) (x1)), (upd (y_w y) (y_n y) (x2)), (upd (y_cu y) (y_n y) ((-4))), (upd (y_pl y) (y_n y) ((-4))), y_cn y, y_st y, y_wr y, y_tr y, y_rn y, y_li y, y_mi y, y_ra y, y_rt y, y_tl y, y_mm y), rs) := (by simp only [f_addT, setAt, yMove, rsOf, yWr, c2_1, c7_2, c26_3, p_in, p_worn, p_wi, p_creak, p_over, p_le0, p_lt1, not_true_eq_false, not_false_eq_true, if_true, if_false, and_true, true_and, and_false, false_and, or_true, true_or, or_false, false_or, and_self, or_self, iff_true, true_iff, iff_false, false_iff, decide_eq_true_eq, decide_true, decide_false, Int32.add_zero, Nat.add_zero, ne_eq, Bool.false_eq_true, eq_self])
        exact zIret () hx hb hr hlocks hK (by show va_P D vwCl (YW ct a (f_addT y rs x1 x2 x3).2.1 (KR a b (f_addT y rs x1 x2 x3).2.2 R)) H; rw [e9]; exact hP) (by show va_D A (YW ct a (f_addT y rs x1 x2 x3).2.1 (KR a b (f_addT y rs x1 x2 x3).2.2 R)); rw [e9]; exact hD) hS dX8_addThing_99 (show nI (y_n y) = (f_addT y rs x1 x2 x3).1 from (by rw [e9]))
      · skip
        refine lv_aload_n hx hb dX8_addThing_29 rfl (lv_at hl 1 rfl) ?_
        refine va_get (ci := 7) (v := .ref (b 1)) hx hb hts h_X8 hown hK hP 14 rfl rfl 2 (by decide) f19 (fun _ h9 => h9) rfl dX8_addThing_30 ?_
        refine lv_iconst (v := nI (1)) hx hb dX8_addThing_33 (by decide) ?_
        refine lv_bipush (v := nI (12)) hx hb dX8_addThing_34 (by decide) ?_
        refine zVI [.int (nI (1)), .int (nI (12))] [] (kX6_refuse (a) (y) (b) (rs) (R) (nI (1)) (nI (12))) hx hb hml hown hts (cwV 2 hts gX8_addThing_X6_refuse rfl rfl rfl (by decide +kernel) ⟨(Nat.le_of_ble_eq_true rfl), (Nat.le_of_ble_eq_true rfl)⟩) hK hP hD hS hA (va_recv hK hP (ci := 5) (q0 := 13) rfl rfl) rfl hl.1 rfl (Nat.le_of_ble_eq_true rfl) dX8_addThing_36 ⟨(Nat.le_of_ble_eq_true rfl), (Nat.le_of_ble_eq_true rfl)⟩ (fun r_36 _ H locs hr_36 hP hD hS => ?_)
        subst hr_36
        have hP : va_P D vwCl (YW ct a y (KR a b ((nI (1)), (nI (12)), (-4), (-4)) R)) H := hP
        have hD : va_D A (YW ct a y (KR a b ((nI (1)), (nI (12)), (-4), (-4)) R)) := hD
        have e9 : f_addT y rs x1 x2 x3 = ((-3), y, ((nI (1)), (nI (12)), (-4), (-4))) := (by simp only [f_addT, setAt, yMove, rsOf, yWr, c2_1, c7_2, c26_3, p_in, p_worn, p_wi, p_creak, p_over, p_le0, p_lt1, not_true_eq_false, not_false_eq_true, if_true, if_false, and_true, true_and, and_false, false_and, or_true, true_or, or_false, false_or, and_self, or_self, iff_true, true_iff, iff_false, false_iff, decide_eq_true_eq, decide_true, decide_false, Int32.add_zero, Nat.add_zero, ne_eq, Bool.false_eq_true, eq_self])
        exact zIret () hx hb hr hlocks hK (by show va_P D vwCl (YW ct a (f_addT y rs x1 x2 x3).2.1 (KR a b (f_addT y rs x1 x2 x3).2.2 R)) H; rw [e9]; exact hP) (by show va_D A (YW ct a (f_addT y rs x1 x2 x3).2.1 (KR a b (f_addT y rs x1 x2 x3).2.2 R)); rw [e9]; exact hD) hS dX8_addThing_39 (show (-3) = (f_addT y rs x1 x2 x3).1 from (by rw [e9]))
    · skip
      refine lv_bipush (v := (-2)) hx hb dX8_addThing_10 (by decide) ?_
      have e9 : f_addT y rs x1 x2 x3 = ((-2), y, rs) := (by simp only [f_addT, setAt, yMove, rsOf, yWr, c2_1, c7_2, p_in, p_worn, p_wi, p_creak, p_over, p_le0, p_lt1, not_true_eq_false, not_false_eq_true, if_true, if_false, and_true, true_and, and_false, false_and, or_true, true_or, or_false, false_or, and_self, or_self, iff_true, true_iff, iff_false, false_iff, decide_eq_true_eq, decide_true, decide_false, Int32.add_zero, Nat.add_zero, ne_eq, Bool.false_eq_true, eq_self])
      exact zIret () hx hb hr hlocks hK (by show va_P D vwCl (YW ct a (f_addT y rs x1 x2 x3).2.1 (KR a b (f_addT y rs x1 x2 x3).2.2 R)) H; rw [e9]; exact hP) (by show va_D A (YW ct a (f_addT y rs x1 x2 x3).2.1 (KR a b (f_addT y rs x1 x2 x3).2.2 R)); rw [e9]; exact hD) hS dX8_addThing_12 (show (-2) = (f_addT y rs x1 x2 x3).1 from (by rw [e9]))
abbrev rmX8_addCart : Room := { frames := 2, cells := 0, slots := 0, locals := 44 }
theorem in_X8_addCart_X8 : ∀ w ∈ u_ws RX8 TX8 3, w ∈ wsX8_addCart := by decide +kernel
theorem in_X8_addCart_X9 : ∀ w ∈ u_ws RX9 TX9 16, w ∈ wsX8_addCart := by decide +kernel
set_option maxHeartbeats 4000000 in
set_option maxRecDepth 100000 in
theorem kX8_addCart {D : va_G} {ct : Nat → ClassId} {l : Launch} (a : Nat → Nat) (y : YS) (b : Nat → Nat) (rs : RS) (R : va_W) (x1 : Int32) (hc : y_cn y ≤ 4) : MI D ct l yX8_addCart wsX8_addCart rmX8_addCart (YW ct a y (KR a b rs R)) [.ref (b 2), .int (x1)] (fun r0 (_ : Unit) => r0 = (f_addC y rs x1).1) (fun _ : Unit => YW ct a (f_addC y rs x1).2.1 (KR a b (f_addC y rs x1).2.2 R)) := by
  refine MIof (cc := cX8_addCart) (maxL := 3) (ret := (some .int)) (by decide) rfl (Nat.le_of_ble_eq_true rfl) ?_
  intro p e s m args below meth c A H locs F hP hK hD hS hA ls hl
  obtain ⟨hx, hb, hr, hlocks, hml, hown, hts, hin⟩ := F
  have hl : lv_has ls 3 [(0, .ref (b 2)), (1, .int (x1))] := hl
  have h_X8 := in_X8_addCart_X8
  have h_X9 := in_X8_addCart_X9
  have f9 := hts (.fieldLink RX8 9 "CartArguments$Works" "yard" "LCartArguments$Yard;") (by decide +kernel)
  have f19 := hts (.fieldLink RX8 19 "CartArguments$Works" "reasons" "LCartArguments$Reasons;") (by decide +kernel)
  have f48 := hts (.fieldLink RX8 48 "CartArguments$Yard" "carts" "I") (by decide +kernel)
  have f51 := hts (.fieldLink RX8 51 "CartArguments$Yard" "strengths" "[I") (by decide +kernel)
  have f54 := hts (.fieldLink RX8 54 "CartArguments$Yard" "cartTrips" "[I") (by decide +kernel)
  refine lv_iload_n hx hb dX8_addCart_0 rfl (lv_at hl 1 rfl) ?_
  refine lv_iconst (v := nI (1)) hx hb dX8_addCart_1 (by decide) ?_
  refine lv_icmp_lt (tgt := 11) hx hb dX8_addCart_2 (by decide) (fun c2_1 => ?_) (fun c2_1 => ?_)
  · skip
    refine lv_bipush (v := (-2)) hx hb dX8_addCart_11 (by decide) ?_
    have e9 : f_addC y rs x1 = ((-2), y, rs) := (by simp only [f_addC, setAt, yMove, rsOf, yWr, c2_1, p_in, p_worn, p_wi, p_creak, p_over, p_le0, p_lt1, not_true_eq_false, not_false_eq_true, if_true, if_false, and_true, true_and, and_false, false_and, or_true, true_or, or_false, false_or, and_self, or_self, iff_true, true_iff, iff_false, false_iff, decide_eq_true_eq, decide_true, decide_false, Int32.add_zero, Nat.add_zero, ne_eq, Bool.false_eq_true, eq_self])
    exact zIret () hx hb hr hlocks hK (by show va_P D vwCl (YW ct a (f_addC y rs x1).2.1 (KR a b (f_addC y rs x1).2.2 R)) H; rw [e9]; exact hP) (by show va_D A (YW ct a (f_addC y rs x1).2.1 (KR a b (f_addC y rs x1).2.2 R)); rw [e9]; exact hD) hS dX8_addCart_13 (show (-2) = (f_addC y rs x1).1 from (by rw [e9]))
  · skip
    refine lv_iload_n hx hb dX8_addCart_5 rfl (lv_at hl 1 rfl) ?_
    refine lv_bipush (v := nI (60)) hx hb dX8_addCart_6 (by decide) ?_
    refine lv_icmp_le (tgt := 14) hx hb dX8_addCart_8 (by decide) (fun c8_2 => ?_) (fun c8_2 => ?_)
    · skip
      refine lv_aload_n hx hb dX8_addCart_14 rfl (lv_at hl 0 rfl) ?_
      refine va_get (ci := 7) (v := .ref (a 0)) hx hb hts h_X8 hown hK hP 14 rfl rfl 0 (by decide) f9 (fun _ h9 => h9) rfl dX8_addCart_15 ?_
      refine va_get (ci := 8) (v := .int (nI (y_cn y))) hx hb hts h_X9 hown hK hP 0 rfl rfl 5 (by decide) f48 (fun _ h9 => h9) rfl dX8_addCart_18 ?_
      refine lv_istore_n (lv' := [(2, .int (nI (y_cn y))), (0, .ref (b 2)), (1, .int (x1))]) hx hb dX8_addCart_21 rfl hl (by decide) rfl (fun ls hl => ?_)
      refine lv_iload_n hx hb dX8_addCart_22 rfl (lv_at hl 0 rfl) ?_
      refine lv_iconst (v := nI (4)) hx hb dX8_addCart_23 (by decide) ?_
      refine zN_icmp_lt (tgt := 37) hx hb (by omega) (by omega) dX8_addCart_24 (by decide) (fun c24_3 => ?_) (fun c24_3 => ?_)
      · skip
        refine lv_aload_n hx hb dX8_addCart_37 rfl (lv_at hl 1 rfl) ?_
        refine va_get (ci := 7) (v := .ref (a 0)) hx hb hts h_X8 hown hK hP 14 rfl rfl 0 (by decide) f9 (fun _ h9 => h9) rfl dX8_addCart_38 ?_
        refine va_get (ci := 8) (v := .ref (a 5)) hx hb hts h_X9 hown hK hP 0 rfl rfl 6 (by decide) f51 (fun _ h9 => h9) rfl dX8_addCart_41 ?_
        refine lv_iload_n hx hb dX8_addCart_44 rfl (lv_at hl 0 rfl) ?_
        refine lv_iload_n hx hb dX8_addCart_45 rfl (lv_at hl 2 rfl) ?_
        refine zIast (n := 4) (f := y_st y) (i := y_cn y) hx hb hK hP hD hS 5 rfl (by omega) (by decide) dX8_addCart_46 (fun H locs hP hD hS => ?_)
        have hP : va_P D vwCl (YW ct a (y_n y, y_kd y, y_w y, y_cu y, y_pl y, y_cn y, (upd (y_st y) (y_cn y) (x1)), y_wr y, y_tr y, y_rn y, y_li y, y_mi y, y_ra y, y_rt y, y_tl y, y_mm y) (KR a b rs R)) H := hP
        have hD : va_D A (YW ct a (y_n y, y_kd y, y_w y, y_cu y, y_pl y, y_cn y, (upd (y_st y) (y_cn y) (x1)), y_wr y, y_tr y, y_rn y, y_li y, y_mi y, y_ra y, y_rt y, y_tl y, y_mm y) (KR a b rs R)) := hD
        refine lv_aload_n hx hb dX8_addCart_47 rfl (lv_at hl 1 rfl) ?_
        refine va_get (ci := 7) (v := .ref (a 0)) hx hb hts h_X8 hown hK hP 14 rfl rfl 0 (by decide) f9 (fun _ h9 => h9) rfl dX8_addCart_48 ?_
        refine va_get (ci := 8) (v := .ref (a 7)) hx hb hts h_X9 hown hK hP 0 rfl rfl 8 (by decide) f54 (fun _ h9 => h9) rfl dX8_addCart_51 ?_
        refine lv_iload_n hx hb dX8_addCart_54 rfl (lv_at hl 0 rfl) ?_
        refine lv_iconst (v := nI (0)) hx hb dX8_addCart_55 (by decide) ?_
        refine zIast (n := 4) (f := y_tr y) (i := y_cn y) hx hb hK hP hD hS 7 rfl (by omega) (by decide) dX8_addCart_56 (fun H locs hP hD hS => ?_)
        have hP : va_P D vwCl (YW ct a (y_n y, y_kd y, y_w y, y_cu y, y_pl y, y_cn y, (upd (y_st y) (y_cn y) (x1)), y_wr y, (upd (y_tr y) (y_cn y) (nI (0))), y_rn y, y_li y, y_mi y, y_ra y, y_rt y, y_tl y, y_mm y) (KR a b rs R)) H := hP
        have hD : va_D A (YW ct a (y_n y, y_kd y, y_w y, y_cu y, y_pl y, y_cn y, (upd (y_st y) (y_cn y) (x1)), y_wr y, (upd (y_tr y) (y_cn y) (nI (0))), y_rn y, y_li y, y_mi y, y_ra y, y_rt y, y_tl y, y_mm y) (KR a b rs R)) := hD
        refine lv_aload_n hx hb dX8_addCart_57 rfl (lv_at hl 1 rfl) ?_
        refine va_get (ci := 7) (v := .ref (a 0)) hx hb hts h_X8 hown hK hP 14 rfl rfl 0 (by decide) f9 (fun _ h9 => h9) rfl dX8_addCart_58 ?_
        refine lv_iload_n hx hb dX8_addCart_61 rfl (lv_at hl 0 rfl) ?_
        refine lv_iconst (v := nI (0)) hx hb dX8_addCart_62 (by decide) ?_
        refine lv_fconst0 hx hb dX8_addCart_63 ?_
        refine zVV [.int (nI (y_cn y)), .int (nI (0)), .float (FP.fconst0)] [] (kX9_setWear (a) ((y_n y, y_kd y, y_w y, y_cu y, y_pl y, y_cn y, (upd (y_st y) (y_cn y) (x1)), y_wr y, (upd (y_tr y) (y_cn y) (nI (0))), y_rn y, y_li y, y_mi y, y_ra y, y_rt y, y_tl y, y_mm y)) (KR a b rs R) (y_cn y) (nI (0)) (FP.fconst0) (show (y_cn y) < 4 from by omega)) hx hb hml hown hts (cwV 3 hts gX8_addCart_X9_setWear rfl rfl rfl (by decide +kernel) ⟨(Nat.le_of_ble_eq_true rfl), (Nat.le_of_ble_eq_true rfl)⟩) hK hP hD hS hA (va_recv hK hP (ci := 8) (q0 := 0) rfl rfl) rfl hl.1 rfl (Nat.le_of_ble_eq_true rfl) dX8_addCart_64 ⟨(Nat.le_of_ble_eq_true rfl), (Nat.le_of_ble_eq_true rfl)⟩ (fun _ H locs hr_64 hP hD hS => ?_)
        have hP : va_P D vwCl (YW ct a ((y_n y), (y_kd y), (y_w y), (y_cu y), (y_pl y), (y_cn y), (upd (y_st y) (y_cn y) (x1)), (vf_upd (y_wr y) (wix (y_cn y) (nI (0))) (FP.fconst0)), (upd (y_tr y) (y_cn y) (nI (0))), (y_rn y), (y_li y), (y_mi y), (y_ra y), (y_rt y), (y_tl y), (y_mm y)) (KR a b rs R)) H := hP
        have hD : va_D A (YW ct a ((y_n y), (y_kd y), (y_w y), (y_cu y), (y_pl y), (y_cn y), (upd (y_st y) (y_cn y) (x1)), (vf_upd (y_wr y) (wix (y_cn y) (nI (0))) (FP.fconst0)), (upd (y_tr y) (y_cn y) (nI (0))), (y_rn y), (y_li y), (y_mi y), (y_ra y), (y_rt y), (y_tl y), (y_mm y)) (KR a b rs R)) := hD
        refine lv_aload_n hx hb dX8_addCart_67 rfl (lv_at hl 1 rfl) ?_
        refine va_get (ci := 7) (v := .ref (a 0)) hx hb hts h_X8 hown hK hP 14 rfl rfl 0 (by decide) f9 (fun _ h9 => h9) rfl dX8_addCart_68 ?_
        refine lv_iload_n hx hb dX8_addCart_71 rfl (lv_at hl 0 rfl) ?_
        refine lv_iconst (v := nI (1)) hx hb dX8_addCart_72 (by decide) ?_
        refine lv_fconst0 hx hb dX8_addCart_73 ?_
        refine zVV [.int (nI (y_cn y)), .int (nI (1)), .float (FP.fconst0)] [] (kX9_setWear (a) (((y_n y), (y_kd y), (y_w y), (y_cu y), (y_pl y), (y_cn y), (upd (y_st y) (y_cn y) (x1)), (vf_upd (y_wr y) (wix (y_cn y) (nI (0))) (FP.fconst0)), (upd (y_tr y) (y_cn y) (nI (0))), (y_rn y), (y_li y), (y_mi y), (y_ra y), (y_rt y), (y_tl y), (y_mm y))) (KR a b rs R) (y_cn y) (nI (1)) (FP.fconst0) (show (y_cn y) < 4 from by omega)) hx hb hml hown hts (cwV 3 hts gX8_addCart_X9_setWear rfl rfl rfl (by decide +kernel) ⟨(Nat.le_of_ble_eq_true rfl), (Nat.le_of_ble_eq_true rfl)⟩) hK hP hD hS hA (va_recv hK hP (ci := 8) (q0 := 0) rfl rfl) rfl hl.1 rfl (Nat.le_of_ble_eq_true rfl) dX8_addCart_74 ⟨(Nat.le_of_ble_eq_true rfl), (Nat.le_of_ble_eq_true rfl)⟩ (fun _ H locs hr_74 hP hD hS => ?_)
        have hP : va_P D vwCl (YW ct a ((y_n y), (y_kd y), (y_w y), (y_cu y), (y_pl y), (y_cn y), (upd (y_st y) (y_cn y) (x1)), (vf_upd ((vf_upd (y_wr y) (wix (y_cn y) (nI (0))) (FP.fconst0))) (wix (y_cn y) (nI (1))) (FP.fconst0)), (upd (y_tr y) (y_cn y) (nI (0))), (y_rn y), (y_li y), (y_mi y), (y_ra y), (y_rt y), (y_tl y), (y_mm y)) (KR a b rs R)) H := hP
        have hD : va_D A (YW ct a ((y_n y), (y_kd y), (y_w y), (y_cu y), (y_pl y), (y_cn y), (upd (y_st y) (y_cn y) (x1)), (vf_upd ((vf_upd (y_wr y) (wix (y_cn y) (nI (0))) (FP.fconst0))) (wix (y_cn y) (nI (1))) (FP.fconst0)), (upd (y_tr y) (y_cn y) (nI (0))), (y_rn y), (y_li y), (y_mi y), (y_ra y), (y_rt y), (y_tl y), (y_mm y)) (KR a b rs R)) := hD
        refine lv_aload_n hx hb dX8_addCart_77 rfl (lv_at hl 1 rfl) ?_
        refine va_get (ci := 7) (v := .ref (a 0)) hx hb hts h_X8 hown hK hP 14 rfl rfl 0 (by decide) f9 (fun _ h9 => h9) rfl dX8_addCart_78 ?_
        refine lv_iload_n hx hb dX8_addCart_81 rfl (lv_at hl 0 rfl) ?_
        refine lv_iconst (v := nI (1)) hx hb dX8_addCart_82 (by decide) ?_
        refine zNadd hx hb dX8_addCart_83 ?_
        refine va_put (ci := 8) (v := .int (nI ((y_cn y + 1)))) (ty := .int) hx hb hts h_X9 tyX9 tyX9_ok nmX9 hown hK hP hD hS 0 rfl rfl 5 (by decide) f48 (fun _ h9 => h9) rfl (by decide +kernel) rfl rfl (Nat.le_of_ble_eq_true rfl) dX8_addCart_84 (fun H locs hP hD hS => ?_)
        have hP : va_P D vwCl (YW ct a ((y_n y), (y_kd y), (y_w y), (y_cu y), (y_pl y), (y_cn y + 1), (upd (y_st y) (y_cn y) (x1)), (vf_upd ((vf_upd (y_wr y) (wix (y_cn y) (nI (0))) (FP.fconst0))) (wix (y_cn y) (nI (1))) (FP.fconst0)), (upd (y_tr y) (y_cn y) (nI (0))), (y_rn y), (y_li y), (y_mi y), (y_ra y), (y_rt y), (y_tl y), (y_mm y)) (KR a b rs R)) H := hP
        have hD : va_D A (YW ct a ((y_n y), (y_kd y), (y_w y), (y_cu y), (y_pl y), (y_cn y + 1), (upd (y_st y) (y_cn y) (x1)), (vf_upd ((vf_upd (y_wr y) (wix (y_cn y) (nI (0))) (FP.fconst0))) (wix (y_cn y) (nI (1))) (FP.fconst0)), (upd (y_tr y) (y_cn y) (nI (0))), (y_rn y), (y_li y), (y_mi y), (y_ra y), (y_rt y), (y_tl y), (y_mm y)) (KR a b rs R)) := hD
        refine lv_iload_n hx hb dX8_addCart_87 rfl (lv_at hl 0 rfl) ?_
        have e9 : f_addC y rs x1 = (nI (y_cn y), ((y_n y), (y_kd y), (y_w y), (y_cu y), (y_pl y), (y_cn y + 1), (upd (y_st y) (y_cn y) (x1)), (vf_upd ((vf_upd (y_wr y) (wix (y_cn y) (nI (0))) (FP.fconst0))) (wix (y_cn y) (nI (1))) (FP.fconst0)), (upd (y_tr y) (y_cn y) (nI (0))), (y_rn y), (y_li y), (y_mi y), (y_ra y), (y_rt y), (y_tl y), (y_mm y)), rs) := (by simp only [f_addC, setAt, yMove, rsOf, yWr, c2_1, c8_2, c24_3, p_in, p_worn, p_wi, p_creak, p_over, p_le0, p_lt1, not_true_eq_false, not_false_eq_true, if_true, if_false, and_true, true_and, and_false, false_and, or_true, true_or, or_false, false_or, and_self, or_self, iff_true, true_iff, iff_false, false_iff, decide_eq_true_eq, decide_true, decide_false, Int32.add_zero, Nat.add_zero, ne_eq, Bool.false_eq_true, eq_self])
        exact zIret () hx hb hr hlocks hK (by show va_P D vwCl (YW ct a (f_addC y rs x1).2.1 (KR a b (f_addC y rs x1).2.2 R)) H; rw [e9]; exact hP) (by show va_D A (YW ct a (f_addC y rs x1).2.1 (KR a b (f_addC y rs x1).2.2 R)); rw [e9]; exact hD) hS dX8_addCart_88 (show nI (y_cn y) = (f_addC y rs x1).1 from (by rw [e9]))
      · skip
        refine lv_aload_n hx hb dX8_addCart_27 rfl (lv_at hl 1 rfl) ?_
        refine va_get (ci := 7) (v := .ref (b 1)) hx hb hts h_X8 hown hK hP 14 rfl rfl 2 (by decide) f19 (fun _ h9 => h9) rfl dX8_addCart_28 ?_
        refine lv_iconst (v := nI (1)) hx hb dX8_addCart_31 (by decide) ?_
        refine lv_iconst (v := nI (4)) hx hb dX8_addCart_32 (by decide) ?_
        refine zVI [.int (nI (1)), .int (nI (4))] [] (kX6_refuse (a) (y) (b) (rs) (R) (nI (1)) (nI (4))) hx hb hml hown hts (cwV 2 hts gX8_addCart_X6_refuse rfl rfl rfl (by decide +kernel) ⟨(Nat.le_of_ble_eq_true rfl), (Nat.le_of_ble_eq_true rfl)⟩) hK hP hD hS hA (va_recv hK hP (ci := 5) (q0 := 13) rfl rfl) rfl hl.1 rfl (Nat.le_of_ble_eq_true rfl) dX8_addCart_33 ⟨(Nat.le_of_ble_eq_true rfl), (Nat.le_of_ble_eq_true rfl)⟩ (fun r_33 _ H locs hr_33 hP hD hS => ?_)
        subst hr_33
        have hP : va_P D vwCl (YW ct a y (KR a b ((nI (1)), (nI (4)), (-4), (-4)) R)) H := hP
        have hD : va_D A (YW ct a y (KR a b ((nI (1)), (nI (4)), (-4), (-4)) R)) := hD
        have e9 : f_addC y rs x1 = ((-3), y, ((nI (1)), (nI (4)), (-4), (-4))) := (by simp only [f_addC, setAt, yMove, rsOf, yWr, c2_1, c8_2, c24_3, p_in, p_worn, p_wi, p_creak, p_over, p_le0, p_lt1, not_true_eq_false, not_false_eq_true, if_true, if_false, and_true, true_and, and_false, false_and, or_true, true_or, or_false, false_or, and_self, or_self, iff_true, true_iff, iff_false, false_iff, decide_eq_true_eq, decide_true, decide_false, Int32.add_zero, Nat.add_zero, ne_eq, Bool.false_eq_true, eq_self])
        exact zIret () hx hb hr hlocks hK (by show va_P D vwCl (YW ct a (f_addC y rs x1).2.1 (KR a b (f_addC y rs x1).2.2 R)) H; rw [e9]; exact hP) (by show va_D A (YW ct a (f_addC y rs x1).2.1 (KR a b (f_addC y rs x1).2.2 R)); rw [e9]; exact hD) hS dX8_addCart_36 (show (-3) = (f_addC y rs x1).1 from (by rw [e9]))
    · skip
      refine lv_bipush (v := (-2)) hx hb dX8_addCart_11 (by decide) ?_
      have e9 : f_addC y rs x1 = ((-2), y, rs) := (by simp only [f_addC, setAt, yMove, rsOf, yWr, c2_1, c8_2, p_in, p_worn, p_wi, p_creak, p_over, p_le0, p_lt1, not_true_eq_false, not_false_eq_true, if_true, if_false, and_true, true_and, and_false, false_and, or_true, true_or, or_false, false_or, and_self, or_self, iff_true, true_iff, iff_false, false_iff, decide_eq_true_eq, decide_true, decide_false, Int32.add_zero, Nat.add_zero, ne_eq, Bool.false_eq_true, eq_self])
      exact zIret () hx hb hr hlocks hK (by show va_P D vwCl (YW ct a (f_addC y rs x1).2.1 (KR a b (f_addC y rs x1).2.2 R)) H; rw [e9]; exact hP) (by show va_D A (YW ct a (f_addC y rs x1).2.1 (KR a b (f_addC y rs x1).2.2 R)); rw [e9]; exact hD) hS dX8_addCart_13 (show (-2) = (f_addC y rs x1).1 from (by rw [e9]))
abbrev rmX8_addRoad : Room := { frames := 1, cells := 0, slots := 0, locals := 22 }
theorem in_X8_addRoad_X8 : ∀ w ∈ u_ws RX8 TX8 3, w ∈ wsX8_addRoad := by decide +kernel
theorem in_X8_addRoad_X9 : ∀ w ∈ u_ws RX9 TX9 16, w ∈ wsX8_addRoad := by decide +kernel
set_option maxHeartbeats 4000000 in
set_option maxRecDepth 100000 in
theorem kX8_addRoad {D : va_G} {ct : Nat → ClassId} {l : Launch} (a : Nat → Nat) (y : YS) (b : Nat → Nat) (rs : RS) (R : va_W) (x1 : Int32) (x2 : Int32) (x3 : Int32) (hr9 : y_rn y ≤ 5) : MI D ct l yX8_addRoad wsX8_addRoad rmX8_addRoad (YW ct a y (KR a b rs R)) [.ref (b 2), .int (x1), .int (x2), .int (x3)] (fun r0 (_ : Unit) => r0 = (f_addR y rs x1 x2 x3).1) (fun _ : Unit => YW ct a (f_addR y rs x1 x2 x3).2.1 (KR a b (f_addR y rs x1 x2 x3).2.2 R)) := by
  refine MIof (cc := cX8_addRoad) (maxL := 5) (ret := (some .int)) (by decide) rfl (Nat.le_of_ble_eq_true rfl) ?_
  intro p e s m args below meth c A H locs F hP hK hD hS hA ls hl
  obtain ⟨hx, hb, hr, hlocks, hml, hown, hts, hin⟩ := F
  have hl : lv_has ls 5 [(0, .ref (b 2)), (1, .int (x1)), (2, .int (x2)), (3, .int (x3))] := hl
  have h_X8 := in_X8_addRoad_X8
  have h_X9 := in_X8_addRoad_X9
  have f9 := hts (.fieldLink RX8 9 "CartArguments$Works" "yard" "LCartArguments$Yard;") (by decide +kernel)
  have f19 := hts (.fieldLink RX8 19 "CartArguments$Works" "reasons" "LCartArguments$Reasons;") (by decide +kernel)
  have f61 := hts (.fieldLink RX8 61 "CartArguments$Yard" "roads" "I") (by decide +kernel)
  have f64 := hts (.fieldLink RX8 64 "CartArguments$Yard" "limits" "[I") (by decide +kernel)
  have f67 := hts (.fieldLink RX8 67 "CartArguments$Yard" "miles" "[I") (by decide +kernel)
  have f70 := hts (.fieldLink RX8 70 "CartArguments$Yard" "rates" "[I") (by decide +kernel)
  have f73 := hts (.fieldLink RX8 73 "CartArguments$Yard" "roadTrips" "[I") (by decide +kernel)
  refine lv_iload_n hx hb dX8_addRoad_0 rfl (lv_at hl 1 rfl) ?_
  refine lv_iconst (v := nI (1)) hx hb dX8_addRoad_1 (by decide) ?_
  refine lv_icmp_lt (tgt := 32) hx hb dX8_addRoad_2 (by decide) (fun c2_1 => ?_) (fun c2_1 => ?_)
  · skip
    refine lv_bipush (v := (-2)) hx hb dX8_addRoad_32 (by decide) ?_
    have e9 : f_addR y rs x1 x2 x3 = ((-2), y, rs) := (by simp only [f_addR, setAt, yMove, rsOf, yWr, c2_1, p_in, p_worn, p_wi, p_creak, p_over, p_le0, p_lt1, not_true_eq_false, not_false_eq_true, if_true, if_false, and_true, true_and, and_false, false_and, or_true, true_or, or_false, false_or, and_self, or_self, iff_true, true_iff, iff_false, false_iff, decide_eq_true_eq, decide_true, decide_false, Int32.add_zero, Nat.add_zero, ne_eq, Bool.false_eq_true, eq_self])
    exact zIret () hx hb hr hlocks hK (by show va_P D vwCl (YW ct a (f_addR y rs x1 x2 x3).2.1 (KR a b (f_addR y rs x1 x2 x3).2.2 R)) H; rw [e9]; exact hP) (by show va_D A (YW ct a (f_addR y rs x1 x2 x3).2.1 (KR a b (f_addR y rs x1 x2 x3).2.2 R)); rw [e9]; exact hD) hS dX8_addRoad_34 (show (-2) = (f_addR y rs x1 x2 x3).1 from (by rw [e9]))
  · skip
    refine lv_iload_n hx hb dX8_addRoad_5 rfl (lv_at hl 1 rfl) ?_
    refine lv_bipush (v := nI (99)) hx hb dX8_addRoad_6 (by decide) ?_
    refine lv_icmp_gt (tgt := 32) hx hb dX8_addRoad_8 (by decide) (fun c8_2 => ?_) (fun c8_2 => ?_)
    · skip
      refine lv_bipush (v := (-2)) hx hb dX8_addRoad_32 (by decide) ?_
      have e9 : f_addR y rs x1 x2 x3 = ((-2), y, rs) := (by simp only [f_addR, setAt, yMove, rsOf, yWr, c2_1, c8_2, p_in, p_worn, p_wi, p_creak, p_over, p_le0, p_lt1, not_true_eq_false, not_false_eq_true, if_true, if_false, and_true, true_and, and_false, false_and, or_true, true_or, or_false, false_or, and_self, or_self, iff_true, true_iff, iff_false, false_iff, decide_eq_true_eq, decide_true, decide_false, Int32.add_zero, Nat.add_zero, ne_eq, Bool.false_eq_true, eq_self])
      exact zIret () hx hb hr hlocks hK (by show va_P D vwCl (YW ct a (f_addR y rs x1 x2 x3).2.1 (KR a b (f_addR y rs x1 x2 x3).2.2 R)) H; rw [e9]; exact hP) (by show va_D A (YW ct a (f_addR y rs x1 x2 x3).2.1 (KR a b (f_addR y rs x1 x2 x3).2.2 R)); rw [e9]; exact hD) hS dX8_addRoad_34 (show (-2) = (f_addR y rs x1 x2 x3).1 from (by rw [e9]))
    · skip
      refine lv_iload_n hx hb dX8_addRoad_11 rfl (lv_at hl 2 rfl) ?_
      refine lv_iconst (v := nI (1)) hx hb dX8_addRoad_12 (by decide) ?_
      refine lv_icmp_lt (tgt := 32) hx hb dX8_addRoad_13 (by decide) (fun c13_3 => ?_) (fun c13_3 => ?_)
      · skip
        refine lv_bipush (v := (-2)) hx hb dX8_addRoad_32 (by decide) ?_
        have e9 : f_addR y rs x1 x2 x3 = ((-2), y, rs) := (by simp only [f_addR, setAt, yMove, rsOf, yWr, c2_1, c8_2, c13_3, p_in, p_worn, p_wi, p_creak, p_over, p_le0, p_lt1, not_true_eq_false, not_false_eq_true, if_true, if_false, and_true, true_and, and_false, false_and, or_true, true_or, or_false, false_or, and_self, or_self, iff_true, true_iff, iff_false, false_iff, decide_eq_true_eq, decide_true, decide_false, Int32.add_zero, Nat.add_zero, ne_eq, Bool.false_eq_true, eq_self])
        exact zIret () hx hb hr hlocks hK (by show va_P D vwCl (YW ct a (f_addR y rs x1 x2 x3).2.1 (KR a b (f_addR y rs x1 x2 x3).2.2 R)) H; rw [e9]; exact hP) (by show va_D A (YW ct a (f_addR y rs x1 x2 x3).2.1 (KR a b (f_addR y rs x1 x2 x3).2.2 R)); rw [e9]; exact hD) hS dX8_addRoad_34 (show (-2) = (f_addR y rs x1 x2 x3).1 from (by rw [e9]))
      · skip
        refine lv_iload_n hx hb dX8_addRoad_16 rfl (lv_at hl 2 rfl) ?_
        refine lv_bipush (v := nI (9)) hx hb dX8_addRoad_17 (by decide) ?_
        refine lv_icmp_gt (tgt := 32) hx hb dX8_addRoad_19 (by decide) (fun c19_4 => ?_) (fun c19_4 => ?_)
        · skip
          refine lv_bipush (v := (-2)) hx hb dX8_addRoad_32 (by decide) ?_
          have e9 : f_addR y rs x1 x2 x3 = ((-2), y, rs) := (by simp only [f_addR, setAt, yMove, rsOf, yWr, c2_1, c8_2, c13_3, c19_4, p_in, p_worn, p_wi, p_creak, p_over, p_le0, p_lt1, not_true_eq_false, not_false_eq_true, if_true, if_false, and_true, true_and, and_false, false_and, or_true, true_or, or_false, false_or, and_self, or_self, iff_true, true_iff, iff_false, false_iff, decide_eq_true_eq, decide_true, decide_false, Int32.add_zero, Nat.add_zero, ne_eq, Bool.false_eq_true, eq_self])
          exact zIret () hx hb hr hlocks hK (by show va_P D vwCl (YW ct a (f_addR y rs x1 x2 x3).2.1 (KR a b (f_addR y rs x1 x2 x3).2.2 R)) H; rw [e9]; exact hP) (by show va_D A (YW ct a (f_addR y rs x1 x2 x3).2.1 (KR a b (f_addR y rs x1 x2 x3).2.2 R)); rw [e9]; exact hD) hS dX8_addRoad_34 (show (-2) = (f_addR y rs x1 x2 x3).1 from (by rw [e9]))
        · skip
          refine lv_iload_n hx hb dX8_addRoad_22 rfl (lv_at hl 3 rfl) ?_
          refine lv_if_lt (tgt := 32) hx hb dX8_addRoad_23 (by decide) (fun c23_5 => ?_) (fun c23_5 => ?_)
          · skip
            refine lv_bipush (v := (-2)) hx hb dX8_addRoad_32 (by decide) ?_
            have e9 : f_addR y rs x1 x2 x3 = ((-2), y, rs) := (by simp only [f_addR, setAt, yMove, rsOf, yWr, c2_1, c8_2, c13_3, c19_4, c23_5, p_in, p_worn, p_wi, p_creak, p_over, p_le0, p_lt1, not_true_eq_false, not_false_eq_true, if_true, if_false, and_true, true_and, and_false, false_and, or_true, true_or, or_false, false_or, and_self, or_self, iff_true, true_iff, iff_false, false_iff, decide_eq_true_eq, decide_true, decide_false, Int32.add_zero, Nat.add_zero, ne_eq, Bool.false_eq_true, eq_self])
            exact zIret () hx hb hr hlocks hK (by show va_P D vwCl (YW ct a (f_addR y rs x1 x2 x3).2.1 (KR a b (f_addR y rs x1 x2 x3).2.2 R)) H; rw [e9]; exact hP) (by show va_D A (YW ct a (f_addR y rs x1 x2 x3).2.1 (KR a b (f_addR y rs x1 x2 x3).2.2 R)); rw [e9]; exact hD) hS dX8_addRoad_34 (show (-2) = (f_addR y rs x1 x2 x3).1 from (by rw [e9]))
          · skip
            refine lv_iload_n hx hb dX8_addRoad_26 rfl (lv_at hl 3 rfl) ?_
            refine lv_bipush (v := nI (9)) hx hb dX8_addRoad_27 (by decide) ?_
            refine lv_icmp_le (tgt := 35) hx hb dX8_addRoad_29 (by decide) (fun c29_6 => ?_) (fun c29_6 => ?_)
            · skip
              refine lv_aload_n hx hb dX8_addRoad_35 rfl (lv_at hl 0 rfl) ?_
              refine va_get (ci := 7) (v := .ref (a 0)) hx hb hts h_X8 hown hK hP 14 rfl rfl 0 (by decide) f9 (fun _ h9 => h9) rfl dX8_addRoad_36 ?_
              refine va_get (ci := 8) (v := .int (nI (y_rn y))) hx hb hts h_X9 hown hK hP 0 rfl rfl 9 (by decide) f61 (fun _ h9 => h9) rfl dX8_addRoad_39 ?_
              refine lv_istore (lv' := [(4, .int (nI (y_rn y))), (0, .ref (b 2)), (1, .int (x1)), (2, .int (x2)), (3, .int (x3))]) hx hb dX8_addRoad_42 hl (by decide) rfl (fun ls hl => ?_)
              refine lv_iload hx hb dX8_addRoad_44 (lv_at hl 0 rfl) ?_
              refine lv_iconst (v := nI (5)) hx hb dX8_addRoad_46 (by decide) ?_
              refine zN_icmp_lt (tgt := 60) hx hb (by omega) (by omega) dX8_addRoad_47 (by decide) (fun c47_7 => ?_) (fun c47_7 => ?_)
              · skip
                refine lv_aload_n hx hb dX8_addRoad_60 rfl (lv_at hl 1 rfl) ?_
                refine va_get (ci := 7) (v := .ref (a 0)) hx hb hts h_X8 hown hK hP 14 rfl rfl 0 (by decide) f9 (fun _ h9 => h9) rfl dX8_addRoad_61 ?_
                refine va_get (ci := 8) (v := .ref (a 8)) hx hb hts h_X9 hown hK hP 0 rfl rfl 10 (by decide) f64 (fun _ h9 => h9) rfl dX8_addRoad_64 ?_
                refine lv_iload hx hb dX8_addRoad_67 (lv_at hl 0 rfl) ?_
                refine lv_iload_n hx hb dX8_addRoad_69 rfl (lv_at hl 2 rfl) ?_
                refine zIast (n := 5) (f := y_li y) (i := y_rn y) hx hb hK hP hD hS 8 rfl (by omega) (by decide) dX8_addRoad_70 (fun H locs hP hD hS => ?_)
                have hP : va_P D vwCl (YW ct a (y_n y, y_kd y, y_w y, y_cu y, y_pl y, y_cn y, y_st y, y_wr y, y_tr y, y_rn y, (upd (y_li y) (y_rn y) (x1)), y_mi y, y_ra y, y_rt y, y_tl y, y_mm y) (KR a b rs R)) H := hP
                have hD : va_D A (YW ct a (y_n y, y_kd y, y_w y, y_cu y, y_pl y, y_cn y, y_st y, y_wr y, y_tr y, y_rn y, (upd (y_li y) (y_rn y) (x1)), y_mi y, y_ra y, y_rt y, y_tl y, y_mm y) (KR a b rs R)) := hD
                refine lv_aload_n hx hb dX8_addRoad_71 rfl (lv_at hl 1 rfl) ?_
                refine va_get (ci := 7) (v := .ref (a 0)) hx hb hts h_X8 hown hK hP 14 rfl rfl 0 (by decide) f9 (fun _ h9 => h9) rfl dX8_addRoad_72 ?_
                refine va_get (ci := 8) (v := .ref (a 9)) hx hb hts h_X9 hown hK hP 0 rfl rfl 11 (by decide) f67 (fun _ h9 => h9) rfl dX8_addRoad_75 ?_
                refine lv_iload hx hb dX8_addRoad_78 (lv_at hl 0 rfl) ?_
                refine lv_iload_n hx hb dX8_addRoad_80 rfl (lv_at hl 3 rfl) ?_
                refine zIast (n := 5) (f := y_mi y) (i := y_rn y) hx hb hK hP hD hS 9 rfl (by omega) (by decide) dX8_addRoad_81 (fun H locs hP hD hS => ?_)
                have hP : va_P D vwCl (YW ct a (y_n y, y_kd y, y_w y, y_cu y, y_pl y, y_cn y, y_st y, y_wr y, y_tr y, y_rn y, (upd (y_li y) (y_rn y) (x1)), (upd (y_mi y) (y_rn y) (x2)), y_ra y, y_rt y, y_tl y, y_mm y) (KR a b rs R)) H := hP
                have hD : va_D A (YW ct a (y_n y, y_kd y, y_w y, y_cu y, y_pl y, y_cn y, y_st y, y_wr y, y_tr y, y_rn y, (upd (y_li y) (y_rn y) (x1)), (upd (y_mi y) (y_rn y) (x2)), y_ra y, y_rt y, y_tl y, y_mm y) (KR a b rs R)) := hD
                refine lv_aload_n hx hb dX8_addRoad_82 rfl (lv_at hl 1 rfl) ?_
                refine va_get (ci := 7) (v := .ref (a 0)) hx hb hts h_X8 hown hK hP 14 rfl rfl 0 (by decide) f9 (fun _ h9 => h9) rfl dX8_addRoad_83 ?_
                refine va_get (ci := 8) (v := .ref (a 10)) hx hb hts h_X9 hown hK hP 0 rfl rfl 12 (by decide) f70 (fun _ h9 => h9) rfl dX8_addRoad_86 ?_
                refine lv_iload hx hb dX8_addRoad_89 (lv_at hl 0 rfl) ?_
                refine lv_iload_n hx hb dX8_addRoad_91 rfl (lv_at hl 4 rfl) ?_
                refine zIast (n := 5) (f := y_ra y) (i := y_rn y) hx hb hK hP hD hS 10 rfl (by omega) (by decide) dX8_addRoad_92 (fun H locs hP hD hS => ?_)
                have hP : va_P D vwCl (YW ct a (y_n y, y_kd y, y_w y, y_cu y, y_pl y, y_cn y, y_st y, y_wr y, y_tr y, y_rn y, (upd (y_li y) (y_rn y) (x1)), (upd (y_mi y) (y_rn y) (x2)), (upd (y_ra y) (y_rn y) (x3)), y_rt y, y_tl y, y_mm y) (KR a b rs R)) H := hP
                have hD : va_D A (YW ct a (y_n y, y_kd y, y_w y, y_cu y, y_pl y, y_cn y, y_st y, y_wr y, y_tr y, y_rn y, (upd (y_li y) (y_rn y) (x1)), (upd (y_mi y) (y_rn y) (x2)), (upd (y_ra y) (y_rn y) (x3)), y_rt y, y_tl y, y_mm y) (KR a b rs R)) := hD
                refine lv_aload_n hx hb dX8_addRoad_93 rfl (lv_at hl 1 rfl) ?_
                refine va_get (ci := 7) (v := .ref (a 0)) hx hb hts h_X8 hown hK hP 14 rfl rfl 0 (by decide) f9 (fun _ h9 => h9) rfl dX8_addRoad_94 ?_
                refine va_get (ci := 8) (v := .ref (a 11)) hx hb hts h_X9 hown hK hP 0 rfl rfl 13 (by decide) f73 (fun _ h9 => h9) rfl dX8_addRoad_97 ?_
                refine lv_iload hx hb dX8_addRoad_100 (lv_at hl 0 rfl) ?_
                refine lv_iconst (v := nI (0)) hx hb dX8_addRoad_102 (by decide) ?_
                refine zIast (n := 5) (f := y_rt y) (i := y_rn y) hx hb hK hP hD hS 11 rfl (by omega) (by decide) dX8_addRoad_103 (fun H locs hP hD hS => ?_)
                have hP : va_P D vwCl (YW ct a (y_n y, y_kd y, y_w y, y_cu y, y_pl y, y_cn y, y_st y, y_wr y, y_tr y, y_rn y, (upd (y_li y) (y_rn y) (x1)), (upd (y_mi y) (y_rn y) (x2)), (upd (y_ra y) (y_rn y) (x3)), (upd (y_rt y) (y_rn y) (nI (0))), y_tl y, y_mm y) (KR a b rs R)) H := hP
                have hD : va_D A (YW ct a (y_n y, y_kd y, y_w y, y_cu y, y_pl y, y_cn y, y_st y, y_wr y, y_tr y, y_rn y, (upd (y_li y) (y_rn y) (x1)), (upd (y_mi y) (y_rn y) (x2)), (upd (y_ra y) (y_rn y) (x3)), (upd (y_rt y) (y_rn y) (nI (0))), y_tl y, y_mm y) (KR a b rs R)) := hD
                refine lv_aload_n hx hb dX8_addRoad_104 rfl (lv_at hl 1 rfl) ?_
                refine va_get (ci := 7) (v := .ref (a 0)) hx hb hts h_X8 hown hK hP 14 rfl rfl 0 (by decide) f9 (fun _ h9 => h9) rfl dX8_addRoad_105 ?_
                refine lv_iload hx hb dX8_addRoad_108 (lv_at hl 0 rfl) ?_
                refine lv_iconst (v := nI (1)) hx hb dX8_addRoad_110 (by decide) ?_
                refine zNadd hx hb dX8_addRoad_111 ?_
                refine va_put (ci := 8) (v := .int (nI ((y_rn y + 1)))) (ty := .int) hx hb hts h_X9 tyX9 tyX9_ok nmX9 hown hK hP hD hS 0 rfl rfl 9 (by decide) f61 (fun _ h9 => h9) rfl (by decide +kernel) rfl rfl (Nat.le_of_ble_eq_true rfl) dX8_addRoad_112 (fun H locs hP hD hS => ?_)
                have hP : va_P D vwCl (YW ct a (y_n y, y_kd y, y_w y, y_cu y, y_pl y, y_cn y, y_st y, y_wr y, y_tr y, (y_rn y + 1), (upd (y_li y) (y_rn y) (x1)), (upd (y_mi y) (y_rn y) (x2)), (upd (y_ra y) (y_rn y) (x3)), (upd (y_rt y) (y_rn y) (nI (0))), y_tl y, y_mm y) (KR a b rs R)) H := hP
                have hD : va_D A (YW ct a (y_n y, y_kd y, y_w y, y_cu y, y_pl y, y_cn y, y_st y, y_wr y, y_tr y, (y_rn y + 1), (upd (y_li y) (y_rn y) (x1)), (upd (y_mi y) (y_rn y) (x2)), (upd (y_ra y) (y_rn y) (x3)), (upd (y_rt y) (y_rn y) (nI (0))), y_tl y, y_mm y) (KR a b rs R)) := hD
                refine lv_iload hx hb dX8_addRoad_115 (lv_at hl 0 rfl) ?_
                have e9 : f_addR y rs x1 x2 x3 = (nI (y_rn y), (y_n y, y_kd y, y_w y, y_cu y, y_pl y, y_cn y, y_st y, y_wr y, y_tr y, (y_rn y + 1), (upd (y_li y) (y_rn y) (x1)), (upd (y_mi y) (y_rn y) (x2)), (upd (y_ra y) (y_rn y) (x3)), (upd (y_rt y) (y_rn y) (nI (0))), y_tl y, y_mm y), rs) := (by simp only [f_addR, setAt, yMove, rsOf, yWr, c2_1, c8_2, c13_3, c19_4, c23_5, c29_6, c47_7, p_in, p_worn, p_wi, p_creak, p_over, p_le0, p_lt1, not_true_eq_false, not_false_eq_true, if_true, if_false, and_true, true_and, and_false, false_and, or_true, true_or, or_false, false_or, and_self, or_self, iff_true, true_iff, iff_false, false_iff, decide_eq_true_eq, decide_true, decide_false, Int32.add_zero, Nat.add_zero, ne_eq, Bool.false_eq_true, eq_self])
                exact zIret () hx hb hr hlocks hK (by show va_P D vwCl (YW ct a (f_addR y rs x1 x2 x3).2.1 (KR a b (f_addR y rs x1 x2 x3).2.2 R)) H; rw [e9]; exact hP) (by show va_D A (YW ct a (f_addR y rs x1 x2 x3).2.1 (KR a b (f_addR y rs x1 x2 x3).2.2 R)); rw [e9]; exact hD) hS dX8_addRoad_117 (show nI (y_rn y) = (f_addR y rs x1 x2 x3).1 from (by rw [e9]))
              · skip
                refine lv_aload_n hx hb dX8_addRoad_50 rfl (lv_at hl 1 rfl) ?_
                refine va_get (ci := 7) (v := .ref (b 1)) hx hb hts h_X8 hown hK hP 14 rfl rfl 2 (by decide) f19 (fun _ h9 => h9) rfl dX8_addRoad_51 ?_
                refine lv_iconst (v := nI (1)) hx hb dX8_addRoad_54 (by decide) ?_
                refine lv_iconst (v := nI (5)) hx hb dX8_addRoad_55 (by decide) ?_
                refine zVI [.int (nI (1)), .int (nI (5))] [] (kX6_refuse (a) (y) (b) (rs) (R) (nI (1)) (nI (5))) hx hb hml hown hts (cwV 2 hts gX8_addRoad_X6_refuse rfl rfl rfl (by decide +kernel) ⟨(Nat.le_of_ble_eq_true rfl), (Nat.le_of_ble_eq_true rfl)⟩) hK hP hD hS hA (va_recv hK hP (ci := 5) (q0 := 13) rfl rfl) rfl hl.1 rfl (Nat.le_of_ble_eq_true rfl) dX8_addRoad_56 ⟨(Nat.le_of_ble_eq_true rfl), (Nat.le_of_ble_eq_true rfl)⟩ (fun r_56 _ H locs hr_56 hP hD hS => ?_)
                subst hr_56
                have hP : va_P D vwCl (YW ct a y (KR a b ((nI (1)), (nI (5)), (-4), (-4)) R)) H := hP
                have hD : va_D A (YW ct a y (KR a b ((nI (1)), (nI (5)), (-4), (-4)) R)) := hD
                have e9 : f_addR y rs x1 x2 x3 = ((-3), y, ((nI (1)), (nI (5)), (-4), (-4))) := (by simp only [f_addR, setAt, yMove, rsOf, yWr, c2_1, c8_2, c13_3, c19_4, c23_5, c29_6, c47_7, p_in, p_worn, p_wi, p_creak, p_over, p_le0, p_lt1, not_true_eq_false, not_false_eq_true, if_true, if_false, and_true, true_and, and_false, false_and, or_true, true_or, or_false, false_or, and_self, or_self, iff_true, true_iff, iff_false, false_iff, decide_eq_true_eq, decide_true, decide_false, Int32.add_zero, Nat.add_zero, ne_eq, Bool.false_eq_true, eq_self])
                exact zIret () hx hb hr hlocks hK (by show va_P D vwCl (YW ct a (f_addR y rs x1 x2 x3).2.1 (KR a b (f_addR y rs x1 x2 x3).2.2 R)) H; rw [e9]; exact hP) (by show va_D A (YW ct a (f_addR y rs x1 x2 x3).2.1 (KR a b (f_addR y rs x1 x2 x3).2.2 R)); rw [e9]; exact hD) hS dX8_addRoad_59 (show (-3) = (f_addR y rs x1 x2 x3).1 from (by rw [e9]))
            · skip
              refine lv_bipush (v := (-2)) hx hb dX8_addRoad_32 (by decide) ?_
              have e9 : f_addR y rs x1 x2 x3 = ((-2), y, rs) := (by simp only [f_addR, setAt, yMove, rsOf, yWr, c2_1, c8_2, c13_3, c19_4, c23_5, c29_6, p_in, p_worn, p_wi, p_creak, p_over, p_le0, p_lt1, not_true_eq_false, not_false_eq_true, if_true, if_false, and_true, true_and, and_false, false_and, or_true, true_or, or_false, false_or, and_self, or_self, iff_true, true_iff, iff_false, false_iff, decide_eq_true_eq, decide_true, decide_false, Int32.add_zero, Nat.add_zero, ne_eq, Bool.false_eq_true, eq_self])
              exact zIret () hx hb hr hlocks hK (by show va_P D vwCl (YW ct a (f_addR y rs x1 x2 x3).2.1 (KR a b (f_addR y rs x1 x2 x3).2.2 R)) H; rw [e9]; exact hP) (by show va_D A (YW ct a (f_addR y rs x1 x2 x3).2.1 (KR a b (f_addR y rs x1 x2 x3).2.2 R)); rw [e9]; exact hD) hS dX8_addRoad_34 (show (-2) = (f_addR y rs x1 x2 x3).1 from (by rw [e9]))
abbrev rmX8_putOn : Room := { frames := 2, cells := 0, slots := 0, locals := 45 }
theorem in_X8_putOn_X8 : ∀ w ∈ u_ws RX8 TX8 3, w ∈ wsX8_putOn := by decide +kernel
theorem in_X8_putOn_X9 : ∀ w ∈ u_ws RX9 TX9 16, w ∈ wsX8_putOn := by decide +kernel
set_option maxHeartbeats 4000000 in
set_option maxRecDepth 100000 in
theorem kX8_putOn {D : va_G} {ct : Nat → ClassId} {l : Launch} (a : Nat → Nat) (y : YS) (b : Nat → Nat) (rs : RS) (R : va_W) (x1 : Int32) (x2 : Int32) (x3 : Int32) (hn : y_n y ≤ 12) : MI D ct l yX8_putOn wsX8_putOn rmX8_putOn (YW ct a y (KR a b rs R)) [.ref (b 2), .int (x1), .int (x2), .int (x3)] (fun r0 (_ : Unit) => r0 = (f_put y rs x1 x2 x3).1) (fun _ : Unit => YW ct a (f_put y rs x1 x2 x3).2.1 (KR a b (f_put y rs x1 x2 x3).2.2 R)) := by
  refine MIof (cc := cX8_putOn) (maxL := 7) (ret := (some .int)) (by decide) rfl (Nat.le_of_ble_eq_true rfl) ?_
  intro p e s m args below meth c A H locs F hP hK hD hS hA ls hl
  obtain ⟨hx, hb, hr, hlocks, hml, hown, hts, hin⟩ := F
  have hl : lv_has ls 7 [(0, .ref (b 2)), (1, .int (x1)), (2, .int (x2)), (3, .int (x3))] := hl
  have h_X8 := in_X8_putOn_X8
  have h_X9 := in_X8_putOn_X9
  have f9 := hts (.fieldLink RX8 9 "CartArguments$Works" "yard" "LCartArguments$Yard;") (by decide +kernel)
  have f19 := hts (.fieldLink RX8 19 "CartArguments$Works" "reasons" "LCartArguments$Reasons;") (by decide +kernel)
  have f35 := hts (.fieldLink RX8 35 "CartArguments$Yard" "kinds" "[I") (by decide +kernel)
  have f39 := hts (.fieldLink RX8 39 "CartArguments$Yard" "weights" "[I") (by decide +kernel)
  have f42 := hts (.fieldLink RX8 42 "CartArguments$Yard" "cartsUnder" "[I") (by decide +kernel)
  have f45 := hts (.fieldLink RX8 45 "CartArguments$Yard" "places" "[I") (by decide +kernel)
  refine lv_aload_n hx hb dX8_putOn_0 rfl (lv_at hl 0 rfl) ?_
  refine va_get (ci := 7) (v := .ref (a 0)) hx hb hts h_X8 hown hK hP 14 rfl rfl 0 (by decide) f9 (fun _ h9 => h9) rfl dX8_putOn_1 ?_
  refine lv_iload_n hx hb dX8_putOn_4 rfl (lv_at hl 1 rfl) ?_
  refine zVI [.int (x1)] [] (kX9_isThing (a) (y) (KR a b rs R) (x1)) hx hb hml hown hts (cwV 1 hts gX8_putOn_X9_isThing rfl rfl rfl (by decide +kernel) ⟨(Nat.le_of_ble_eq_true rfl), (Nat.le_of_ble_eq_true rfl)⟩) hK hP hD hS hA (va_recv hK hP (ci := 8) (q0 := 0) rfl rfl) rfl hl.1 rfl (Nat.le_of_ble_eq_true rfl) dX8_putOn_5 ⟨(Nat.le_of_ble_eq_true rfl), (Nat.le_of_ble_eq_true rfl)⟩ (fun r_5 _ H locs hr_5 hP hD hS => ?_)
  subst hr_5
  have hP : va_P D vwCl (YW ct a y (KR a b rs R)) H := hP
  have hD : va_D A (YW ct a y (KR a b rs R)) := hD
  refine zB_if_eq (tgt := 22) hx hb dX8_putOn_8 (by decide) (fun c8_1 => ?_) (fun c8_1 => ?_)
  · skip
    refine lv_iconst (v := (-1)) hx hb dX8_putOn_22 (by decide) ?_
    have e9 : f_put y rs x1 x2 x3 = ((-1), y, rs) := (by simp only [f_put, setAt, yMove, rsOf, yWr, c8_1, p_in, p_worn, p_wi, p_creak, p_over, p_le0, p_lt1, not_true_eq_false, not_false_eq_true, if_true, if_false, and_true, true_and, and_false, false_and, or_true, true_or, or_false, false_or, and_self, or_self, iff_true, true_iff, iff_false, false_iff, decide_eq_true_eq, decide_true, decide_false, Int32.add_zero, Nat.add_zero, ne_eq, Bool.false_eq_true, eq_self])
    exact zIret () hx hb hr hlocks hK (by show va_P D vwCl (YW ct a (f_put y rs x1 x2 x3).2.1 (KR a b (f_put y rs x1 x2 x3).2.2 R)) H; rw [e9]; exact hP) (by show va_D A (YW ct a (f_put y rs x1 x2 x3).2.1 (KR a b (f_put y rs x1 x2 x3).2.2 R)); rw [e9]; exact hD) hS dX8_putOn_23 (show (-1) = (f_put y rs x1 x2 x3).1 from (by rw [e9]))
  · skip
    obtain ⟨k1, hk1, ek1⟩ := p_in_ex (n := y_n y) (by omega) c8_1
    subst ek1
    have hclk1 : (nI k1).toNatClampNeg = k1 := nI_clamp (by omega)
    refine lv_aload_n hx hb dX8_putOn_11 rfl (lv_at hl 0 rfl) ?_
    refine va_get (ci := 7) (v := .ref (a 0)) hx hb hts h_X8 hown hK hP 14 rfl rfl 0 (by decide) f9 (fun _ h9 => h9) rfl dX8_putOn_12 ?_
    refine lv_iload_n hx hb dX8_putOn_15 rfl (lv_at hl 2 rfl) ?_
    refine zVI [.int (x2)] [] (kX9_isCart (a) (y) (KR a b rs R) (x2)) hx hb hml hown hts (cwV 1 hts gX8_putOn_X9_isCart rfl rfl rfl (by decide +kernel) ⟨(Nat.le_of_ble_eq_true rfl), (Nat.le_of_ble_eq_true rfl)⟩) hK hP hD hS hA (va_recv hK hP (ci := 8) (q0 := 0) rfl rfl) rfl hl.1 rfl (Nat.le_of_ble_eq_true rfl) dX8_putOn_16 ⟨(Nat.le_of_ble_eq_true rfl), (Nat.le_of_ble_eq_true rfl)⟩ (fun r_16 _ H locs hr_16 hP hD hS => ?_)
    subst hr_16
    have hP : va_P D vwCl (YW ct a y (KR a b rs R)) H := hP
    have hD : va_D A (YW ct a y (KR a b rs R)) := hD
    refine zB_if_ne (tgt := 24) hx hb dX8_putOn_19 (by decide) (fun c19_2 => ?_) (fun c19_2 => ?_)
    · skip
      refine lv_iload_n hx hb dX8_putOn_24 rfl (lv_at hl 3 rfl) ?_
      refine lv_if_lt (tgt := 34) hx hb dX8_putOn_25 (by decide) (fun c25_3 => ?_) (fun c25_3 => ?_)
      · skip
        refine lv_bipush (v := (-2)) hx hb dX8_putOn_34 (by decide) ?_
        have e9 : f_put y rs (nI k1) x2 x3 = ((-2), y, rs) := (by simp only [f_put, setAt, yMove, rsOf, yWr, c8_1, hclk1, c19_2, c25_3, p_in, p_worn, p_wi, p_creak, p_over, p_le0, p_lt1, not_true_eq_false, not_false_eq_true, if_true, if_false, and_true, true_and, and_false, false_and, or_true, true_or, or_false, false_or, and_self, or_self, iff_true, true_iff, iff_false, false_iff, decide_eq_true_eq, decide_true, decide_false, Int32.add_zero, Nat.add_zero, ne_eq, Bool.false_eq_true, eq_self])
        exact zIret () hx hb hr hlocks hK (by show va_P D vwCl (YW ct a (f_put y rs (nI k1) x2 x3).2.1 (KR a b (f_put y rs (nI k1) x2 x3).2.2 R)) H; rw [e9]; exact hP) (by show va_D A (YW ct a (f_put y rs (nI k1) x2 x3).2.1 (KR a b (f_put y rs (nI k1) x2 x3).2.2 R)); rw [e9]; exact hD) hS dX8_putOn_36 (show (-2) = (f_put y rs (nI k1) x2 x3).1 from (by rw [e9]))
      · skip
        refine lv_iload_n hx hb dX8_putOn_28 rfl (lv_at hl 3 rfl) ?_
        refine lv_bipush (v := nI (6)) hx hb dX8_putOn_29 (by decide) ?_
        refine lv_icmp_le (tgt := 37) hx hb dX8_putOn_31 (by decide) (fun c31_4 => ?_) (fun c31_4 => ?_)
        · skip
          refine lv_aload_n hx hb dX8_putOn_37 rfl (lv_at hl 0 rfl) ?_
          refine va_get (ci := 7) (v := .ref (a 0)) hx hb hts h_X8 hown hK hP 14 rfl rfl 0 (by decide) f9 (fun _ h9 => h9) rfl dX8_putOn_38 ?_
          refine va_get (ci := 8) (v := .ref (a 3)) hx hb hts h_X9 hown hK hP 0 rfl rfl 3 (by decide) f42 (fun _ h9 => h9) rfl dX8_putOn_41 ?_
          refine lv_iload_n hx hb dX8_putOn_44 rfl (lv_at hl 1 rfl) ?_
          refine zIald (n := 12) (f := y_cu y) (i := k1) hx hb hK hP 3 rfl (by omega) (by decide) dX8_putOn_45 ?_
          refine lv_bipush (v := (-4)) hx hb dX8_putOn_46 (by decide) ?_
          refine lv_icmp_eq (tgt := 69) hx hb dX8_putOn_48 (by decide) (fun c48_5 => ?_) (fun c48_5 => ?_)
          · skip
            refine lv_aload_n hx hb dX8_putOn_69 rfl (lv_at hl 0 rfl) ?_
            refine va_get (ci := 7) (v := .ref (a 0)) hx hb hts h_X8 hown hK hP 14 rfl rfl 0 (by decide) f9 (fun _ h9 => h9) rfl dX8_putOn_70 ?_
            refine va_get (ci := 8) (v := .ref (a 1)) hx hb hts h_X9 hown hK hP 0 rfl rfl 1 (by decide) f35 (fun _ h9 => h9) rfl dX8_putOn_73 ?_
            refine lv_iload_n hx hb dX8_putOn_76 rfl (lv_at hl 1 rfl) ?_
            refine zIald (n := 12) (f := y_kd y) (i := k1) hx hb hK hP 1 rfl (by omega) (by decide) dX8_putOn_77 ?_
            refine lv_iconst (v := nI (1)) hx hb dX8_putOn_78 (by decide) ?_
            refine lv_icmp_ne (tgt := 86) hx hb dX8_putOn_79 (by decide) (fun c79_6 => ?_) (fun c79_6 => ?_)
            · skip
              refine lv_iconst (v := nI (0)) hx hb dX8_putOn_86 (by decide) ?_
              refine lv_istore (lv' := [(4, .int (nI (0))), (0, .ref (b 2)), (1, .int (nI (k1))), (2, .int (x2)), (3, .int (x3))]) hx hb dX8_putOn_87 hl (by decide) rfl (fun ls hl => ?_)
              refine lv_iload hx hb dX8_putOn_89 (lv_at hl 0 rfl) ?_
              refine lv_iload_n hx hb dX8_putOn_91 rfl (lv_at hl 4 rfl) ?_
              refine lv_bipush (v := nI (6)) hx hb dX8_putOn_92 (by decide) ?_
              refine lv_icmp_ne (tgt := 101) hx hb dX8_putOn_94 (by decide) (fun c94_7 => ?_) (fun c94_7 => ?_)
              · skip
                refine lv_iconst (v := nI (0)) hx hb dX8_putOn_101 (by decide) ?_
                refine lv_icmp_eq (tgt := 115) hx hb dX8_putOn_102 (by decide) (fun c9 => ?_) (fun c9 => absurd (by decide) c9)
                refine lv_aload_n hx hb dX8_putOn_115 rfl (lv_at hl 1 rfl) ?_
                refine va_get (ci := 7) (v := .ref (a 0)) hx hb hts h_X8 hown hK hP 14 rfl rfl 0 (by decide) f9 (fun _ h9 => h9) rfl dX8_putOn_116 ?_
                refine lv_iload_n hx hb dX8_putOn_119 rfl (lv_at hl 3 rfl) ?_
                refine lv_iload_n hx hb dX8_putOn_120 rfl (lv_at hl 4 rfl) ?_
                refine zVI [.int (x2), .int (x3)] [] (kX9_thingAt (a) (y) (KR a b rs R) (x2) (x3) (show y_n y ≤ 12 from by omega)) hx hb hml hown hts (cwV 2 hts gX8_putOn_X9_thingAt rfl rfl rfl (by decide +kernel) ⟨(Nat.le_of_ble_eq_true rfl), (Nat.le_of_ble_eq_true rfl)⟩) hK hP hD hS hA (va_recv hK hP (ci := 8) (q0 := 0) rfl rfl) rfl hl.1 rfl (Nat.le_of_ble_eq_true rfl) dX8_putOn_121 ⟨(Nat.le_of_ble_eq_true rfl), (Nat.le_of_ble_eq_true rfl)⟩ (fun r_121 _ H locs hr_121 hP hD hS => ?_)
                subst hr_121
                have hP : va_P D vwCl (YW ct a y (KR a b rs R)) H := hP
                have hD : va_D A (YW ct a y (KR a b rs R)) := hD
                refine lv_istore (lv' := [(5, .int ((t_at y (x2) (x3)))), (4, .int (nI (0))), (0, .ref (b 2)), (1, .int (nI (k1))), (2, .int (x2)), (3, .int (x3))]) hx hb dX8_putOn_124 hl (by decide) rfl (fun ls hl => ?_)
                refine lv_iload hx hb dX8_putOn_126 (lv_at hl 0 rfl) ?_
                refine lv_bipush (v := (-4)) hx hb dX8_putOn_128 (by decide) ?_
                refine lv_icmp_eq (tgt := 144) hx hb dX8_putOn_130 (by decide) (fun c130_9 => ?_) (fun c130_9 => ?_)
                · skip
                  refine lv_aload_n hx hb dX8_putOn_144 rfl (lv_at hl 2 rfl) ?_
                  refine va_get (ci := 7) (v := .ref (a 0)) hx hb hts h_X8 hown hK hP 14 rfl rfl 0 (by decide) f9 (fun _ h9 => h9) rfl dX8_putOn_145 ?_
                  refine va_get (ci := 8) (v := .ref (a 2)) hx hb hts h_X9 hown hK hP 0 rfl rfl 2 (by decide) f39 (fun _ h9 => h9) rfl dX8_putOn_148 ?_
                  refine lv_iload_n hx hb dX8_putOn_151 rfl (lv_at hl 3 rfl) ?_
                  refine zIald (n := 12) (f := y_w y) (i := k1) hx hb hK hP 2 rfl (by omega) (by decide) dX8_putOn_152 ?_
                  refine lv_aload_n hx hb dX8_putOn_153 rfl (lv_at hl 2 rfl) ?_
                  refine va_get (ci := 7) (v := .ref (a 0)) hx hb hts h_X8 hown hK hP 14 rfl rfl 0 (by decide) f9 (fun _ h9 => h9) rfl dX8_putOn_154 ?_
                  refine lv_iload_n hx hb dX8_putOn_157 rfl (lv_at hl 4 rfl) ?_
                  refine lv_iconst (v := nI (0)) hx hb dX8_putOn_158 (by decide) ?_
                  refine zVI [.int (x2), .int (nI (0))] [.int ((y_w y (k1)))] (kX9_weightOn (a) (y) (KR a b rs R) (x2) (nI (0)) (show y_n y ≤ 12 from by omega)) hx hb hml hown hts (cwV 2 hts gX8_putOn_X9_weightOn rfl rfl rfl (by decide +kernel) ⟨(Nat.le_of_ble_eq_true rfl), (Nat.le_of_ble_eq_true rfl)⟩) hK hP hD hS hA (va_recv hK hP (ci := 8) (q0 := 0) rfl rfl) rfl hl.1 rfl (Nat.le_of_ble_eq_true rfl) dX8_putOn_159 ⟨(Nat.le_of_ble_eq_true rfl), (Nat.le_of_ble_eq_true rfl)⟩ (fun r_159 _ H locs hr_159 hP hD hS => ?_)
                  subst hr_159
                  have hP : va_P D vwCl (YW ct a y (KR a b rs R)) H := hP
                  have hD : va_D A (YW ct a y (KR a b rs R)) := hD
                  refine lv_isub hx hb dX8_putOn_162 ?_
                  refine lv_istore (lv' := [(6, .int (((y_w y (k1)) - (t_wo y (x2) (nI (0)))))), (5, .int ((t_at y (x2) (x3)))), (4, .int (nI (0))), (0, .ref (b 2)), (1, .int (nI (k1))), (2, .int (x2)), (3, .int (x3))]) hx hb dX8_putOn_163 hl (by decide) rfl (fun ls hl => ?_)
                  refine lv_iload hx hb dX8_putOn_165 (lv_at hl 2 rfl) ?_
                  refine lv_if_eq (tgt := 186) hx hb dX8_putOn_167 (by decide) (fun c9 => ?_) (fun c9 => absurd (by decide) c9)
                  refine lv_aload_n hx hb dX8_putOn_186 rfl (lv_at hl 3 rfl) ?_
                  refine va_get (ci := 7) (v := .ref (a 0)) hx hb hts h_X8 hown hK hP 14 rfl rfl 0 (by decide) f9 (fun _ h9 => h9) rfl dX8_putOn_187 ?_
                  refine va_get (ci := 8) (v := .ref (a 3)) hx hb hts h_X9 hown hK hP 0 rfl rfl 3 (by decide) f42 (fun _ h9 => h9) rfl dX8_putOn_190 ?_
                  refine lv_iload_n hx hb dX8_putOn_193 rfl (lv_at hl 4 rfl) ?_
                  refine lv_iload_n hx hb dX8_putOn_194 rfl (lv_at hl 5 rfl) ?_
                  refine zIast (n := 12) (f := y_cu y) (i := k1) hx hb hK hP hD hS 3 rfl (by omega) (by decide) dX8_putOn_195 (fun H locs hP hD hS => ?_)
                  have hP : va_P D vwCl (YW ct a (y_n y, y_kd y, y_w y, (upd (y_cu y) (k1) (x2)), y_pl y, y_cn y, y_st y, y_wr y, y_tr y, y_rn y, y_li y, y_mi y, y_ra y, y_rt y, y_tl y, y_mm y) (KR a b rs R)) H := hP
                  have hD : va_D A (YW ct a (y_n y, y_kd y, y_w y, (upd (y_cu y) (k1) (x2)), y_pl y, y_cn y, y_st y, y_wr y, y_tr y, y_rn y, y_li y, y_mi y, y_ra y, y_rt y, y_tl y, y_mm y) (KR a b rs R)) := hD
                  refine lv_aload_n hx hb dX8_putOn_196 rfl (lv_at hl 3 rfl) ?_
                  refine va_get (ci := 7) (v := .ref (a 0)) hx hb hts h_X8 hown hK hP 14 rfl rfl 0 (by decide) f9 (fun _ h9 => h9) rfl dX8_putOn_197 ?_
                  refine va_get (ci := 8) (v := .ref (a 4)) hx hb hts h_X9 hown hK hP 0 rfl rfl 4 (by decide) f45 (fun _ h9 => h9) rfl dX8_putOn_200 ?_
                  refine lv_iload_n hx hb dX8_putOn_203 rfl (lv_at hl 4 rfl) ?_
                  refine lv_iload_n hx hb dX8_putOn_204 rfl (lv_at hl 6 rfl) ?_
                  refine zIast (n := 12) (f := y_pl y) (i := k1) hx hb hK hP hD hS 4 rfl (by omega) (by decide) dX8_putOn_205 (fun H locs hP hD hS => ?_)
                  have hP : va_P D vwCl (YW ct a (y_n y, y_kd y, y_w y, (upd (y_cu y) (k1) (x2)), (upd (y_pl y) (k1) (x3)), y_cn y, y_st y, y_wr y, y_tr y, y_rn y, y_li y, y_mi y, y_ra y, y_rt y, y_tl y, y_mm y) (KR a b rs R)) H := hP
                  have hD : va_D A (YW ct a (y_n y, y_kd y, y_w y, (upd (y_cu y) (k1) (x2)), (upd (y_pl y) (k1) (x3)), y_cn y, y_st y, y_wr y, y_tr y, y_rn y, y_li y, y_mi y, y_ra y, y_rt y, y_tl y, y_mm y) (KR a b rs R)) := hD
                  refine lv_aload_n hx hb dX8_putOn_206 rfl (lv_at hl 3 rfl) ?_
                  refine va_get (ci := 7) (v := .ref (a 0)) hx hb hts h_X8 hown hK hP 14 rfl rfl 0 (by decide) f9 (fun _ h9 => h9) rfl dX8_putOn_207 ?_
                  refine lv_iload_n hx hb dX8_putOn_210 rfl (lv_at hl 5 rfl) ?_
                  refine zVI [.int (x2)] [] (kX9_weightOfAllOn (a) ((y_n y, y_kd y, y_w y, (upd (y_cu y) (k1) (x2)), (upd (y_pl y) (k1) (x3)), y_cn y, y_st y, y_wr y, y_tr y, y_rn y, y_li y, y_mi y, y_ra y, y_rt y, y_tl y, y_mm y)) (KR a b rs R) (x2) (show y_n y ≤ 12 from by omega)) hx hb hml hown hts (cwV 1 hts gX8_putOn_X9_weightOfAllOn rfl rfl rfl (by decide +kernel) ⟨(Nat.le_of_ble_eq_true rfl), (Nat.le_of_ble_eq_true rfl)⟩) hK hP hD hS hA (va_recv hK hP (ci := 8) (q0 := 0) rfl rfl) rfl hl.1 rfl (Nat.le_of_ble_eq_true rfl) dX8_putOn_211 ⟨(Nat.le_of_ble_eq_true rfl), (Nat.le_of_ble_eq_true rfl)⟩ (fun r_211 _ H locs hr_211 hP hD hS => ?_)
                  subst hr_211
                  have hP : va_P D vwCl (YW ct a (y_n y, y_kd y, y_w y, (upd (y_cu y) (k1) (x2)), (upd (y_pl y) (k1) (x3)), y_cn y, y_st y, y_wr y, y_tr y, y_rn y, y_li y, y_mi y, y_ra y, y_rt y, y_tl y, y_mm y) (KR a b rs R)) H := hP
                  have hD : va_D A (YW ct a (y_n y, y_kd y, y_w y, (upd (y_cu y) (k1) (x2)), (upd (y_pl y) (k1) (x3)), y_cn y, y_st y, y_wr y, y_tr y, y_rn y, y_li y, y_mi y, y_ra y, y_rt y, y_tl y, y_mm y) (KR a b rs R)) := hD
                  have e9 : f_put y rs (nI k1) x2 x3 = ((t_all (y_n y, y_kd y, y_w y, (upd (y_cu y) (k1) (x2)), (upd (y_pl y) (k1) (x3)), y_cn y, y_st y, y_wr y, y_tr y, y_rn y, y_li y, y_mi y, y_ra y, y_rt y, y_tl y, y_mm y) (x2)), (y_n y, y_kd y, y_w y, (upd (y_cu y) (k1) (x2)), (upd (y_pl y) (k1) (x3)), y_cn y, y_st y, y_wr y, y_tr y, y_rn y, y_li y, y_mi y, y_ra y, y_rt y, y_tl y, y_mm y), rs) := (by simp only [f_put, setAt, yMove, rsOf, yWr, c8_1, hclk1, c19_2, c25_3, c31_4, eq_true c48_5, c79_6, c94_7, eq_true c130_9, p_in, p_worn, p_wi, p_creak, p_over, p_le0, p_lt1, not_true_eq_false, not_false_eq_true, if_true, if_false, and_true, true_and, and_false, false_and, or_true, true_or, or_false, false_or, and_self, or_self, iff_true, true_iff, iff_false, false_iff, decide_eq_true_eq, decide_true, decide_false, Int32.add_zero, Nat.add_zero, ne_eq, Bool.false_eq_true, eq_self])
                  exact zIret () hx hb hr hlocks hK (by show va_P D vwCl (YW ct a (f_put y rs (nI k1) x2 x3).2.1 (KR a b (f_put y rs (nI k1) x2 x3).2.2 R)) H; rw [e9]; exact hP) (by show va_D A (YW ct a (f_put y rs (nI k1) x2 x3).2.1 (KR a b (f_put y rs (nI k1) x2 x3).2.2 R)); rw [e9]; exact hD) hS dX8_putOn_214 (show (t_all (y_n y, y_kd y, y_w y, (upd (y_cu y) (k1) (x2)), (upd (y_pl y) (k1) (x3)), y_cn y, y_st y, y_wr y, y_tr y, y_rn y, y_li y, y_mi y, y_ra y, y_rt y, y_tl y, y_mm y) (x2)) = (f_put y rs (nI k1) x2 x3).1 from (by rw [e9]))
                · skip
                  refine lv_aload_n hx hb dX8_putOn_133 rfl (lv_at hl 2 rfl) ?_
                  refine va_get (ci := 7) (v := .ref (b 1)) hx hb hts h_X8 hown hK hP 14 rfl rfl 2 (by decide) f19 (fun _ h9 => h9) rfl dX8_putOn_134 ?_
                  refine lv_iconst (v := nI (4)) hx hb dX8_putOn_137 (by decide) ?_
                  refine lv_iload hx hb dX8_putOn_138 (lv_at hl 0 rfl) ?_
                  refine zVI [.int (nI (4)), .int ((t_at y (x2) (x3)))] [] (kX6_refuse (a) (y) (b) (rs) (R) (nI (4)) ((t_at y (x2) (x3)))) hx hb hml hown hts (cwV 2 hts gX8_putOn_X6_refuse rfl rfl rfl (by decide +kernel) ⟨(Nat.le_of_ble_eq_true rfl), (Nat.le_of_ble_eq_true rfl)⟩) hK hP hD hS hA (va_recv hK hP (ci := 5) (q0 := 13) rfl rfl) rfl hl.1 rfl (Nat.le_of_ble_eq_true rfl) dX8_putOn_140 ⟨(Nat.le_of_ble_eq_true rfl), (Nat.le_of_ble_eq_true rfl)⟩ (fun r_140 _ H locs hr_140 hP hD hS => ?_)
                  subst hr_140
                  have hP : va_P D vwCl (YW ct a y (KR a b ((nI (4)), ((t_at y (x2) (x3))), (-4), (-4)) R)) H := hP
                  have hD : va_D A (YW ct a y (KR a b ((nI (4)), ((t_at y (x2) (x3))), (-4), (-4)) R)) := hD
                  have e9 : f_put y rs (nI k1) x2 x3 = ((-3), y, ((nI (4)), ((t_at y (x2) (x3))), (-4), (-4))) := (by simp only [f_put, setAt, yMove, rsOf, yWr, c8_1, hclk1, c19_2, c25_3, c31_4, eq_true c48_5, c79_6, c94_7, c130_9, p_in, p_worn, p_wi, p_creak, p_over, p_le0, p_lt1, not_true_eq_false, not_false_eq_true, if_true, if_false, and_true, true_and, and_false, false_and, or_true, true_or, or_false, false_or, and_self, or_self, iff_true, true_iff, iff_false, false_iff, decide_eq_true_eq, decide_true, decide_false, Int32.add_zero, Nat.add_zero, ne_eq, Bool.false_eq_true, eq_self])
                  exact zIret () hx hb hr hlocks hK (by show va_P D vwCl (YW ct a (f_put y rs (nI k1) x2 x3).2.1 (KR a b (f_put y rs (nI k1) x2 x3).2.2 R)) H; rw [e9]; exact hP) (by show va_D A (YW ct a (f_put y rs (nI k1) x2 x3).2.1 (KR a b (f_put y rs (nI k1) x2 x3).2.2 R)); rw [e9]; exact hD) hS dX8_putOn_143 (show (-3) = (f_put y rs (nI k1) x2 x3).1 from (by rw [e9]))
              · skip
                refine lv_iconst (v := nI (1)) hx hb dX8_putOn_97 (by decide) ?_
                refine lv_goto (tgt := 102) hx hb dX8_putOn_98 (by decide) ?_
                refine lv_icmp_eq (tgt := 115) hx hb dX8_putOn_102 (by decide) (fun c9 => absurd c9 (by decide)) (fun c9 => ?_)
                refine lv_aload_n hx hb dX8_putOn_105 rfl (lv_at hl 1 rfl) ?_
                refine va_get (ci := 7) (v := .ref (b 1)) hx hb hts h_X8 hown hK hP 14 rfl rfl 2 (by decide) f19 (fun _ h9 => h9) rfl dX8_putOn_106 ?_
                refine lv_iconst (v := nI (3)) hx hb dX8_putOn_109 (by decide) ?_
                refine lv_iload_n hx hb dX8_putOn_110 rfl (lv_at hl 4 rfl) ?_
                refine zVI [.int (nI (3)), .int (x3)] [] (kX6_refuse (a) (y) (b) (rs) (R) (nI (3)) (x3)) hx hb hml hown hts (cwV 2 hts gX8_putOn_X6_refuse rfl rfl rfl (by decide +kernel) ⟨(Nat.le_of_ble_eq_true rfl), (Nat.le_of_ble_eq_true rfl)⟩) hK hP hD hS hA (va_recv hK hP (ci := 5) (q0 := 13) rfl rfl) rfl hl.1 rfl (Nat.le_of_ble_eq_true rfl) dX8_putOn_111 ⟨(Nat.le_of_ble_eq_true rfl), (Nat.le_of_ble_eq_true rfl)⟩ (fun r_111 _ H locs hr_111 hP hD hS => ?_)
                subst hr_111
                have hP : va_P D vwCl (YW ct a y (KR a b ((nI (3)), (x3), (-4), (-4)) R)) H := hP
                have hD : va_D A (YW ct a y (KR a b ((nI (3)), (x3), (-4), (-4)) R)) := hD
                have e9 : f_put y rs (nI k1) x2 x3 = ((-3), y, ((nI (3)), (x3), (-4), (-4))) := (by simp only [f_put, setAt, yMove, rsOf, yWr, c8_1, hclk1, c19_2, c25_3, c31_4, eq_true c48_5, c79_6, eq_true c94_7, p_in, p_worn, p_wi, p_creak, p_over, p_le0, p_lt1, not_true_eq_false, not_false_eq_true, if_true, if_false, and_true, true_and, and_false, false_and, or_true, true_or, or_false, false_or, and_self, or_self, iff_true, true_iff, iff_false, false_iff, decide_eq_true_eq, decide_true, decide_false, Int32.add_zero, Nat.add_zero, ne_eq, Bool.false_eq_true, eq_self])
                exact zIret () hx hb hr hlocks hK (by show va_P D vwCl (YW ct a (f_put y rs (nI k1) x2 x3).2.1 (KR a b (f_put y rs (nI k1) x2 x3).2.2 R)) H; rw [e9]; exact hP) (by show va_D A (YW ct a (f_put y rs (nI k1) x2 x3).2.1 (KR a b (f_put y rs (nI k1) x2 x3).2.2 R)); rw [e9]; exact hD) hS dX8_putOn_114 (show (-3) = (f_put y rs (nI k1) x2 x3).1 from (by rw [e9]))
            · skip
              refine lv_iconst (v := nI (1)) hx hb dX8_putOn_82 (by decide) ?_
              refine lv_goto (tgt := 87) hx hb dX8_putOn_83 (by decide) ?_
              refine lv_istore (lv' := [(4, .int (nI (1))), (0, .ref (b 2)), (1, .int (nI (k1))), (2, .int (x2)), (3, .int (x3))]) hx hb dX8_putOn_87 hl (by decide) rfl (fun ls hl => ?_)
              refine lv_iload hx hb dX8_putOn_89 (lv_at hl 0 rfl) ?_
              refine lv_iload_n hx hb dX8_putOn_91 rfl (lv_at hl 4 rfl) ?_
              refine lv_bipush (v := nI (6)) hx hb dX8_putOn_92 (by decide) ?_
              refine lv_icmp_ne (tgt := 101) hx hb dX8_putOn_94 (by decide) (fun c94_12 => ?_) (fun c94_12 => ?_)
              · skip
                refine lv_iconst (v := nI (0)) hx hb dX8_putOn_101 (by decide) ?_
                refine lv_icmp_eq (tgt := 115) hx hb dX8_putOn_102 (by decide) (fun c9 => absurd c9 (by decide)) (fun c9 => ?_)
                refine lv_aload_n hx hb dX8_putOn_105 rfl (lv_at hl 1 rfl) ?_
                refine va_get (ci := 7) (v := .ref (b 1)) hx hb hts h_X8 hown hK hP 14 rfl rfl 2 (by decide) f19 (fun _ h9 => h9) rfl dX8_putOn_106 ?_
                refine lv_iconst (v := nI (3)) hx hb dX8_putOn_109 (by decide) ?_
                refine lv_iload_n hx hb dX8_putOn_110 rfl (lv_at hl 4 rfl) ?_
                refine zVI [.int (nI (3)), .int (x3)] [] (kX6_refuse (a) (y) (b) (rs) (R) (nI (3)) (x3)) hx hb hml hown hts (cwV 2 hts gX8_putOn_X6_refuse rfl rfl rfl (by decide +kernel) ⟨(Nat.le_of_ble_eq_true rfl), (Nat.le_of_ble_eq_true rfl)⟩) hK hP hD hS hA (va_recv hK hP (ci := 5) (q0 := 13) rfl rfl) rfl hl.1 rfl (Nat.le_of_ble_eq_true rfl) dX8_putOn_111 ⟨(Nat.le_of_ble_eq_true rfl), (Nat.le_of_ble_eq_true rfl)⟩ (fun r_111 _ H locs hr_111 hP hD hS => ?_)
                subst hr_111
                have hP : va_P D vwCl (YW ct a y (KR a b ((nI (3)), (x3), (-4), (-4)) R)) H := hP
                have hD : va_D A (YW ct a y (KR a b ((nI (3)), (x3), (-4), (-4)) R)) := hD
                have e9 : f_put y rs (nI k1) x2 x3 = ((-3), y, ((nI (3)), (x3), (-4), (-4))) := (by simp only [f_put, setAt, yMove, rsOf, yWr, c8_1, hclk1, c19_2, c25_3, c31_4, eq_true c48_5, eq_true c79_6, c94_12, p_in, p_worn, p_wi, p_creak, p_over, p_le0, p_lt1, not_true_eq_false, not_false_eq_true, if_true, if_false, and_true, true_and, and_false, false_and, or_true, true_or, or_false, false_or, and_self, or_self, iff_true, true_iff, iff_false, false_iff, decide_eq_true_eq, decide_true, decide_false, Int32.add_zero, Nat.add_zero, ne_eq, Bool.false_eq_true, eq_self])
                exact zIret () hx hb hr hlocks hK (by show va_P D vwCl (YW ct a (f_put y rs (nI k1) x2 x3).2.1 (KR a b (f_put y rs (nI k1) x2 x3).2.2 R)) H; rw [e9]; exact hP) (by show va_D A (YW ct a (f_put y rs (nI k1) x2 x3).2.1 (KR a b (f_put y rs (nI k1) x2 x3).2.2 R)); rw [e9]; exact hD) hS dX8_putOn_114 (show (-3) = (f_put y rs (nI k1) x2 x3).1 from (by rw [e9]))
              · skip
                refine lv_iconst (v := nI (1)) hx hb dX8_putOn_97 (by decide) ?_
                refine lv_goto (tgt := 102) hx hb dX8_putOn_98 (by decide) ?_
                refine lv_icmp_eq (tgt := 115) hx hb dX8_putOn_102 (by decide) (fun c9 => ?_) (fun c9 => absurd (by decide) c9)
                refine lv_aload_n hx hb dX8_putOn_115 rfl (lv_at hl 1 rfl) ?_
                refine va_get (ci := 7) (v := .ref (a 0)) hx hb hts h_X8 hown hK hP 14 rfl rfl 0 (by decide) f9 (fun _ h9 => h9) rfl dX8_putOn_116 ?_
                refine lv_iload_n hx hb dX8_putOn_119 rfl (lv_at hl 3 rfl) ?_
                refine lv_iload_n hx hb dX8_putOn_120 rfl (lv_at hl 4 rfl) ?_
                refine zVI [.int (x2), .int (x3)] [] (kX9_thingAt (a) (y) (KR a b rs R) (x2) (x3) (show y_n y ≤ 12 from by omega)) hx hb hml hown hts (cwV 2 hts gX8_putOn_X9_thingAt rfl rfl rfl (by decide +kernel) ⟨(Nat.le_of_ble_eq_true rfl), (Nat.le_of_ble_eq_true rfl)⟩) hK hP hD hS hA (va_recv hK hP (ci := 8) (q0 := 0) rfl rfl) rfl hl.1 rfl (Nat.le_of_ble_eq_true rfl) dX8_putOn_121 ⟨(Nat.le_of_ble_eq_true rfl), (Nat.le_of_ble_eq_true rfl)⟩ (fun r_121 _ H locs hr_121 hP hD hS => ?_)
                subst hr_121
                have hP : va_P D vwCl (YW ct a y (KR a b rs R)) H := hP
                have hD : va_D A (YW ct a y (KR a b rs R)) := hD
                refine lv_istore (lv' := [(5, .int ((t_at y (x2) (x3)))), (4, .int (nI (1))), (0, .ref (b 2)), (1, .int (nI (k1))), (2, .int (x2)), (3, .int (x3))]) hx hb dX8_putOn_124 hl (by decide) rfl (fun ls hl => ?_)
                refine lv_iload hx hb dX8_putOn_126 (lv_at hl 0 rfl) ?_
                refine lv_bipush (v := (-4)) hx hb dX8_putOn_128 (by decide) ?_
                refine lv_icmp_eq (tgt := 144) hx hb dX8_putOn_130 (by decide) (fun c130_15 => ?_) (fun c130_15 => ?_)
                · skip
                  refine lv_aload_n hx hb dX8_putOn_144 rfl (lv_at hl 2 rfl) ?_
                  refine va_get (ci := 7) (v := .ref (a 0)) hx hb hts h_X8 hown hK hP 14 rfl rfl 0 (by decide) f9 (fun _ h9 => h9) rfl dX8_putOn_145 ?_
                  refine va_get (ci := 8) (v := .ref (a 2)) hx hb hts h_X9 hown hK hP 0 rfl rfl 2 (by decide) f39 (fun _ h9 => h9) rfl dX8_putOn_148 ?_
                  refine lv_iload_n hx hb dX8_putOn_151 rfl (lv_at hl 3 rfl) ?_
                  refine zIald (n := 12) (f := y_w y) (i := k1) hx hb hK hP 2 rfl (by omega) (by decide) dX8_putOn_152 ?_
                  refine lv_aload_n hx hb dX8_putOn_153 rfl (lv_at hl 2 rfl) ?_
                  refine va_get (ci := 7) (v := .ref (a 0)) hx hb hts h_X8 hown hK hP 14 rfl rfl 0 (by decide) f9 (fun _ h9 => h9) rfl dX8_putOn_154 ?_
                  refine lv_iload_n hx hb dX8_putOn_157 rfl (lv_at hl 4 rfl) ?_
                  refine lv_iconst (v := nI (0)) hx hb dX8_putOn_158 (by decide) ?_
                  refine zVI [.int (x2), .int (nI (0))] [.int ((y_w y (k1)))] (kX9_weightOn (a) (y) (KR a b rs R) (x2) (nI (0)) (show y_n y ≤ 12 from by omega)) hx hb hml hown hts (cwV 2 hts gX8_putOn_X9_weightOn rfl rfl rfl (by decide +kernel) ⟨(Nat.le_of_ble_eq_true rfl), (Nat.le_of_ble_eq_true rfl)⟩) hK hP hD hS hA (va_recv hK hP (ci := 8) (q0 := 0) rfl rfl) rfl hl.1 rfl (Nat.le_of_ble_eq_true rfl) dX8_putOn_159 ⟨(Nat.le_of_ble_eq_true rfl), (Nat.le_of_ble_eq_true rfl)⟩ (fun r_159 _ H locs hr_159 hP hD hS => ?_)
                  subst hr_159
                  have hP : va_P D vwCl (YW ct a y (KR a b rs R)) H := hP
                  have hD : va_D A (YW ct a y (KR a b rs R)) := hD
                  refine lv_isub hx hb dX8_putOn_162 ?_
                  refine lv_istore (lv' := [(6, .int (((y_w y (k1)) - (t_wo y (x2) (nI (0)))))), (5, .int ((t_at y (x2) (x3)))), (4, .int (nI (1))), (0, .ref (b 2)), (1, .int (nI (k1))), (2, .int (x2)), (3, .int (x3))]) hx hb dX8_putOn_163 hl (by decide) rfl (fun ls hl => ?_)
                  refine lv_iload hx hb dX8_putOn_165 (lv_at hl 2 rfl) ?_
                  refine lv_if_eq (tgt := 186) hx hb dX8_putOn_167 (by decide) (fun c9 => absurd c9 (by decide)) (fun c9 => ?_)
                  refine lv_iload hx hb dX8_putOn_170 (lv_at hl 0 rfl) ?_
                  refine lv_if_le (tgt := 186) hx hb dX8_putOn_172 (by decide) (fun c172_17 => ?_) (fun c172_17 => ?_)
                  · skip
                    refine lv_aload_n hx hb dX8_putOn_186 rfl (lv_at hl 3 rfl) ?_
                    refine va_get (ci := 7) (v := .ref (a 0)) hx hb hts h_X8 hown hK hP 14 rfl rfl 0 (by decide) f9 (fun _ h9 => h9) rfl dX8_putOn_187 ?_
                    refine va_get (ci := 8) (v := .ref (a 3)) hx hb hts h_X9 hown hK hP 0 rfl rfl 3 (by decide) f42 (fun _ h9 => h9) rfl dX8_putOn_190 ?_
                    refine lv_iload_n hx hb dX8_putOn_193 rfl (lv_at hl 4 rfl) ?_
                    refine lv_iload_n hx hb dX8_putOn_194 rfl (lv_at hl 5 rfl) ?_
                    refine zIast (n := 12) (f := y_cu y) (i := k1) hx hb hK hP hD hS 3 rfl (by omega) (by decide) dX8_putOn_195 (fun H locs hP hD hS => ?_)
                    have hP : va_P D vwCl (YW ct a (y_n y, y_kd y, y_w y, (upd (y_cu y) (k1) (x2)), y_pl y, y_cn y, y_st y, y_wr y, y_tr y, y_rn y, y_li y, y_mi y, y_ra y, y_rt y, y_tl y, y_mm y) (KR a b rs R)) H := hP
                    have hD : va_D A (YW ct a (y_n y, y_kd y, y_w y, (upd (y_cu y) (k1) (x2)), y_pl y, y_cn y, y_st y, y_wr y, y_tr y, y_rn y, y_li y, y_mi y, y_ra y, y_rt y, y_tl y, y_mm y) (KR a b rs R)) := hD
                    refine lv_aload_n hx hb dX8_putOn_196 rfl (lv_at hl 3 rfl) ?_
                    refine va_get (ci := 7) (v := .ref (a 0)) hx hb hts h_X8 hown hK hP 14 rfl rfl 0 (by decide) f9 (fun _ h9 => h9) rfl dX8_putOn_197 ?_
                    refine va_get (ci := 8) (v := .ref (a 4)) hx hb hts h_X9 hown hK hP 0 rfl rfl 4 (by decide) f45 (fun _ h9 => h9) rfl dX8_putOn_200 ?_
                    refine lv_iload_n hx hb dX8_putOn_203 rfl (lv_at hl 4 rfl) ?_
                    refine lv_iload_n hx hb dX8_putOn_204 rfl (lv_at hl 6 rfl) ?_
                    refine zIast (n := 12) (f := y_pl y) (i := k1) hx hb hK hP hD hS 4 rfl (by omega) (by decide) dX8_putOn_205 (fun H locs hP hD hS => ?_)
                    have hP : va_P D vwCl (YW ct a (y_n y, y_kd y, y_w y, (upd (y_cu y) (k1) (x2)), (upd (y_pl y) (k1) (x3)), y_cn y, y_st y, y_wr y, y_tr y, y_rn y, y_li y, y_mi y, y_ra y, y_rt y, y_tl y, y_mm y) (KR a b rs R)) H := hP
                    have hD : va_D A (YW ct a (y_n y, y_kd y, y_w y, (upd (y_cu y) (k1) (x2)), (upd (y_pl y) (k1) (x3)), y_cn y, y_st y, y_wr y, y_tr y, y_rn y, y_li y, y_mi y, y_ra y, y_rt y, y_tl y, y_mm y) (KR a b rs R)) := hD
                    refine lv_aload_n hx hb dX8_putOn_206 rfl (lv_at hl 3 rfl) ?_
                    refine va_get (ci := 7) (v := .ref (a 0)) hx hb hts h_X8 hown hK hP 14 rfl rfl 0 (by decide) f9 (fun _ h9 => h9) rfl dX8_putOn_207 ?_
                    refine lv_iload_n hx hb dX8_putOn_210 rfl (lv_at hl 5 rfl) ?_
                    refine zVI [.int (x2)] [] (kX9_weightOfAllOn (a) ((y_n y, y_kd y, y_w y, (upd (y_cu y) (k1) (x2)), (upd (y_pl y) (k1) (x3)), y_cn y, y_st y, y_wr y, y_tr y, y_rn y, y_li y, y_mi y, y_ra y, y_rt y, y_tl y, y_mm y)) (KR a b rs R) (x2) (show y_n y ≤ 12 from by omega)) hx hb hml hown hts (cwV 1 hts gX8_putOn_X9_weightOfAllOn rfl rfl rfl (by decide +kernel) ⟨(Nat.le_of_ble_eq_true rfl), (Nat.le_of_ble_eq_true rfl)⟩) hK hP hD hS hA (va_recv hK hP (ci := 8) (q0 := 0) rfl rfl) rfl hl.1 rfl (Nat.le_of_ble_eq_true rfl) dX8_putOn_211 ⟨(Nat.le_of_ble_eq_true rfl), (Nat.le_of_ble_eq_true rfl)⟩ (fun r_211 _ H locs hr_211 hP hD hS => ?_)
                    subst hr_211
                    have hP : va_P D vwCl (YW ct a (y_n y, y_kd y, y_w y, (upd (y_cu y) (k1) (x2)), (upd (y_pl y) (k1) (x3)), y_cn y, y_st y, y_wr y, y_tr y, y_rn y, y_li y, y_mi y, y_ra y, y_rt y, y_tl y, y_mm y) (KR a b rs R)) H := hP
                    have hD : va_D A (YW ct a (y_n y, y_kd y, y_w y, (upd (y_cu y) (k1) (x2)), (upd (y_pl y) (k1) (x3)), y_cn y, y_st y, y_wr y, y_tr y, y_rn y, y_li y, y_mi y, y_ra y, y_rt y, y_tl y, y_mm y) (KR a b rs R)) := hD
                    have e9 : f_put y rs (nI k1) x2 x3 = ((t_all (y_n y, y_kd y, y_w y, (upd (y_cu y) (k1) (x2)), (upd (y_pl y) (k1) (x3)), y_cn y, y_st y, y_wr y, y_tr y, y_rn y, y_li y, y_mi y, y_ra y, y_rt y, y_tl y, y_mm y) (x2)), (y_n y, y_kd y, y_w y, (upd (y_cu y) (k1) (x2)), (upd (y_pl y) (k1) (x3)), y_cn y, y_st y, y_wr y, y_tr y, y_rn y, y_li y, y_mi y, y_ra y, y_rt y, y_tl y, y_mm y), rs) := (by simp only [f_put, setAt, yMove, rsOf, yWr, c8_1, hclk1, c19_2, c25_3, c31_4, eq_true c48_5, eq_true c79_6, eq_true c94_12, eq_true c130_15, c172_17, p_in, p_worn, p_wi, p_creak, p_over, p_le0, p_lt1, not_true_eq_false, not_false_eq_true, if_true, if_false, and_true, true_and, and_false, false_and, or_true, true_or, or_false, false_or, and_self, or_self, iff_true, true_iff, iff_false, false_iff, decide_eq_true_eq, decide_true, decide_false, Int32.add_zero, Nat.add_zero, ne_eq, Bool.false_eq_true, eq_self])
                    exact zIret () hx hb hr hlocks hK (by show va_P D vwCl (YW ct a (f_put y rs (nI k1) x2 x3).2.1 (KR a b (f_put y rs (nI k1) x2 x3).2.2 R)) H; rw [e9]; exact hP) (by show va_D A (YW ct a (f_put y rs (nI k1) x2 x3).2.1 (KR a b (f_put y rs (nI k1) x2 x3).2.2 R)); rw [e9]; exact hD) hS dX8_putOn_214 (show (t_all (y_n y, y_kd y, y_w y, (upd (y_cu y) (k1) (x2)), (upd (y_pl y) (k1) (x3)), y_cn y, y_st y, y_wr y, y_tr y, y_rn y, y_li y, y_mi y, y_ra y, y_rt y, y_tl y, y_mm y) (x2)) = (f_put y rs (nI k1) x2 x3).1 from (by rw [e9]))
                  · skip
                    refine lv_aload_n hx hb dX8_putOn_175 rfl (lv_at hl 3 rfl) ?_
                    refine va_get (ci := 7) (v := .ref (b 1)) hx hb hts h_X8 hown hK hP 14 rfl rfl 2 (by decide) f19 (fun _ h9 => h9) rfl dX8_putOn_176 ?_
                    refine lv_iconst (v := nI (5)) hx hb dX8_putOn_179 (by decide) ?_
                    refine lv_iload hx hb dX8_putOn_180 (lv_at hl 0 rfl) ?_
                    refine zVI [.int (nI (5)), .int (((y_w y (k1)) - (t_wo y (x2) (nI (0)))))] [] (kX6_refuse (a) (y) (b) (rs) (R) (nI (5)) (((y_w y (k1)) - (t_wo y (x2) (nI (0)))))) hx hb hml hown hts (cwV 2 hts gX8_putOn_X6_refuse rfl rfl rfl (by decide +kernel) ⟨(Nat.le_of_ble_eq_true rfl), (Nat.le_of_ble_eq_true rfl)⟩) hK hP hD hS hA (va_recv hK hP (ci := 5) (q0 := 13) rfl rfl) rfl hl.1 rfl (Nat.le_of_ble_eq_true rfl) dX8_putOn_182 ⟨(Nat.le_of_ble_eq_true rfl), (Nat.le_of_ble_eq_true rfl)⟩ (fun r_182 _ H locs hr_182 hP hD hS => ?_)
                    subst hr_182
                    have hP : va_P D vwCl (YW ct a y (KR a b ((nI (5)), (((y_w y (k1)) - (t_wo y (x2) (nI (0))))), (-4), (-4)) R)) H := hP
                    have hD : va_D A (YW ct a y (KR a b ((nI (5)), (((y_w y (k1)) - (t_wo y (x2) (nI (0))))), (-4), (-4)) R)) := hD
                    have e9 : f_put y rs (nI k1) x2 x3 = ((-3), y, ((nI (5)), (((y_w y (k1)) - (t_wo y (x2) (nI (0))))), (-4), (-4))) := (by simp only [f_put, setAt, yMove, rsOf, yWr, c8_1, hclk1, c19_2, c25_3, c31_4, eq_true c48_5, eq_true c79_6, eq_true c94_12, eq_true c130_15, c172_17, p_in, p_worn, p_wi, p_creak, p_over, p_le0, p_lt1, not_true_eq_false, not_false_eq_true, if_true, if_false, and_true, true_and, and_false, false_and, or_true, true_or, or_false, false_or, and_self, or_self, iff_true, true_iff, iff_false, false_iff, decide_eq_true_eq, decide_true, decide_false, Int32.add_zero, Nat.add_zero, ne_eq, Bool.false_eq_true, eq_self])
                    exact zIret () hx hb hr hlocks hK (by show va_P D vwCl (YW ct a (f_put y rs (nI k1) x2 x3).2.1 (KR a b (f_put y rs (nI k1) x2 x3).2.2 R)) H; rw [e9]; exact hP) (by show va_D A (YW ct a (f_put y rs (nI k1) x2 x3).2.1 (KR a b (f_put y rs (nI k1) x2 x3).2.2 R)); rw [e9]; exact hD) hS dX8_putOn_185 (show (-3) = (f_put y rs (nI k1) x2 x3).1 from (by rw [e9]))
                · skip
                  refine lv_aload_n hx hb dX8_putOn_133 rfl (lv_at hl 2 rfl) ?_
                  refine va_get (ci := 7) (v := .ref (b 1)) hx hb hts h_X8 hown hK hP 14 rfl rfl 2 (by decide) f19 (fun _ h9 => h9) rfl dX8_putOn_134 ?_
                  refine lv_iconst (v := nI (4)) hx hb dX8_putOn_137 (by decide) ?_
                  refine lv_iload hx hb dX8_putOn_138 (lv_at hl 0 rfl) ?_
                  refine zVI [.int (nI (4)), .int ((t_at y (x2) (x3)))] [] (kX6_refuse (a) (y) (b) (rs) (R) (nI (4)) ((t_at y (x2) (x3)))) hx hb hml hown hts (cwV 2 hts gX8_putOn_X6_refuse rfl rfl rfl (by decide +kernel) ⟨(Nat.le_of_ble_eq_true rfl), (Nat.le_of_ble_eq_true rfl)⟩) hK hP hD hS hA (va_recv hK hP (ci := 5) (q0 := 13) rfl rfl) rfl hl.1 rfl (Nat.le_of_ble_eq_true rfl) dX8_putOn_140 ⟨(Nat.le_of_ble_eq_true rfl), (Nat.le_of_ble_eq_true rfl)⟩ (fun r_140 _ H locs hr_140 hP hD hS => ?_)
                  subst hr_140
                  have hP : va_P D vwCl (YW ct a y (KR a b ((nI (4)), ((t_at y (x2) (x3))), (-4), (-4)) R)) H := hP
                  have hD : va_D A (YW ct a y (KR a b ((nI (4)), ((t_at y (x2) (x3))), (-4), (-4)) R)) := hD
                  have e9 : f_put y rs (nI k1) x2 x3 = ((-3), y, ((nI (4)), ((t_at y (x2) (x3))), (-4), (-4))) := (by simp only [f_put, setAt, yMove, rsOf, yWr, c8_1, hclk1, c19_2, c25_3, c31_4, eq_true c48_5, eq_true c79_6, eq_true c94_12, c130_15, p_in, p_worn, p_wi, p_creak, p_over, p_le0, p_lt1, not_true_eq_false, not_false_eq_true, if_true, if_false, and_true, true_and, and_false, false_and, or_true, true_or, or_false, false_or, and_self, or_self, iff_true, true_iff, iff_false, false_iff, decide_eq_true_eq, decide_true, decide_false, Int32.add_zero, Nat.add_zero, ne_eq, Bool.false_eq_true, eq_self])
                  exact zIret () hx hb hr hlocks hK (by show va_P D vwCl (YW ct a (f_put y rs (nI k1) x2 x3).2.1 (KR a b (f_put y rs (nI k1) x2 x3).2.2 R)) H; rw [e9]; exact hP) (by show va_D A (YW ct a (f_put y rs (nI k1) x2 x3).2.1 (KR a b (f_put y rs (nI k1) x2 x3).2.2 R)); rw [e9]; exact hD) hS dX8_putOn_143 (show (-3) = (f_put y rs (nI k1) x2 x3).1 from (by rw [e9]))
          · skip
            refine lv_aload_n hx hb dX8_putOn_51 rfl (lv_at hl 0 rfl) ?_
            refine va_get (ci := 7) (v := .ref (b 1)) hx hb hts h_X8 hown hK hP 14 rfl rfl 2 (by decide) f19 (fun _ h9 => h9) rfl dX8_putOn_52 ?_
            refine lv_iconst (v := nI (2)) hx hb dX8_putOn_55 (by decide) ?_
            refine lv_aload_n hx hb dX8_putOn_56 rfl (lv_at hl 0 rfl) ?_
            refine va_get (ci := 7) (v := .ref (a 0)) hx hb hts h_X8 hown hK hP 14 rfl rfl 0 (by decide) f9 (fun _ h9 => h9) rfl dX8_putOn_57 ?_
            refine va_get (ci := 8) (v := .ref (a 3)) hx hb hts h_X9 hown hK hP 0 rfl rfl 3 (by decide) f42 (fun _ h9 => h9) rfl dX8_putOn_60 ?_
            refine lv_iload_n hx hb dX8_putOn_63 rfl (lv_at hl 1 rfl) ?_
            refine zIald (n := 12) (f := y_cu y) (i := k1) hx hb hK hP 3 rfl (by omega) (by decide) dX8_putOn_64 ?_
            refine zVI [.int (nI (2)), .int ((y_cu y (k1)))] [] (kX6_refuse (a) (y) (b) (rs) (R) (nI (2)) ((y_cu y (k1)))) hx hb hml hown hts (cwV 2 hts gX8_putOn_X6_refuse rfl rfl rfl (by decide +kernel) ⟨(Nat.le_of_ble_eq_true rfl), (Nat.le_of_ble_eq_true rfl)⟩) hK hP hD hS hA (va_recv hK hP (ci := 5) (q0 := 13) rfl rfl) rfl hl.1 rfl (Nat.le_of_ble_eq_true rfl) dX8_putOn_65 ⟨(Nat.le_of_ble_eq_true rfl), (Nat.le_of_ble_eq_true rfl)⟩ (fun r_65 _ H locs hr_65 hP hD hS => ?_)
            subst hr_65
            have hP : va_P D vwCl (YW ct a y (KR a b ((nI (2)), ((y_cu y (k1))), (-4), (-4)) R)) H := hP
            have hD : va_D A (YW ct a y (KR a b ((nI (2)), ((y_cu y (k1))), (-4), (-4)) R)) := hD
            have e9 : f_put y rs (nI k1) x2 x3 = ((-3), y, ((nI (2)), ((y_cu y (k1))), (-4), (-4))) := (by simp only [f_put, setAt, yMove, rsOf, yWr, c8_1, hclk1, c19_2, c25_3, c31_4, c48_5, p_in, p_worn, p_wi, p_creak, p_over, p_le0, p_lt1, not_true_eq_false, not_false_eq_true, if_true, if_false, and_true, true_and, and_false, false_and, or_true, true_or, or_false, false_or, and_self, or_self, iff_true, true_iff, iff_false, false_iff, decide_eq_true_eq, decide_true, decide_false, Int32.add_zero, Nat.add_zero, ne_eq, Bool.false_eq_true, eq_self])
            exact zIret () hx hb hr hlocks hK (by show va_P D vwCl (YW ct a (f_put y rs (nI k1) x2 x3).2.1 (KR a b (f_put y rs (nI k1) x2 x3).2.2 R)) H; rw [e9]; exact hP) (by show va_D A (YW ct a (f_put y rs (nI k1) x2 x3).2.1 (KR a b (f_put y rs (nI k1) x2 x3).2.2 R)); rw [e9]; exact hD) hS dX8_putOn_68 (show (-3) = (f_put y rs (nI k1) x2 x3).1 from (by rw [e9]))
        · skip
          refine lv_bipush (v := (-2)) hx hb dX8_putOn_34 (by decide) ?_
          have e9 : f_put y rs (nI k1) x2 x3 = ((-2), y, rs) := (by simp only [f_put, setAt, yMove, rsOf, yWr, c8_1, hclk1, c19_2, c25_3, c31_4, p_in, p_worn, p_wi, p_creak, p_over, p_le0, p_lt1, not_true_eq_false, not_false_eq_true, if_true, if_false, and_true, true_and, and_false, false_and, or_true, true_or, or_false, false_or, and_self, or_self, iff_true, true_iff, iff_false, false_iff, decide_eq_true_eq, decide_true, decide_false, Int32.add_zero, Nat.add_zero, ne_eq, Bool.false_eq_true, eq_self])
          exact zIret () hx hb hr hlocks hK (by show va_P D vwCl (YW ct a (f_put y rs (nI k1) x2 x3).2.1 (KR a b (f_put y rs (nI k1) x2 x3).2.2 R)) H; rw [e9]; exact hP) (by show va_D A (YW ct a (f_put y rs (nI k1) x2 x3).2.1 (KR a b (f_put y rs (nI k1) x2 x3).2.2 R)); rw [e9]; exact hD) hS dX8_putOn_36 (show (-2) = (f_put y rs (nI k1) x2 x3).1 from (by rw [e9]))
    · skip
      refine lv_iconst (v := (-1)) hx hb dX8_putOn_22 (by decide) ?_
      have e9 : f_put y rs (nI k1) x2 x3 = ((-1), y, rs) := (by simp only [f_put, setAt, yMove, rsOf, yWr, c8_1, hclk1, c19_2, p_in, p_worn, p_wi, p_creak, p_over, p_le0, p_lt1, not_true_eq_false, not_false_eq_true, if_true, if_false, and_true, true_and, and_false, false_and, or_true, true_or, or_false, false_or, and_self, or_self, iff_true, true_iff, iff_false, false_iff, decide_eq_true_eq, decide_true, decide_false, Int32.add_zero, Nat.add_zero, ne_eq, Bool.false_eq_true, eq_self])
      exact zIret () hx hb hr hlocks hK (by show va_P D vwCl (YW ct a (f_put y rs (nI k1) x2 x3).2.1 (KR a b (f_put y rs (nI k1) x2 x3).2.2 R)) H; rw [e9]; exact hP) (by show va_D A (YW ct a (f_put y rs (nI k1) x2 x3).2.1 (KR a b (f_put y rs (nI k1) x2 x3).2.2 R)); rw [e9]; exact hD) hS dX8_putOn_23 (show (-1) = (f_put y rs (nI k1) x2 x3).1 from (by rw [e9]))
abbrev rmX8_takeOff : Room := { frames := 1, cells := 0, slots := 0, locals := 24 }
theorem in_X8_takeOff_X8 : ∀ w ∈ u_ws RX8 TX8 3, w ∈ wsX8_takeOff := by decide +kernel
theorem in_X8_takeOff_X9 : ∀ w ∈ u_ws RX9 TX9 16, w ∈ wsX8_takeOff := by decide +kernel
set_option maxHeartbeats 4000000 in
set_option maxRecDepth 100000 in
theorem kX8_takeOff {D : va_G} {ct : Nat → ClassId} {l : Launch} (a : Nat → Nat) (y : YS) (b : Nat → Nat) (rs : RS) (R : va_W) (x1 : Int32) (hn : y_n y ≤ 12) : MI D ct l yX8_takeOff wsX8_takeOff rmX8_takeOff (YW ct a y (KR a b rs R)) [.ref (b 2), .int (x1)] (fun r0 (_ : Unit) => r0 = (f_off y rs x1).1) (fun _ : Unit => YW ct a (f_off y rs x1).2.1 (KR a b (f_off y rs x1).2.2 R)) := by
  refine MIof (cc := cX8_takeOff) (maxL := 5) (ret := (some .int)) (by decide) rfl (Nat.le_of_ble_eq_true rfl) ?_
  intro p e s m args below meth c A H locs F hP hK hD hS hA ls hl
  obtain ⟨hx, hb, hr, hlocks, hml, hown, hts, hin⟩ := F
  have hl : lv_has ls 5 [(0, .ref (b 2)), (1, .int (x1))] := hl
  have h_X8 := in_X8_takeOff_X8
  have h_X9 := in_X8_takeOff_X9
  have f9 := hts (.fieldLink RX8 9 "CartArguments$Works" "yard" "LCartArguments$Yard;") (by decide +kernel)
  have f19 := hts (.fieldLink RX8 19 "CartArguments$Works" "reasons" "LCartArguments$Reasons;") (by decide +kernel)
  have f35 := hts (.fieldLink RX8 35 "CartArguments$Yard" "kinds" "[I") (by decide +kernel)
  have f39 := hts (.fieldLink RX8 39 "CartArguments$Yard" "weights" "[I") (by decide +kernel)
  have f42 := hts (.fieldLink RX8 42 "CartArguments$Yard" "cartsUnder" "[I") (by decide +kernel)
  have f45 := hts (.fieldLink RX8 45 "CartArguments$Yard" "places" "[I") (by decide +kernel)
  refine lv_aload_n hx hb dX8_takeOff_0 rfl (lv_at hl 0 rfl) ?_
  refine va_get (ci := 7) (v := .ref (a 0)) hx hb hts h_X8 hown hK hP 14 rfl rfl 0 (by decide) f9 (fun _ h9 => h9) rfl dX8_takeOff_1 ?_
  refine lv_iload_n hx hb dX8_takeOff_4 rfl (lv_at hl 1 rfl) ?_
  refine zVI [.int (x1)] [] (kX9_isThing (a) (y) (KR a b rs R) (x1)) hx hb hml hown hts (cwV 1 hts gX8_takeOff_X9_isThing rfl rfl rfl (by decide +kernel) ⟨(Nat.le_of_ble_eq_true rfl), (Nat.le_of_ble_eq_true rfl)⟩) hK hP hD hS hA (va_recv hK hP (ci := 8) (q0 := 0) rfl rfl) rfl hl.1 rfl (Nat.le_of_ble_eq_true rfl) dX8_takeOff_5 ⟨(Nat.le_of_ble_eq_true rfl), (Nat.le_of_ble_eq_true rfl)⟩ (fun r_5 _ H locs hr_5 hP hD hS => ?_)
  subst hr_5
  have hP : va_P D vwCl (YW ct a y (KR a b rs R)) H := hP
  have hD : va_D A (YW ct a y (KR a b rs R)) := hD
  refine zB_if_ne (tgt := 13) hx hb dX8_takeOff_8 (by decide) (fun c8_1 => ?_) (fun c8_1 => ?_)
  · skip
    obtain ⟨k1, hk1, ek1⟩ := p_in_ex (n := y_n y) (by omega) c8_1
    subst ek1
    have hclk1 : (nI k1).toNatClampNeg = k1 := nI_clamp (by omega)
    refine lv_aload_n hx hb dX8_takeOff_13 rfl (lv_at hl 0 rfl) ?_
    refine va_get (ci := 7) (v := .ref (a 0)) hx hb hts h_X8 hown hK hP 14 rfl rfl 0 (by decide) f9 (fun _ h9 => h9) rfl dX8_takeOff_14 ?_
    refine va_get (ci := 8) (v := .ref (a 3)) hx hb hts h_X9 hown hK hP 0 rfl rfl 3 (by decide) f42 (fun _ h9 => h9) rfl dX8_takeOff_17 ?_
    refine lv_iload_n hx hb dX8_takeOff_20 rfl (lv_at hl 1 rfl) ?_
    refine zIald (n := 12) (f := y_cu y) (i := k1) hx hb hK hP 3 rfl (by omega) (by decide) dX8_takeOff_21 ?_
    refine lv_istore_n (lv' := [(2, .int ((y_cu y (k1)))), (0, .ref (b 2)), (1, .int (nI (k1)))]) hx hb dX8_takeOff_22 rfl hl (by decide) rfl (fun ls hl => ?_)
    refine lv_iload_n hx hb dX8_takeOff_23 rfl (lv_at hl 0 rfl) ?_
    refine lv_bipush (v := (-4)) hx hb dX8_takeOff_24 (by decide) ?_
    refine lv_icmp_ne (tgt := 40) hx hb dX8_takeOff_26 (by decide) (fun c26_2 => ?_) (fun c26_2 => ?_)
    · skip
      refine lv_aload_n hx hb dX8_takeOff_40 rfl (lv_at hl 1 rfl) ?_
      refine va_get (ci := 7) (v := .ref (a 0)) hx hb hts h_X8 hown hK hP 14 rfl rfl 0 (by decide) f9 (fun _ h9 => h9) rfl dX8_takeOff_41 ?_
      refine lv_iload_n hx hb dX8_takeOff_44 rfl (lv_at hl 0 rfl) ?_
      refine lv_iconst (v := nI (0)) hx hb dX8_takeOff_45 (by decide) ?_
      refine zVI [.int ((y_cu y (k1))), .int (nI (0))] [] (kX9_weightOn (a) (y) (KR a b rs R) ((y_cu y (k1))) (nI (0)) (show y_n y ≤ 12 from by omega)) hx hb hml hown hts (cwV 2 hts gX8_takeOff_X9_weightOn rfl rfl rfl (by decide +kernel) ⟨(Nat.le_of_ble_eq_true rfl), (Nat.le_of_ble_eq_true rfl)⟩) hK hP hD hS hA (va_recv hK hP (ci := 8) (q0 := 0) rfl rfl) rfl hl.1 rfl (Nat.le_of_ble_eq_true rfl) dX8_takeOff_46 ⟨(Nat.le_of_ble_eq_true rfl), (Nat.le_of_ble_eq_true rfl)⟩ (fun r_46 _ H locs hr_46 hP hD hS => ?_)
      subst hr_46
      have hP : va_P D vwCl (YW ct a y (KR a b rs R)) H := hP
      have hD : va_D A (YW ct a y (KR a b rs R)) := hD
      refine lv_aload_n hx hb dX8_takeOff_49 rfl (lv_at hl 1 rfl) ?_
      refine va_get (ci := 7) (v := .ref (a 0)) hx hb hts h_X8 hown hK hP 14 rfl rfl 0 (by decide) f9 (fun _ h9 => h9) rfl dX8_takeOff_50 ?_
      refine va_get (ci := 8) (v := .ref (a 2)) hx hb hts h_X9 hown hK hP 0 rfl rfl 2 (by decide) f39 (fun _ h9 => h9) rfl dX8_takeOff_53 ?_
      refine lv_iload_n hx hb dX8_takeOff_56 rfl (lv_at hl 2 rfl) ?_
      refine zIald (n := 12) (f := y_w y) (i := k1) hx hb hK hP 2 rfl (by omega) (by decide) dX8_takeOff_57 ?_
      refine lv_isub hx hb dX8_takeOff_58 ?_
      refine lv_istore_n (lv' := [(3, .int (((t_wo y ((y_cu y (k1))) (nI (0))) - (y_w y (k1))))), (2, .int ((y_cu y (k1)))), (0, .ref (b 2)), (1, .int (nI (k1)))]) hx hb dX8_takeOff_59 rfl hl (by decide) rfl (fun ls hl => ?_)
      refine lv_aload_n hx hb dX8_takeOff_60 rfl (lv_at hl 2 rfl) ?_
      refine va_get (ci := 7) (v := .ref (a 0)) hx hb hts h_X8 hown hK hP 14 rfl rfl 0 (by decide) f9 (fun _ h9 => h9) rfl dX8_takeOff_61 ?_
      refine lv_iload_n hx hb dX8_takeOff_64 rfl (lv_at hl 1 rfl) ?_
      refine lv_iconst (v := nI (1)) hx hb dX8_takeOff_65 (by decide) ?_
      refine zVI [.int ((y_cu y (k1))), .int (nI (1))] [] (kX9_weightOn (a) (y) (KR a b rs R) ((y_cu y (k1))) (nI (1)) (show y_n y ≤ 12 from by omega)) hx hb hml hown hts (cwV 2 hts gX8_takeOff_X9_weightOn rfl rfl rfl (by decide +kernel) ⟨(Nat.le_of_ble_eq_true rfl), (Nat.le_of_ble_eq_true rfl)⟩) hK hP hD hS hA (va_recv hK hP (ci := 8) (q0 := 0) rfl rfl) rfl hl.1 rfl (Nat.le_of_ble_eq_true rfl) dX8_takeOff_66 ⟨(Nat.le_of_ble_eq_true rfl), (Nat.le_of_ble_eq_true rfl)⟩ (fun r_66 _ H locs hr_66 hP hD hS => ?_)
      subst hr_66
      have hP : va_P D vwCl (YW ct a y (KR a b rs R)) H := hP
      have hD : va_D A (YW ct a y (KR a b rs R)) := hD
      refine lv_iload_n hx hb dX8_takeOff_69 rfl (lv_at hl 0 rfl) ?_
      refine lv_isub hx hb dX8_takeOff_70 ?_
      refine lv_istore (lv' := [(4, .int (((t_wo y ((y_cu y (k1))) (nI (1))) - ((t_wo y ((y_cu y (k1))) (nI (0))) - (y_w y (k1)))))), (3, .int (((t_wo y ((y_cu y (k1))) (nI (0))) - (y_w y (k1))))), (2, .int ((y_cu y (k1)))), (0, .ref (b 2)), (1, .int (nI (k1)))]) hx hb dX8_takeOff_71 hl (by decide) rfl (fun ls hl => ?_)
      refine lv_aload_n hx hb dX8_takeOff_73 rfl (lv_at hl 3 rfl) ?_
      refine va_get (ci := 7) (v := .ref (a 0)) hx hb hts h_X8 hown hK hP 14 rfl rfl 0 (by decide) f9 (fun _ h9 => h9) rfl dX8_takeOff_74 ?_
      refine va_get (ci := 8) (v := .ref (a 1)) hx hb hts h_X9 hown hK hP 0 rfl rfl 1 (by decide) f35 (fun _ h9 => h9) rfl dX8_takeOff_77 ?_
      refine lv_iload_n hx hb dX8_takeOff_80 rfl (lv_at hl 4 rfl) ?_
      refine zIald (n := 12) (f := y_kd y) (i := k1) hx hb hK hP 1 rfl (by omega) (by decide) dX8_takeOff_81 ?_
      refine lv_if_ne (tgt := 101) hx hb dX8_takeOff_82 (by decide) (fun c82_3 => ?_) (fun c82_3 => ?_)
      · skip
        refine lv_aload_n hx hb dX8_takeOff_101 rfl (lv_at hl 3 rfl) ?_
        refine va_get (ci := 7) (v := .ref (a 0)) hx hb hts h_X8 hown hK hP 14 rfl rfl 0 (by decide) f9 (fun _ h9 => h9) rfl dX8_takeOff_102 ?_
        refine va_get (ci := 8) (v := .ref (a 3)) hx hb hts h_X9 hown hK hP 0 rfl rfl 3 (by decide) f42 (fun _ h9 => h9) rfl dX8_takeOff_105 ?_
        refine lv_iload_n hx hb dX8_takeOff_108 rfl (lv_at hl 4 rfl) ?_
        refine lv_bipush (v := (-4)) hx hb dX8_takeOff_109 (by decide) ?_
        refine zIast (n := 12) (f := y_cu y) (i := k1) hx hb hK hP hD hS 3 rfl (by omega) (by decide) dX8_takeOff_111 (fun H locs hP hD hS => ?_)
        have hP : va_P D vwCl (YW ct a (y_n y, y_kd y, y_w y, (upd (y_cu y) (k1) ((-4))), y_pl y, y_cn y, y_st y, y_wr y, y_tr y, y_rn y, y_li y, y_mi y, y_ra y, y_rt y, y_tl y, y_mm y) (KR a b rs R)) H := hP
        have hD : va_D A (YW ct a (y_n y, y_kd y, y_w y, (upd (y_cu y) (k1) ((-4))), y_pl y, y_cn y, y_st y, y_wr y, y_tr y, y_rn y, y_li y, y_mi y, y_ra y, y_rt y, y_tl y, y_mm y) (KR a b rs R)) := hD
        refine lv_aload_n hx hb dX8_takeOff_112 rfl (lv_at hl 3 rfl) ?_
        refine va_get (ci := 7) (v := .ref (a 0)) hx hb hts h_X8 hown hK hP 14 rfl rfl 0 (by decide) f9 (fun _ h9 => h9) rfl dX8_takeOff_113 ?_
        refine va_get (ci := 8) (v := .ref (a 4)) hx hb hts h_X9 hown hK hP 0 rfl rfl 4 (by decide) f45 (fun _ h9 => h9) rfl dX8_takeOff_116 ?_
        refine lv_iload_n hx hb dX8_takeOff_119 rfl (lv_at hl 4 rfl) ?_
        refine lv_bipush (v := (-4)) hx hb dX8_takeOff_120 (by decide) ?_
        refine zIast (n := 12) (f := y_pl y) (i := k1) hx hb hK hP hD hS 4 rfl (by omega) (by decide) dX8_takeOff_122 (fun H locs hP hD hS => ?_)
        have hP : va_P D vwCl (YW ct a (y_n y, y_kd y, y_w y, (upd (y_cu y) (k1) ((-4))), (upd (y_pl y) (k1) ((-4))), y_cn y, y_st y, y_wr y, y_tr y, y_rn y, y_li y, y_mi y, y_ra y, y_rt y, y_tl y, y_mm y) (KR a b rs R)) H := hP
        have hD : va_D A (YW ct a (y_n y, y_kd y, y_w y, (upd (y_cu y) (k1) ((-4))), (upd (y_pl y) (k1) ((-4))), y_cn y, y_st y, y_wr y, y_tr y, y_rn y, y_li y, y_mi y, y_ra y, y_rt y, y_tl y, y_mm y) (KR a b rs R)) := hD
        refine lv_iload_n hx hb dX8_takeOff_123 rfl (lv_at hl 2 rfl) ?_
        have e9 : f_off y rs (nI k1) = ((y_cu y (k1)), (y_n y, y_kd y, y_w y, (upd (y_cu y) (k1) ((-4))), (upd (y_pl y) (k1) ((-4))), y_cn y, y_st y, y_wr y, y_tr y, y_rn y, y_li y, y_mi y, y_ra y, y_rt y, y_tl y, y_mm y), rs) := (by simp only [f_off, setAt, yMove, rsOf, yWr, c8_1, hclk1, c26_2, c82_3, p_in, p_worn, p_wi, p_creak, p_over, p_le0, p_lt1, not_true_eq_false, not_false_eq_true, if_true, if_false, and_true, true_and, and_false, false_and, or_true, true_or, or_false, false_or, and_self, or_self, iff_true, true_iff, iff_false, false_iff, decide_eq_true_eq, decide_true, decide_false, Int32.add_zero, Nat.add_zero, ne_eq, Bool.false_eq_true, eq_self])
        exact zIret () hx hb hr hlocks hK (by show va_P D vwCl (YW ct a (f_off y rs (nI k1)).2.1 (KR a b (f_off y rs (nI k1)).2.2 R)) H; rw [e9]; exact hP) (by show va_D A (YW ct a (f_off y rs (nI k1)).2.1 (KR a b (f_off y rs (nI k1)).2.2 R)); rw [e9]; exact hD) hS dX8_takeOff_124 (show (y_cu y (k1)) = (f_off y rs (nI k1)).1 from (by rw [e9]))
      · skip
        refine lv_iload hx hb dX8_takeOff_85 (lv_at hl 0 rfl) ?_
        refine lv_if_le (tgt := 101) hx hb dX8_takeOff_87 (by decide) (fun c87_4 => ?_) (fun c87_4 => ?_)
        · skip
          refine lv_aload_n hx hb dX8_takeOff_101 rfl (lv_at hl 3 rfl) ?_
          refine va_get (ci := 7) (v := .ref (a 0)) hx hb hts h_X8 hown hK hP 14 rfl rfl 0 (by decide) f9 (fun _ h9 => h9) rfl dX8_takeOff_102 ?_
          refine va_get (ci := 8) (v := .ref (a 3)) hx hb hts h_X9 hown hK hP 0 rfl rfl 3 (by decide) f42 (fun _ h9 => h9) rfl dX8_takeOff_105 ?_
          refine lv_iload_n hx hb dX8_takeOff_108 rfl (lv_at hl 4 rfl) ?_
          refine lv_bipush (v := (-4)) hx hb dX8_takeOff_109 (by decide) ?_
          refine zIast (n := 12) (f := y_cu y) (i := k1) hx hb hK hP hD hS 3 rfl (by omega) (by decide) dX8_takeOff_111 (fun H locs hP hD hS => ?_)
          have hP : va_P D vwCl (YW ct a (y_n y, y_kd y, y_w y, (upd (y_cu y) (k1) ((-4))), y_pl y, y_cn y, y_st y, y_wr y, y_tr y, y_rn y, y_li y, y_mi y, y_ra y, y_rt y, y_tl y, y_mm y) (KR a b rs R)) H := hP
          have hD : va_D A (YW ct a (y_n y, y_kd y, y_w y, (upd (y_cu y) (k1) ((-4))), y_pl y, y_cn y, y_st y, y_wr y, y_tr y, y_rn y, y_li y, y_mi y, y_ra y, y_rt y, y_tl y, y_mm y) (KR a b rs R)) := hD
          refine lv_aload_n hx hb dX8_takeOff_112 rfl (lv_at hl 3 rfl) ?_
          refine va_get (ci := 7) (v := .ref (a 0)) hx hb hts h_X8 hown hK hP 14 rfl rfl 0 (by decide) f9 (fun _ h9 => h9) rfl dX8_takeOff_113 ?_
          refine va_get (ci := 8) (v := .ref (a 4)) hx hb hts h_X9 hown hK hP 0 rfl rfl 4 (by decide) f45 (fun _ h9 => h9) rfl dX8_takeOff_116 ?_
          refine lv_iload_n hx hb dX8_takeOff_119 rfl (lv_at hl 4 rfl) ?_
          refine lv_bipush (v := (-4)) hx hb dX8_takeOff_120 (by decide) ?_
          refine zIast (n := 12) (f := y_pl y) (i := k1) hx hb hK hP hD hS 4 rfl (by omega) (by decide) dX8_takeOff_122 (fun H locs hP hD hS => ?_)
          have hP : va_P D vwCl (YW ct a (y_n y, y_kd y, y_w y, (upd (y_cu y) (k1) ((-4))), (upd (y_pl y) (k1) ((-4))), y_cn y, y_st y, y_wr y, y_tr y, y_rn y, y_li y, y_mi y, y_ra y, y_rt y, y_tl y, y_mm y) (KR a b rs R)) H := hP
          have hD : va_D A (YW ct a (y_n y, y_kd y, y_w y, (upd (y_cu y) (k1) ((-4))), (upd (y_pl y) (k1) ((-4))), y_cn y, y_st y, y_wr y, y_tr y, y_rn y, y_li y, y_mi y, y_ra y, y_rt y, y_tl y, y_mm y) (KR a b rs R)) := hD
          refine lv_iload_n hx hb dX8_takeOff_123 rfl (lv_at hl 2 rfl) ?_
          have e9 : f_off y rs (nI k1) = ((y_cu y (k1)), (y_n y, y_kd y, y_w y, (upd (y_cu y) (k1) ((-4))), (upd (y_pl y) (k1) ((-4))), y_cn y, y_st y, y_wr y, y_tr y, y_rn y, y_li y, y_mi y, y_ra y, y_rt y, y_tl y, y_mm y), rs) := (by simp only [f_off, setAt, yMove, rsOf, yWr, c8_1, hclk1, c26_2, eq_true c82_3, c87_4, p_in, p_worn, p_wi, p_creak, p_over, p_le0, p_lt1, not_true_eq_false, not_false_eq_true, if_true, if_false, and_true, true_and, and_false, false_and, or_true, true_or, or_false, false_or, and_self, or_self, iff_true, true_iff, iff_false, false_iff, decide_eq_true_eq, decide_true, decide_false, Int32.add_zero, Nat.add_zero, ne_eq, Bool.false_eq_true, eq_self])
          exact zIret () hx hb hr hlocks hK (by show va_P D vwCl (YW ct a (f_off y rs (nI k1)).2.1 (KR a b (f_off y rs (nI k1)).2.2 R)) H; rw [e9]; exact hP) (by show va_D A (YW ct a (f_off y rs (nI k1)).2.1 (KR a b (f_off y rs (nI k1)).2.2 R)); rw [e9]; exact hD) hS dX8_takeOff_124 (show (y_cu y (k1)) = (f_off y rs (nI k1)).1 from (by rw [e9]))
        · skip
          refine lv_aload_n hx hb dX8_takeOff_90 rfl (lv_at hl 3 rfl) ?_
          refine va_get (ci := 7) (v := .ref (b 1)) hx hb hts h_X8 hown hK hP 14 rfl rfl 2 (by decide) f19 (fun _ h9 => h9) rfl dX8_takeOff_91 ?_
          refine lv_iconst (v := nI (5)) hx hb dX8_takeOff_94 (by decide) ?_
          refine lv_iload hx hb dX8_takeOff_95 (lv_at hl 0 rfl) ?_
          refine zVI [.int (nI (5)), .int (((t_wo y ((y_cu y (k1))) (nI (1))) - ((t_wo y ((y_cu y (k1))) (nI (0))) - (y_w y (k1)))))] [] (kX6_refuse (a) (y) (b) (rs) (R) (nI (5)) (((t_wo y ((y_cu y (k1))) (nI (1))) - ((t_wo y ((y_cu y (k1))) (nI (0))) - (y_w y (k1)))))) hx hb hml hown hts (cwV 2 hts gX8_takeOff_X6_refuse rfl rfl rfl (by decide +kernel) ⟨(Nat.le_of_ble_eq_true rfl), (Nat.le_of_ble_eq_true rfl)⟩) hK hP hD hS hA (va_recv hK hP (ci := 5) (q0 := 13) rfl rfl) rfl hl.1 rfl (Nat.le_of_ble_eq_true rfl) dX8_takeOff_97 ⟨(Nat.le_of_ble_eq_true rfl), (Nat.le_of_ble_eq_true rfl)⟩ (fun r_97 _ H locs hr_97 hP hD hS => ?_)
          subst hr_97
          have hP : va_P D vwCl (YW ct a y (KR a b ((nI (5)), (((t_wo y ((y_cu y (k1))) (nI (1))) - ((t_wo y ((y_cu y (k1))) (nI (0))) - (y_w y (k1))))), (-4), (-4)) R)) H := hP
          have hD : va_D A (YW ct a y (KR a b ((nI (5)), (((t_wo y ((y_cu y (k1))) (nI (1))) - ((t_wo y ((y_cu y (k1))) (nI (0))) - (y_w y (k1))))), (-4), (-4)) R)) := hD
          have e9 : f_off y rs (nI k1) = ((-3), y, ((nI (5)), (((t_wo y ((y_cu y (k1))) (nI (1))) - ((t_wo y ((y_cu y (k1))) (nI (0))) - (y_w y (k1))))), (-4), (-4))) := (by simp only [f_off, setAt, yMove, rsOf, yWr, c8_1, hclk1, c26_2, eq_true c82_3, c87_4, p_in, p_worn, p_wi, p_creak, p_over, p_le0, p_lt1, not_true_eq_false, not_false_eq_true, if_true, if_false, and_true, true_and, and_false, false_and, or_true, true_or, or_false, false_or, and_self, or_self, iff_true, true_iff, iff_false, false_iff, decide_eq_true_eq, decide_true, decide_false, Int32.add_zero, Nat.add_zero, ne_eq, Bool.false_eq_true, eq_self])
          exact zIret () hx hb hr hlocks hK (by show va_P D vwCl (YW ct a (f_off y rs (nI k1)).2.1 (KR a b (f_off y rs (nI k1)).2.2 R)) H; rw [e9]; exact hP) (by show va_D A (YW ct a (f_off y rs (nI k1)).2.1 (KR a b (f_off y rs (nI k1)).2.2 R)); rw [e9]; exact hD) hS dX8_takeOff_100 (show (-3) = (f_off y rs (nI k1)).1 from (by rw [e9]))
    · skip
      refine lv_aload_n hx hb dX8_takeOff_29 rfl (lv_at hl 1 rfl) ?_
      refine va_get (ci := 7) (v := .ref (b 1)) hx hb hts h_X8 hown hK hP 14 rfl rfl 2 (by decide) f19 (fun _ h9 => h9) rfl dX8_takeOff_30 ?_
      refine lv_bipush (v := nI (6)) hx hb dX8_takeOff_33 (by decide) ?_
      refine lv_iload_n hx hb dX8_takeOff_35 rfl (lv_at hl 2 rfl) ?_
      refine zVI [.int (nI (6)), .int (nI (k1))] [] (kX6_refuse (a) (y) (b) (rs) (R) (nI (6)) (nI (k1))) hx hb hml hown hts (cwV 2 hts gX8_takeOff_X6_refuse rfl rfl rfl (by decide +kernel) ⟨(Nat.le_of_ble_eq_true rfl), (Nat.le_of_ble_eq_true rfl)⟩) hK hP hD hS hA (va_recv hK hP (ci := 5) (q0 := 13) rfl rfl) rfl hl.1 rfl (Nat.le_of_ble_eq_true rfl) dX8_takeOff_36 ⟨(Nat.le_of_ble_eq_true rfl), (Nat.le_of_ble_eq_true rfl)⟩ (fun r_36 _ H locs hr_36 hP hD hS => ?_)
      subst hr_36
      have hP : va_P D vwCl (YW ct a y (KR a b ((nI (6)), (nI (k1)), (-4), (-4)) R)) H := hP
      have hD : va_D A (YW ct a y (KR a b ((nI (6)), (nI (k1)), (-4), (-4)) R)) := hD
      have e9 : f_off y rs (nI k1) = ((-3), y, ((nI (6)), (nI (k1)), (-4), (-4))) := (by simp only [f_off, setAt, yMove, rsOf, yWr, c8_1, hclk1, eq_true c26_2, p_in, p_worn, p_wi, p_creak, p_over, p_le0, p_lt1, not_true_eq_false, not_false_eq_true, if_true, if_false, and_true, true_and, and_false, false_and, or_true, true_or, or_false, false_or, and_self, or_self, iff_true, true_iff, iff_false, false_iff, decide_eq_true_eq, decide_true, decide_false, Int32.add_zero, Nat.add_zero, ne_eq, Bool.false_eq_true, eq_self])
      exact zIret () hx hb hr hlocks hK (by show va_P D vwCl (YW ct a (f_off y rs (nI k1)).2.1 (KR a b (f_off y rs (nI k1)).2.2 R)) H; rw [e9]; exact hP) (by show va_D A (YW ct a (f_off y rs (nI k1)).2.1 (KR a b (f_off y rs (nI k1)).2.2 R)); rw [e9]; exact hD) hS dX8_takeOff_39 (show (-3) = (f_off y rs (nI k1)).1 from (by rw [e9]))
  · skip
    refine lv_iconst (v := (-1)) hx hb dX8_takeOff_11 (by decide) ?_
    have e9 : f_off y rs x1 = ((-1), y, rs) := (by simp only [f_off, setAt, yMove, rsOf, yWr, c8_1, p_in, p_worn, p_wi, p_creak, p_over, p_le0, p_lt1, not_true_eq_false, not_false_eq_true, if_true, if_false, and_true, true_and, and_false, false_and, or_true, true_or, or_false, false_or, and_self, or_self, iff_true, true_iff, iff_false, false_iff, decide_eq_true_eq, decide_true, decide_false, Int32.add_zero, Nat.add_zero, ne_eq, Bool.false_eq_true, eq_self])
    exact zIret () hx hb hr hlocks hK (by show va_P D vwCl (YW ct a (f_off y rs x1).2.1 (KR a b (f_off y rs x1).2.2 R)) H; rw [e9]; exact hP) (by show va_D A (YW ct a (f_off y rs x1).2.1 (KR a b (f_off y rs x1).2.2 R)); rw [e9]; exact hD) hS dX8_takeOff_12 (show (-1) = (f_off y rs x1).1 from (by rw [e9]))
abbrev rmX8_exchange : Room := { frames := 2, cells := 0, slots := 0, locals := 51 }
theorem in_X8_exchange_X8 : ∀ w ∈ u_ws RX8 TX8 3, w ∈ wsX8_exchange := by decide +kernel
theorem in_X8_exchange_X9 : ∀ w ∈ u_ws RX9 TX9 16, w ∈ wsX8_exchange := by decide +kernel
set_option maxHeartbeats 4000000 in
set_option maxRecDepth 100000 in
theorem kX8_exchange {D : va_G} {ct : Nat → ClassId} {l : Launch} (a : Nat → Nat) (y : YS) (b : Nat → Nat) (rs : RS) (R : va_W) (x1 : Int32) (x2 : Int32) (x3 : Int32) (hn : y_n y ≤ 12) (hkd : ∀ j9, j9 < y_n y → y_kd y j9 = nI 0 ∨ y_kd y j9 = nI 1) : MI D ct l yX8_exchange wsX8_exchange rmX8_exchange (YW ct a y (KR a b rs R)) [.ref (b 2), .int (x1), .int (x2), .int (x3)] (fun r0 (_ : Unit) => r0 = (f_swap y rs x1 x2 x3).1) (fun _ : Unit => YW ct a (f_swap y rs x1 x2 x3).2.1 (KR a b (f_swap y rs x1 x2 x3).2.2 R)) := by
  refine MIof (cc := cX8_exchange) (maxL := 6) (ret := (some .int)) (by decide) rfl (Nat.le_of_ble_eq_true rfl) ?_
  intro p e s m args below meth c A H locs F hP hK hD hS hA ls hl
  obtain ⟨hx, hb, hr, hlocks, hml, hown, hts, hin⟩ := F
  have hl : lv_has ls 6 [(0, .ref (b 2)), (1, .int (x1)), (2, .int (x2)), (3, .int (x3))] := hl
  have h_X8 := in_X8_exchange_X8
  have h_X9 := in_X8_exchange_X9
  have f9 := hts (.fieldLink RX8 9 "CartArguments$Works" "yard" "LCartArguments$Yard;") (by decide +kernel)
  have f15 := hts (.fieldLink RX8 15 "CartArguments$Works" "scale" "LCartArguments$Scale;") (by decide +kernel)
  have f19 := hts (.fieldLink RX8 19 "CartArguments$Works" "reasons" "LCartArguments$Reasons;") (by decide +kernel)
  have f45 := hts (.fieldLink RX8 45 "CartArguments$Yard" "places" "[I") (by decide +kernel)
  refine lv_aload_n hx hb dX8_exchange_0 rfl (lv_at hl 0 rfl) ?_
  refine va_get (ci := 7) (v := .ref (a 0)) hx hb hts h_X8 hown hK hP 14 rfl rfl 0 (by decide) f9 (fun _ h9 => h9) rfl dX8_exchange_1 ?_
  refine lv_iload_n hx hb dX8_exchange_4 rfl (lv_at hl 1 rfl) ?_
  refine zVI [.int (x1)] [] (kX9_isCart (a) (y) (KR a b rs R) (x1)) hx hb hml hown hts (cwV 1 hts gX8_exchange_X9_isCart rfl rfl rfl (by decide +kernel) ⟨(Nat.le_of_ble_eq_true rfl), (Nat.le_of_ble_eq_true rfl)⟩) hK hP hD hS hA (va_recv hK hP (ci := 8) (q0 := 0) rfl rfl) rfl hl.1 rfl (Nat.le_of_ble_eq_true rfl) dX8_exchange_5 ⟨(Nat.le_of_ble_eq_true rfl), (Nat.le_of_ble_eq_true rfl)⟩ (fun r_5 _ H locs hr_5 hP hD hS => ?_)
  subst hr_5
  have hP : va_P D vwCl (YW ct a y (KR a b rs R)) H := hP
  have hD : va_D A (YW ct a y (KR a b rs R)) := hD
  refine zB_if_ne (tgt := 13) hx hb dX8_exchange_8 (by decide) (fun c8_1 => ?_) (fun c8_1 => ?_)
  · skip
    refine lv_iload_n hx hb dX8_exchange_13 rfl (lv_at hl 2 rfl) ?_
    refine lv_if_lt (tgt := 31) hx hb dX8_exchange_14 (by decide) (fun c14_2 => ?_) (fun c14_2 => ?_)
    · skip
      refine lv_bipush (v := (-2)) hx hb dX8_exchange_31 (by decide) ?_
      have e9 : f_swap y rs x1 x2 x3 = ((-2), y, rs) := (by simp only [f_swap, setAt, yMove, rsOf, yWr, c8_1, c14_2, p_in, p_worn, p_wi, p_creak, p_over, p_le0, p_lt1, not_true_eq_false, not_false_eq_true, if_true, if_false, and_true, true_and, and_false, false_and, or_true, true_or, or_false, false_or, and_self, or_self, iff_true, true_iff, iff_false, false_iff, decide_eq_true_eq, decide_true, decide_false, Int32.add_zero, Nat.add_zero, ne_eq, Bool.false_eq_true, eq_self])
      exact zIret () hx hb hr hlocks hK (by show va_P D vwCl (YW ct a (f_swap y rs x1 x2 x3).2.1 (KR a b (f_swap y rs x1 x2 x3).2.2 R)) H; rw [e9]; exact hP) (by show va_D A (YW ct a (f_swap y rs x1 x2 x3).2.1 (KR a b (f_swap y rs x1 x2 x3).2.2 R)); rw [e9]; exact hD) hS dX8_exchange_33 (show (-2) = (f_swap y rs x1 x2 x3).1 from (by rw [e9]))
    · skip
      refine lv_iload_n hx hb dX8_exchange_17 rfl (lv_at hl 2 rfl) ?_
      refine lv_iconst (v := nI (5)) hx hb dX8_exchange_18 (by decide) ?_
      refine lv_icmp_gt (tgt := 31) hx hb dX8_exchange_19 (by decide) (fun c19_3 => ?_) (fun c19_3 => ?_)
      · skip
        refine lv_bipush (v := (-2)) hx hb dX8_exchange_31 (by decide) ?_
        have e9 : f_swap y rs x1 x2 x3 = ((-2), y, rs) := (by simp only [f_swap, setAt, yMove, rsOf, yWr, c8_1, c14_2, c19_3, p_in, p_worn, p_wi, p_creak, p_over, p_le0, p_lt1, not_true_eq_false, not_false_eq_true, if_true, if_false, and_true, true_and, and_false, false_and, or_true, true_or, or_false, false_or, and_self, or_self, iff_true, true_iff, iff_false, false_iff, decide_eq_true_eq, decide_true, decide_false, Int32.add_zero, Nat.add_zero, ne_eq, Bool.false_eq_true, eq_self])
        exact zIret () hx hb hr hlocks hK (by show va_P D vwCl (YW ct a (f_swap y rs x1 x2 x3).2.1 (KR a b (f_swap y rs x1 x2 x3).2.2 R)) H; rw [e9]; exact hP) (by show va_D A (YW ct a (f_swap y rs x1 x2 x3).2.1 (KR a b (f_swap y rs x1 x2 x3).2.2 R)); rw [e9]; exact hD) hS dX8_exchange_33 (show (-2) = (f_swap y rs x1 x2 x3).1 from (by rw [e9]))
      · skip
        refine lv_iload_n hx hb dX8_exchange_22 rfl (lv_at hl 3 rfl) ?_
        refine lv_if_lt (tgt := 31) hx hb dX8_exchange_23 (by decide) (fun c23_4 => ?_) (fun c23_4 => ?_)
        · skip
          refine lv_bipush (v := (-2)) hx hb dX8_exchange_31 (by decide) ?_
          have e9 : f_swap y rs x1 x2 x3 = ((-2), y, rs) := (by simp only [f_swap, setAt, yMove, rsOf, yWr, c8_1, c14_2, c19_3, c23_4, p_in, p_worn, p_wi, p_creak, p_over, p_le0, p_lt1, not_true_eq_false, not_false_eq_true, if_true, if_false, and_true, true_and, and_false, false_and, or_true, true_or, or_false, false_or, and_self, or_self, iff_true, true_iff, iff_false, false_iff, decide_eq_true_eq, decide_true, decide_false, Int32.add_zero, Nat.add_zero, ne_eq, Bool.false_eq_true, eq_self])
          exact zIret () hx hb hr hlocks hK (by show va_P D vwCl (YW ct a (f_swap y rs x1 x2 x3).2.1 (KR a b (f_swap y rs x1 x2 x3).2.2 R)) H; rw [e9]; exact hP) (by show va_D A (YW ct a (f_swap y rs x1 x2 x3).2.1 (KR a b (f_swap y rs x1 x2 x3).2.2 R)); rw [e9]; exact hD) hS dX8_exchange_33 (show (-2) = (f_swap y rs x1 x2 x3).1 from (by rw [e9]))
        · skip
          refine lv_iload_n hx hb dX8_exchange_26 rfl (lv_at hl 3 rfl) ?_
          refine lv_iconst (v := nI (5)) hx hb dX8_exchange_27 (by decide) ?_
          refine lv_icmp_le (tgt := 34) hx hb dX8_exchange_28 (by decide) (fun c28_5 => ?_) (fun c28_5 => ?_)
          · skip
            refine lv_iload_n hx hb dX8_exchange_34 rfl (lv_at hl 2 rfl) ?_
            refine lv_iload_n hx hb dX8_exchange_35 rfl (lv_at hl 3 rfl) ?_
            refine lv_icmp_ne (tgt := 50) hx hb dX8_exchange_36 (by decide) (fun c36_6 => ?_) (fun c36_6 => ?_)
            · skip
              refine lv_aload_n hx hb dX8_exchange_50 rfl (lv_at hl 0 rfl) ?_
              refine va_get (ci := 7) (v := .ref (a 0)) hx hb hts h_X8 hown hK hP 14 rfl rfl 0 (by decide) f9 (fun _ h9 => h9) rfl dX8_exchange_51 ?_
              refine lv_iload_n hx hb dX8_exchange_54 rfl (lv_at hl 1 rfl) ?_
              refine lv_iload_n hx hb dX8_exchange_55 rfl (lv_at hl 2 rfl) ?_
              refine zVI [.int (x1), .int (x2)] [] (kX9_thingAt (a) (y) (KR a b rs R) (x1) (x2) (show y_n y ≤ 12 from by omega)) hx hb hml hown hts (cwV 2 hts gX8_exchange_X9_thingAt rfl rfl rfl (by decide +kernel) ⟨(Nat.le_of_ble_eq_true rfl), (Nat.le_of_ble_eq_true rfl)⟩) hK hP hD hS hA (va_recv hK hP (ci := 8) (q0 := 0) rfl rfl) rfl hl.1 rfl (Nat.le_of_ble_eq_true rfl) dX8_exchange_56 ⟨(Nat.le_of_ble_eq_true rfl), (Nat.le_of_ble_eq_true rfl)⟩ (fun r_56 _ H locs hr_56 hP hD hS => ?_)
              subst hr_56
              have hP : va_P D vwCl (YW ct a y (KR a b rs R)) H := hP
              have hD : va_D A (YW ct a y (KR a b rs R)) := hD
              refine lv_istore (lv' := [(4, .int ((t_at y (x1) (x2)))), (0, .ref (b 2)), (1, .int (x1)), (2, .int (x2)), (3, .int (x3))]) hx hb dX8_exchange_59 hl (by decide) rfl (fun ls hl => ?_)
              obtain ⟨v4, ev4⟩ : ∃ v : Int32, v = (t_at y (x1) (x2)) := ⟨_, rfl⟩
              rw [← ev4] at hl
              refine lv_aload_n hx hb dX8_exchange_61 rfl (lv_at hl 1 rfl) ?_
              refine va_get (ci := 7) (v := .ref (a 0)) hx hb hts h_X8 hown hK hP 14 rfl rfl 0 (by decide) f9 (fun _ h9 => h9) rfl dX8_exchange_62 ?_
              refine lv_iload_n hx hb dX8_exchange_65 rfl (lv_at hl 2 rfl) ?_
              refine lv_iload_n hx hb dX8_exchange_66 rfl (lv_at hl 4 rfl) ?_
              refine zVI [.int (x1), .int (x3)] [] (kX9_thingAt (a) (y) (KR a b rs R) (x1) (x3) (show y_n y ≤ 12 from by omega)) hx hb hml hown hts (cwV 2 hts gX8_exchange_X9_thingAt rfl rfl rfl (by decide +kernel) ⟨(Nat.le_of_ble_eq_true rfl), (Nat.le_of_ble_eq_true rfl)⟩) hK hP hD hS hA (va_recv hK hP (ci := 8) (q0 := 0) rfl rfl) rfl hl.1 rfl (Nat.le_of_ble_eq_true rfl) dX8_exchange_67 ⟨(Nat.le_of_ble_eq_true rfl), (Nat.le_of_ble_eq_true rfl)⟩ (fun r_67 _ H locs hr_67 hP hD hS => ?_)
              subst hr_67
              have hP : va_P D vwCl (YW ct a y (KR a b rs R)) H := hP
              have hD : va_D A (YW ct a y (KR a b rs R)) := hD
              refine lv_istore (lv' := [(5, .int ((t_at y (x1) (x3)))), (4, .int (v4)), (0, .ref (b 2)), (1, .int (x1)), (2, .int (x2)), (3, .int (x3))]) hx hb dX8_exchange_70 hl (by decide) rfl (fun ls hl => ?_)
              obtain ⟨v5, ev5⟩ : ∃ v : Int32, v = (t_at y (x1) (x3)) := ⟨_, rfl⟩
              rw [← ev5] at hl
              refine lv_iload hx hb dX8_exchange_72 (lv_at hl 1 rfl) ?_
              refine lv_bipush (v := (-4)) hx hb dX8_exchange_74 (by decide) ?_
              refine lv_icmp_eq (tgt := 90) hx hb dX8_exchange_76 (by decide) (fun c76_7 => ?_) (fun c76_7 => ?_)
              · skip
                rw [c76_7] at ev4
                refine lv_iload hx hb dX8_exchange_90 (lv_at hl 0 rfl) ?_
                refine lv_bipush (v := (-4)) hx hb dX8_exchange_92 (by decide) ?_
                refine lv_icmp_eq (tgt := 108) hx hb dX8_exchange_94 (by decide) (fun c94_8 => ?_) (fun c94_8 => ?_)
                · skip
                  rw [c94_8] at ev5
                  refine lv_aload_n hx hb dX8_exchange_108 rfl (lv_at hl 2 rfl) ?_
                  refine va_get (ci := 7) (v := .ref (b 0)) hx hb hts h_X8 hown hK hP 14 rfl rfl 1 (by decide) f15 (fun _ h9 => h9) rfl dX8_exchange_109 ?_
                  refine lv_iload_n hx hb dX8_exchange_112 rfl (lv_at hl 3 rfl) ?_
                  refine zVI [.int (x1)] [] (kX7_imbalance (a) (y) (b) (rs) (R) (x1) (show y_n y ≤ 12 from by omega) (show ∀ j9, j9 < y_n y → y_kd y j9 = nI 0 ∨ y_kd y j9 = nI 1 from hkd)) hx hb hml hown hts (cwV 1 hts gX8_exchange_X7_imbalance rfl rfl rfl (by decide +kernel) ⟨(Nat.le_of_ble_eq_true rfl), (Nat.le_of_ble_eq_true rfl)⟩) hK hP hD hS hA (va_recv hK hP (ci := 6) (q0 := 12) rfl rfl) rfl hl.1 rfl (Nat.le_of_ble_eq_true rfl) dX8_exchange_113 ⟨(Nat.le_of_ble_eq_true rfl), (Nat.le_of_ble_eq_true rfl)⟩ (fun r_113 _ H locs hr_113 hP hD hS => ?_)
                  subst hr_113
                  have hP : va_P D vwCl (YW ct a y (KR a b rs R)) H := hP
                  have hD : va_D A (YW ct a y (KR a b rs R)) := hD
                  have e9 : f_swap y rs x1 x2 x3 = ((t_im y (x1)), y, rs) := (by simp only [f_swap, setAt, yMove, rsOf, yWr, c8_1, c14_2, c19_3, c23_4, c28_5, c36_6, eq_true c76_7, ← ev4, eq_true c94_8, ← ev5, p_in, p_worn, p_wi, p_creak, p_over, p_le0, p_lt1, not_true_eq_false, not_false_eq_true, if_true, if_false, and_true, true_and, and_false, false_and, or_true, true_or, or_false, false_or, and_self, or_self, iff_true, true_iff, iff_false, false_iff, decide_eq_true_eq, decide_true, decide_false, Int32.add_zero, Nat.add_zero, ne_eq, Bool.false_eq_true, eq_self])
                  exact zIret () hx hb hr hlocks hK (by show va_P D vwCl (YW ct a (f_swap y rs x1 x2 x3).2.1 (KR a b (f_swap y rs x1 x2 x3).2.2 R)) H; rw [e9]; exact hP) (by show va_D A (YW ct a (f_swap y rs x1 x2 x3).2.1 (KR a b (f_swap y rs x1 x2 x3).2.2 R)); rw [e9]; exact hD) hS dX8_exchange_116 (show (t_im y (x1)) = (f_swap y rs x1 x2 x3).1 from (by rw [e9]))
                · skip
                  obtain ⟨k5, hk5, qk5⟩ := (at_ex y _ _).resolve_left (fun q => c94_8 (ev5.trans q))
                  rw [qk5] at ev5
                  subst ev5
                  have hclk5 : (nI k5).toNatClampNeg = k5 := nI_clamp (by omega)
                  have hnek5 : ¬ nI k5 = -4 := nI_ne4 (by omega)
                  refine lv_aload_n hx hb dX8_exchange_97 rfl (lv_at hl 2 rfl) ?_
                  refine va_get (ci := 7) (v := .ref (a 0)) hx hb hts h_X8 hown hK hP 14 rfl rfl 0 (by decide) f9 (fun _ h9 => h9) rfl dX8_exchange_98 ?_
                  refine va_get (ci := 8) (v := .ref (a 4)) hx hb hts h_X9 hown hK hP 0 rfl rfl 4 (by decide) f45 (fun _ h9 => h9) rfl dX8_exchange_101 ?_
                  refine lv_iload hx hb dX8_exchange_104 (lv_at hl 0 rfl) ?_
                  refine lv_iload_n hx hb dX8_exchange_106 rfl (lv_at hl 4 rfl) ?_
                  refine zIast (n := 12) (f := y_pl y) (i := k5) hx hb hK hP hD hS 4 rfl (by omega) (by decide) dX8_exchange_107 (fun H locs hP hD hS => ?_)
                  have hP : va_P D vwCl (YW ct a (y_n y, y_kd y, y_w y, y_cu y, (upd (y_pl y) (k5) (x2)), y_cn y, y_st y, y_wr y, y_tr y, y_rn y, y_li y, y_mi y, y_ra y, y_rt y, y_tl y, y_mm y) (KR a b rs R)) H := hP
                  have hD : va_D A (YW ct a (y_n y, y_kd y, y_w y, y_cu y, (upd (y_pl y) (k5) (x2)), y_cn y, y_st y, y_wr y, y_tr y, y_rn y, y_li y, y_mi y, y_ra y, y_rt y, y_tl y, y_mm y) (KR a b rs R)) := hD
                  refine lv_aload_n hx hb dX8_exchange_108 rfl (lv_at hl 2 rfl) ?_
                  refine va_get (ci := 7) (v := .ref (b 0)) hx hb hts h_X8 hown hK hP 14 rfl rfl 1 (by decide) f15 (fun _ h9 => h9) rfl dX8_exchange_109 ?_
                  refine lv_iload_n hx hb dX8_exchange_112 rfl (lv_at hl 3 rfl) ?_
                  refine zVI [.int (x1)] [] (kX7_imbalance (a) ((y_n y, y_kd y, y_w y, y_cu y, (upd (y_pl y) (k5) (x2)), y_cn y, y_st y, y_wr y, y_tr y, y_rn y, y_li y, y_mi y, y_ra y, y_rt y, y_tl y, y_mm y)) (b) (rs) (R) (x1) (show y_n y ≤ 12 from by omega) (show ∀ j9, j9 < y_n y → y_kd y j9 = nI 0 ∨ y_kd y j9 = nI 1 from hkd)) hx hb hml hown hts (cwV 1 hts gX8_exchange_X7_imbalance rfl rfl rfl (by decide +kernel) ⟨(Nat.le_of_ble_eq_true rfl), (Nat.le_of_ble_eq_true rfl)⟩) hK hP hD hS hA (va_recv hK hP (ci := 6) (q0 := 12) rfl rfl) rfl hl.1 rfl (Nat.le_of_ble_eq_true rfl) dX8_exchange_113 ⟨(Nat.le_of_ble_eq_true rfl), (Nat.le_of_ble_eq_true rfl)⟩ (fun r_113 _ H locs hr_113 hP hD hS => ?_)
                  subst hr_113
                  have hP : va_P D vwCl (YW ct a (y_n y, y_kd y, y_w y, y_cu y, (upd (y_pl y) (k5) (x2)), y_cn y, y_st y, y_wr y, y_tr y, y_rn y, y_li y, y_mi y, y_ra y, y_rt y, y_tl y, y_mm y) (KR a b rs R)) H := hP
                  have hD : va_D A (YW ct a (y_n y, y_kd y, y_w y, y_cu y, (upd (y_pl y) (k5) (x2)), y_cn y, y_st y, y_wr y, y_tr y, y_rn y, y_li y, y_mi y, y_ra y, y_rt y, y_tl y, y_mm y) (KR a b rs R)) := hD
                  have e9 : f_swap y rs x1 x2 x3 = ((t_im (y_n y, y_kd y, y_w y, y_cu y, (upd (y_pl y) (k5) (x2)), y_cn y, y_st y, y_wr y, y_tr y, y_rn y, y_li y, y_mi y, y_ra y, y_rt y, y_tl y, y_mm y) (x1)), (y_n y, y_kd y, y_w y, y_cu y, (upd (y_pl y) (k5) (x2)), y_cn y, y_st y, y_wr y, y_tr y, y_rn y, y_li y, y_mi y, y_ra y, y_rt y, y_tl y, y_mm y), rs) := (by simp only [f_swap, setAt, yMove, rsOf, yWr, c8_1, c14_2, c19_3, c23_4, c28_5, c36_6, eq_true c76_7, ← ev4, c94_8, hclk5, hnek5, qk5, p_in, p_worn, p_wi, p_creak, p_over, p_le0, p_lt1, not_true_eq_false, not_false_eq_true, if_true, if_false, and_true, true_and, and_false, false_and, or_true, true_or, or_false, false_or, and_self, or_self, iff_true, true_iff, iff_false, false_iff, decide_eq_true_eq, decide_true, decide_false, Int32.add_zero, Nat.add_zero, ne_eq, Bool.false_eq_true, eq_self])
                  exact zIret () hx hb hr hlocks hK (by show va_P D vwCl (YW ct a (f_swap y rs x1 x2 x3).2.1 (KR a b (f_swap y rs x1 x2 x3).2.2 R)) H; rw [e9]; exact hP) (by show va_D A (YW ct a (f_swap y rs x1 x2 x3).2.1 (KR a b (f_swap y rs x1 x2 x3).2.2 R)); rw [e9]; exact hD) hS dX8_exchange_116 (show (t_im (y_n y, y_kd y, y_w y, y_cu y, (upd (y_pl y) (k5) (x2)), y_cn y, y_st y, y_wr y, y_tr y, y_rn y, y_li y, y_mi y, y_ra y, y_rt y, y_tl y, y_mm y) (x1)) = (f_swap y rs x1 x2 x3).1 from (by rw [e9]))
              · skip
                obtain ⟨k4, hk4, qk4⟩ := (at_ex y _ _).resolve_left (fun q => c76_7 (ev4.trans q))
                rw [qk4] at ev4
                subst ev4
                have hclk4 : (nI k4).toNatClampNeg = k4 := nI_clamp (by omega)
                have hnek4 : ¬ nI k4 = -4 := nI_ne4 (by omega)
                refine lv_aload_n hx hb dX8_exchange_79 rfl (lv_at hl 2 rfl) ?_
                refine va_get (ci := 7) (v := .ref (a 0)) hx hb hts h_X8 hown hK hP 14 rfl rfl 0 (by decide) f9 (fun _ h9 => h9) rfl dX8_exchange_80 ?_
                refine va_get (ci := 8) (v := .ref (a 4)) hx hb hts h_X9 hown hK hP 0 rfl rfl 4 (by decide) f45 (fun _ h9 => h9) rfl dX8_exchange_83 ?_
                refine lv_iload hx hb dX8_exchange_86 (lv_at hl 1 rfl) ?_
                refine lv_iload_n hx hb dX8_exchange_88 rfl (lv_at hl 5 rfl) ?_
                refine zIast (n := 12) (f := y_pl y) (i := k4) hx hb hK hP hD hS 4 rfl (by omega) (by decide) dX8_exchange_89 (fun H locs hP hD hS => ?_)
                have hP : va_P D vwCl (YW ct a (y_n y, y_kd y, y_w y, y_cu y, (upd (y_pl y) (k4) (x3)), y_cn y, y_st y, y_wr y, y_tr y, y_rn y, y_li y, y_mi y, y_ra y, y_rt y, y_tl y, y_mm y) (KR a b rs R)) H := hP
                have hD : va_D A (YW ct a (y_n y, y_kd y, y_w y, y_cu y, (upd (y_pl y) (k4) (x3)), y_cn y, y_st y, y_wr y, y_tr y, y_rn y, y_li y, y_mi y, y_ra y, y_rt y, y_tl y, y_mm y) (KR a b rs R)) := hD
                refine lv_iload hx hb dX8_exchange_90 (lv_at hl 0 rfl) ?_
                refine lv_bipush (v := (-4)) hx hb dX8_exchange_92 (by decide) ?_
                refine lv_icmp_eq (tgt := 108) hx hb dX8_exchange_94 (by decide) (fun c94_9 => ?_) (fun c94_9 => ?_)
                · skip
                  rw [c94_9] at ev5
                  refine lv_aload_n hx hb dX8_exchange_108 rfl (lv_at hl 2 rfl) ?_
                  refine va_get (ci := 7) (v := .ref (b 0)) hx hb hts h_X8 hown hK hP 14 rfl rfl 1 (by decide) f15 (fun _ h9 => h9) rfl dX8_exchange_109 ?_
                  refine lv_iload_n hx hb dX8_exchange_112 rfl (lv_at hl 3 rfl) ?_
                  refine zVI [.int (x1)] [] (kX7_imbalance (a) ((y_n y, y_kd y, y_w y, y_cu y, (upd (y_pl y) (k4) (x3)), y_cn y, y_st y, y_wr y, y_tr y, y_rn y, y_li y, y_mi y, y_ra y, y_rt y, y_tl y, y_mm y)) (b) (rs) (R) (x1) (show y_n y ≤ 12 from by omega) (show ∀ j9, j9 < y_n y → y_kd y j9 = nI 0 ∨ y_kd y j9 = nI 1 from hkd)) hx hb hml hown hts (cwV 1 hts gX8_exchange_X7_imbalance rfl rfl rfl (by decide +kernel) ⟨(Nat.le_of_ble_eq_true rfl), (Nat.le_of_ble_eq_true rfl)⟩) hK hP hD hS hA (va_recv hK hP (ci := 6) (q0 := 12) rfl rfl) rfl hl.1 rfl (Nat.le_of_ble_eq_true rfl) dX8_exchange_113 ⟨(Nat.le_of_ble_eq_true rfl), (Nat.le_of_ble_eq_true rfl)⟩ (fun r_113 _ H locs hr_113 hP hD hS => ?_)
                  subst hr_113
                  have hP : va_P D vwCl (YW ct a (y_n y, y_kd y, y_w y, y_cu y, (upd (y_pl y) (k4) (x3)), y_cn y, y_st y, y_wr y, y_tr y, y_rn y, y_li y, y_mi y, y_ra y, y_rt y, y_tl y, y_mm y) (KR a b rs R)) H := hP
                  have hD : va_D A (YW ct a (y_n y, y_kd y, y_w y, y_cu y, (upd (y_pl y) (k4) (x3)), y_cn y, y_st y, y_wr y, y_tr y, y_rn y, y_li y, y_mi y, y_ra y, y_rt y, y_tl y, y_mm y) (KR a b rs R)) := hD
                  have e9 : f_swap y rs x1 x2 x3 = ((t_im (y_n y, y_kd y, y_w y, y_cu y, (upd (y_pl y) (k4) (x3)), y_cn y, y_st y, y_wr y, y_tr y, y_rn y, y_li y, y_mi y, y_ra y, y_rt y, y_tl y, y_mm y) (x1)), (y_n y, y_kd y, y_w y, y_cu y, (upd (y_pl y) (k4) (x3)), y_cn y, y_st y, y_wr y, y_tr y, y_rn y, y_li y, y_mi y, y_ra y, y_rt y, y_tl y, y_mm y), rs) := (by simp only [f_swap, setAt, yMove, rsOf, yWr, c8_1, c14_2, c19_3, c23_4, c28_5, c36_6, c76_7, hclk4, hnek4, qk4, eq_true c94_9, ← ev5, p_in, p_worn, p_wi, p_creak, p_over, p_le0, p_lt1, not_true_eq_false, not_false_eq_true, if_true, if_false, and_true, true_and, and_false, false_and, or_true, true_or, or_false, false_or, and_self, or_self, iff_true, true_iff, iff_false, false_iff, decide_eq_true_eq, decide_true, decide_false, Int32.add_zero, Nat.add_zero, ne_eq, Bool.false_eq_true, eq_self])
                  exact zIret () hx hb hr hlocks hK (by show va_P D vwCl (YW ct a (f_swap y rs x1 x2 x3).2.1 (KR a b (f_swap y rs x1 x2 x3).2.2 R)) H; rw [e9]; exact hP) (by show va_D A (YW ct a (f_swap y rs x1 x2 x3).2.1 (KR a b (f_swap y rs x1 x2 x3).2.2 R)); rw [e9]; exact hD) hS dX8_exchange_116 (show (t_im (y_n y, y_kd y, y_w y, y_cu y, (upd (y_pl y) (k4) (x3)), y_cn y, y_st y, y_wr y, y_tr y, y_rn y, y_li y, y_mi y, y_ra y, y_rt y, y_tl y, y_mm y) (x1)) = (f_swap y rs x1 x2 x3).1 from (by rw [e9]))
                · skip
                  obtain ⟨k5, hk5, qk5⟩ := (at_ex y _ _).resolve_left (fun q => c94_9 (ev5.trans q))
                  rw [qk5] at ev5
                  subst ev5
                  have hclk5 : (nI k5).toNatClampNeg = k5 := nI_clamp (by omega)
                  have hnek5 : ¬ nI k5 = -4 := nI_ne4 (by omega)
                  refine lv_aload_n hx hb dX8_exchange_97 rfl (lv_at hl 2 rfl) ?_
                  refine va_get (ci := 7) (v := .ref (a 0)) hx hb hts h_X8 hown hK hP 14 rfl rfl 0 (by decide) f9 (fun _ h9 => h9) rfl dX8_exchange_98 ?_
                  refine va_get (ci := 8) (v := .ref (a 4)) hx hb hts h_X9 hown hK hP 0 rfl rfl 4 (by decide) f45 (fun _ h9 => h9) rfl dX8_exchange_101 ?_
                  refine lv_iload hx hb dX8_exchange_104 (lv_at hl 0 rfl) ?_
                  refine lv_iload_n hx hb dX8_exchange_106 rfl (lv_at hl 4 rfl) ?_
                  refine zIast (n := 12) (f := (upd (y_pl y) (k4) (x3))) (i := k5) hx hb hK hP hD hS 4 rfl (by omega) (by decide) dX8_exchange_107 (fun H locs hP hD hS => ?_)
                  have hP : va_P D vwCl (YW ct a (y_n y, y_kd y, y_w y, y_cu y, (upd ((upd (y_pl y) (k4) (x3))) (k5) (x2)), y_cn y, y_st y, y_wr y, y_tr y, y_rn y, y_li y, y_mi y, y_ra y, y_rt y, y_tl y, y_mm y) (KR a b rs R)) H := hP
                  have hD : va_D A (YW ct a (y_n y, y_kd y, y_w y, y_cu y, (upd ((upd (y_pl y) (k4) (x3))) (k5) (x2)), y_cn y, y_st y, y_wr y, y_tr y, y_rn y, y_li y, y_mi y, y_ra y, y_rt y, y_tl y, y_mm y) (KR a b rs R)) := hD
                  refine lv_aload_n hx hb dX8_exchange_108 rfl (lv_at hl 2 rfl) ?_
                  refine va_get (ci := 7) (v := .ref (b 0)) hx hb hts h_X8 hown hK hP 14 rfl rfl 1 (by decide) f15 (fun _ h9 => h9) rfl dX8_exchange_109 ?_
                  refine lv_iload_n hx hb dX8_exchange_112 rfl (lv_at hl 3 rfl) ?_
                  refine zVI [.int (x1)] [] (kX7_imbalance (a) ((y_n y, y_kd y, y_w y, y_cu y, (upd ((upd (y_pl y) (k4) (x3))) (k5) (x2)), y_cn y, y_st y, y_wr y, y_tr y, y_rn y, y_li y, y_mi y, y_ra y, y_rt y, y_tl y, y_mm y)) (b) (rs) (R) (x1) (show y_n y ≤ 12 from by omega) (show ∀ j9, j9 < y_n y → y_kd y j9 = nI 0 ∨ y_kd y j9 = nI 1 from hkd)) hx hb hml hown hts (cwV 1 hts gX8_exchange_X7_imbalance rfl rfl rfl (by decide +kernel) ⟨(Nat.le_of_ble_eq_true rfl), (Nat.le_of_ble_eq_true rfl)⟩) hK hP hD hS hA (va_recv hK hP (ci := 6) (q0 := 12) rfl rfl) rfl hl.1 rfl (Nat.le_of_ble_eq_true rfl) dX8_exchange_113 ⟨(Nat.le_of_ble_eq_true rfl), (Nat.le_of_ble_eq_true rfl)⟩ (fun r_113 _ H locs hr_113 hP hD hS => ?_)
                  subst hr_113
                  have hP : va_P D vwCl (YW ct a (y_n y, y_kd y, y_w y, y_cu y, (upd ((upd (y_pl y) (k4) (x3))) (k5) (x2)), y_cn y, y_st y, y_wr y, y_tr y, y_rn y, y_li y, y_mi y, y_ra y, y_rt y, y_tl y, y_mm y) (KR a b rs R)) H := hP
                  have hD : va_D A (YW ct a (y_n y, y_kd y, y_w y, y_cu y, (upd ((upd (y_pl y) (k4) (x3))) (k5) (x2)), y_cn y, y_st y, y_wr y, y_tr y, y_rn y, y_li y, y_mi y, y_ra y, y_rt y, y_tl y, y_mm y) (KR a b rs R)) := hD
                  have e9 : f_swap y rs x1 x2 x3 = ((t_im (y_n y, y_kd y, y_w y, y_cu y, (upd ((upd (y_pl y) (k4) (x3))) (k5) (x2)), y_cn y, y_st y, y_wr y, y_tr y, y_rn y, y_li y, y_mi y, y_ra y, y_rt y, y_tl y, y_mm y) (x1)), (y_n y, y_kd y, y_w y, y_cu y, (upd ((upd (y_pl y) (k4) (x3))) (k5) (x2)), y_cn y, y_st y, y_wr y, y_tr y, y_rn y, y_li y, y_mi y, y_ra y, y_rt y, y_tl y, y_mm y), rs) := (by simp only [f_swap, setAt, yMove, rsOf, yWr, c8_1, c14_2, c19_3, c23_4, c28_5, c36_6, c76_7, hclk4, hnek4, qk4, c94_9, hclk5, hnek5, qk5, p_in, p_worn, p_wi, p_creak, p_over, p_le0, p_lt1, not_true_eq_false, not_false_eq_true, if_true, if_false, and_true, true_and, and_false, false_and, or_true, true_or, or_false, false_or, and_self, or_self, iff_true, true_iff, iff_false, false_iff, decide_eq_true_eq, decide_true, decide_false, Int32.add_zero, Nat.add_zero, ne_eq, Bool.false_eq_true, eq_self])
                  exact zIret () hx hb hr hlocks hK (by show va_P D vwCl (YW ct a (f_swap y rs x1 x2 x3).2.1 (KR a b (f_swap y rs x1 x2 x3).2.2 R)) H; rw [e9]; exact hP) (by show va_D A (YW ct a (f_swap y rs x1 x2 x3).2.1 (KR a b (f_swap y rs x1 x2 x3).2.2 R)); rw [e9]; exact hD) hS dX8_exchange_116 (show (t_im (y_n y, y_kd y, y_w y, y_cu y, (upd ((upd (y_pl y) (k4) (x3))) (k5) (x2)), y_cn y, y_st y, y_wr y, y_tr y, y_rn y, y_li y, y_mi y, y_ra y, y_rt y, y_tl y, y_mm y) (x1)) = (f_swap y rs x1 x2 x3).1 from (by rw [e9]))
            · skip
              refine lv_aload_n hx hb dX8_exchange_39 rfl (lv_at hl 0 rfl) ?_
              refine va_get (ci := 7) (v := .ref (b 1)) hx hb hts h_X8 hown hK hP 14 rfl rfl 2 (by decide) f19 (fun _ h9 => h9) rfl dX8_exchange_40 ?_
              refine lv_bipush (v := nI (7)) hx hb dX8_exchange_43 (by decide) ?_
              refine lv_iload_n hx hb dX8_exchange_45 rfl (lv_at hl 2 rfl) ?_
              refine zVI [.int (nI (7)), .int (x2)] [] (kX6_refuse (a) (y) (b) (rs) (R) (nI (7)) (x2)) hx hb hml hown hts (cwV 2 hts gX8_exchange_X6_refuse rfl rfl rfl (by decide +kernel) ⟨(Nat.le_of_ble_eq_true rfl), (Nat.le_of_ble_eq_true rfl)⟩) hK hP hD hS hA (va_recv hK hP (ci := 5) (q0 := 13) rfl rfl) rfl hl.1 rfl (Nat.le_of_ble_eq_true rfl) dX8_exchange_46 ⟨(Nat.le_of_ble_eq_true rfl), (Nat.le_of_ble_eq_true rfl)⟩ (fun r_46 _ H locs hr_46 hP hD hS => ?_)
              subst hr_46
              have hP : va_P D vwCl (YW ct a y (KR a b ((nI (7)), (x2), (-4), (-4)) R)) H := hP
              have hD : va_D A (YW ct a y (KR a b ((nI (7)), (x2), (-4), (-4)) R)) := hD
              have e9 : f_swap y rs x1 x2 x3 = ((-3), y, ((nI (7)), (x2), (-4), (-4))) := (by simp only [f_swap, setAt, yMove, rsOf, yWr, c8_1, c14_2, c19_3, c23_4, c28_5, eq_true c36_6, p_in, p_worn, p_wi, p_creak, p_over, p_le0, p_lt1, not_true_eq_false, not_false_eq_true, if_true, if_false, and_true, true_and, and_false, false_and, or_true, true_or, or_false, false_or, and_self, or_self, iff_true, true_iff, iff_false, false_iff, decide_eq_true_eq, decide_true, decide_false, Int32.add_zero, Nat.add_zero, ne_eq, Bool.false_eq_true, eq_self])
              exact zIret () hx hb hr hlocks hK (by show va_P D vwCl (YW ct a (f_swap y rs x1 x2 x3).2.1 (KR a b (f_swap y rs x1 x2 x3).2.2 R)) H; rw [e9]; exact hP) (by show va_D A (YW ct a (f_swap y rs x1 x2 x3).2.1 (KR a b (f_swap y rs x1 x2 x3).2.2 R)); rw [e9]; exact hD) hS dX8_exchange_49 (show (-3) = (f_swap y rs x1 x2 x3).1 from (by rw [e9]))
          · skip
            refine lv_bipush (v := (-2)) hx hb dX8_exchange_31 (by decide) ?_
            have e9 : f_swap y rs x1 x2 x3 = ((-2), y, rs) := (by simp only [f_swap, setAt, yMove, rsOf, yWr, c8_1, c14_2, c19_3, c23_4, c28_5, p_in, p_worn, p_wi, p_creak, p_over, p_le0, p_lt1, not_true_eq_false, not_false_eq_true, if_true, if_false, and_true, true_and, and_false, false_and, or_true, true_or, or_false, false_or, and_self, or_self, iff_true, true_iff, iff_false, false_iff, decide_eq_true_eq, decide_true, decide_false, Int32.add_zero, Nat.add_zero, ne_eq, Bool.false_eq_true, eq_self])
            exact zIret () hx hb hr hlocks hK (by show va_P D vwCl (YW ct a (f_swap y rs x1 x2 x3).2.1 (KR a b (f_swap y rs x1 x2 x3).2.2 R)) H; rw [e9]; exact hP) (by show va_D A (YW ct a (f_swap y rs x1 x2 x3).2.1 (KR a b (f_swap y rs x1 x2 x3).2.2 R)); rw [e9]; exact hD) hS dX8_exchange_33 (show (-2) = (f_swap y rs x1 x2 x3).1 from (by rw [e9]))
  · skip
    refine lv_iconst (v := (-1)) hx hb dX8_exchange_11 (by decide) ?_
    have e9 : f_swap y rs x1 x2 x3 = ((-1), y, rs) := (by simp only [f_swap, setAt, yMove, rsOf, yWr, c8_1, p_in, p_worn, p_wi, p_creak, p_over, p_le0, p_lt1, not_true_eq_false, not_false_eq_true, if_true, if_false, and_true, true_and, and_false, false_and, or_true, true_or, or_false, false_or, and_self, or_self, iff_true, true_iff, iff_false, false_iff, decide_eq_true_eq, decide_true, decide_false, Int32.add_zero, Nat.add_zero, ne_eq, Bool.false_eq_true, eq_self])
    exact zIret () hx hb hr hlocks hK (by show va_P D vwCl (YW ct a (f_swap y rs x1 x2 x3).2.1 (KR a b (f_swap y rs x1 x2 x3).2.2 R)) H; rw [e9]; exact hP) (by show va_D A (YW ct a (f_swap y rs x1 x2 x3).2.1 (KR a b (f_swap y rs x1 x2 x3).2.2 R)); rw [e9]; exact hD) hS dX8_exchange_12 (show (-1) = (f_swap y rs x1 x2 x3).1 from (by rw [e9]))
abbrev rmX8_drive : Room := { frames := 4, cells := 0, slots := 0, locals := 86 }
theorem in_X8_drive_X8 : ∀ w ∈ u_ws RX8 TX8 3, w ∈ wsX8_drive := by decide +kernel
theorem in_X8_drive_X9 : ∀ w ∈ u_ws RX9 TX9 16, w ∈ wsX8_drive := by decide +kernel
set_option maxHeartbeats 4000000 in
set_option maxRecDepth 100000 in
theorem kX8_drive {D : va_G} {ct : Nat → ClassId} {l : Launch} (a : Nat → Nat) (y : YS) (b : Nat → Nat) (rs : RS) (R : va_W) (x1 : Int32) (x2 : Int32) (hy : yI y) (hf : yF y) : MI D ct l yX8_drive wsX8_drive rmX8_drive (YW ct a y (KR a b rs R)) [.ref (b 2), .int (x1), .int (x2)] (fun r0 (_ : Unit) => r0 = (f_go y rs x1 x2).1) (fun _ : Unit => YW ct a (f_go y rs x1 x2).2.1 (KR a b (f_go y rs x1 x2).2.2 R)) := by
  refine MIof (cc := cX8_drive) (maxL := 3) (ret := (some .int)) (by decide) rfl (Nat.le_of_ble_eq_true rfl) ?_
  intro p e s m args below meth c A H locs F hP hK hD hS hA ls hl
  obtain ⟨hx, hb, hr, hlocks, hml, hown, hts, hin⟩ := F
  have hl : lv_has ls 3 [(0, .ref (b 2)), (1, .int (x1)), (2, .int (x2))] := hl
  have hkd : ∀ j9, j9 < y_n y → y_kd y j9 = nI 0 ∨ y_kd y j9 = nI 1 := fun j9 hj9 => (hy.2.2.2.1 j9 hj9).1
  have hn : y_n y ≤ 12 := hy.1
  have hcn : y_cn y ≤ 4 := hy.2.1
  have hrn : y_rn y ≤ 5 := hy.2.2.1
  have h_X8 := in_X8_drive_X8
  have h_X9 := in_X8_drive_X9
  have f9 := hts (.fieldLink RX8 9 "CartArguments$Works" "yard" "LCartArguments$Yard;") (by decide +kernel)
  have f15 := hts (.fieldLink RX8 15 "CartArguments$Works" "scale" "LCartArguments$Scale;") (by decide +kernel)
  have f19 := hts (.fieldLink RX8 19 "CartArguments$Works" "reasons" "LCartArguments$Reasons;") (by decide +kernel)
  have f54 := hts (.fieldLink RX8 54 "CartArguments$Yard" "cartTrips" "[I") (by decide +kernel)
  have f64 := hts (.fieldLink RX8 64 "CartArguments$Yard" "limits" "[I") (by decide +kernel)
  have f67 := hts (.fieldLink RX8 67 "CartArguments$Yard" "miles" "[I") (by decide +kernel)
  have f73 := hts (.fieldLink RX8 73 "CartArguments$Yard" "roadTrips" "[I") (by decide +kernel)
  have f115 := hts (.fieldLink RX8 115 "CartArguments$Yard" "tollsPaid" "F") (by decide +kernel)
  have f131 := hts (.fieldLink RX8 131 "CartArguments$Yard" "milesMade" "I") (by decide +kernel)
  refine lv_aload_n hx hb dX8_drive_0 rfl (lv_at hl 0 rfl) ?_
  refine va_get (ci := 7) (v := .ref (a 0)) hx hb hts h_X8 hown hK hP 14 rfl rfl 0 (by decide) f9 (fun _ h9 => h9) rfl dX8_drive_1 ?_
  refine lv_iload_n hx hb dX8_drive_4 rfl (lv_at hl 1 rfl) ?_
  refine zVI [.int (x1)] [] (kX9_isCart (a) (y) (KR a b rs R) (x1)) hx hb hml hown hts (cwV 1 hts gX8_drive_X9_isCart rfl rfl rfl (by decide +kernel) ⟨(Nat.le_of_ble_eq_true rfl), (Nat.le_of_ble_eq_true rfl)⟩) hK hP hD hS hA (va_recv hK hP (ci := 8) (q0 := 0) rfl rfl) rfl hl.1 rfl (Nat.le_of_ble_eq_true rfl) dX8_drive_5 ⟨(Nat.le_of_ble_eq_true rfl), (Nat.le_of_ble_eq_true rfl)⟩ (fun r_5 _ H locs hr_5 hP hD hS => ?_)
  subst hr_5
  have hP : va_P D vwCl (YW ct a y (KR a b rs R)) H := hP
  have hD : va_D A (YW ct a y (KR a b rs R)) := hD
  refine zB_if_eq (tgt := 22) hx hb dX8_drive_8 (by decide) (fun c8_1 => ?_) (fun c8_1 => ?_)
  · skip
    refine lv_iconst (v := (-1)) hx hb dX8_drive_22 (by decide) ?_
    have e9 : f_go y rs x1 x2 = ((-1), y, rs) := (by simp only [f_go, setAt, yMove, rsOf, yWr, c8_1, p_in, p_worn, p_wi, p_creak, p_over, p_le0, p_lt1, not_true_eq_false, not_false_eq_true, if_true, if_false, and_true, true_and, and_false, false_and, or_true, true_or, or_false, false_or, and_self, or_self, iff_true, true_iff, iff_false, false_iff, decide_eq_true_eq, decide_true, decide_false, Int32.add_zero, Nat.add_zero, ne_eq, Bool.false_eq_true, eq_self])
    exact zIret () hx hb hr hlocks hK (by show va_P D vwCl (YW ct a (f_go y rs x1 x2).2.1 (KR a b (f_go y rs x1 x2).2.2 R)) H; rw [e9]; exact hP) (by show va_D A (YW ct a (f_go y rs x1 x2).2.1 (KR a b (f_go y rs x1 x2).2.2 R)); rw [e9]; exact hD) hS dX8_drive_23 (show (-1) = (f_go y rs x1 x2).1 from (by rw [e9]))
  · skip
    obtain ⟨k1, hk1, ek1⟩ := p_in_ex (n := y_cn y) (by omega) c8_1
    subst ek1
    have hclk1 : (nI k1).toNatClampNeg = k1 := nI_clamp (by omega)
    refine lv_aload_n hx hb dX8_drive_11 rfl (lv_at hl 0 rfl) ?_
    refine va_get (ci := 7) (v := .ref (a 0)) hx hb hts h_X8 hown hK hP 14 rfl rfl 0 (by decide) f9 (fun _ h9 => h9) rfl dX8_drive_12 ?_
    refine lv_iload_n hx hb dX8_drive_15 rfl (lv_at hl 2 rfl) ?_
    refine zVI [.int (x2)] [] (kX9_isRoad (a) (y) (KR a b rs R) (x2)) hx hb hml hown hts (cwV 1 hts gX8_drive_X9_isRoad rfl rfl rfl (by decide +kernel) ⟨(Nat.le_of_ble_eq_true rfl), (Nat.le_of_ble_eq_true rfl)⟩) hK hP hD hS hA (va_recv hK hP (ci := 8) (q0 := 0) rfl rfl) rfl hl.1 rfl (Nat.le_of_ble_eq_true rfl) dX8_drive_16 ⟨(Nat.le_of_ble_eq_true rfl), (Nat.le_of_ble_eq_true rfl)⟩ (fun r_16 _ H locs hr_16 hP hD hS => ?_)
    subst hr_16
    have hP : va_P D vwCl (YW ct a y (KR a b rs R)) H := hP
    have hD : va_D A (YW ct a y (KR a b rs R)) := hD
    refine zB_if_ne (tgt := 24) hx hb dX8_drive_19 (by decide) (fun c19_2 => ?_) (fun c19_2 => ?_)
    · skip
      obtain ⟨k2, hk2, ek2⟩ := p_in_ex (n := y_rn y) (by omega) c19_2
      subst ek2
      have hclk2 : (nI k2).toNatClampNeg = k2 := nI_clamp (by omega)
      refine lv_aload_n hx hb dX8_drive_24 rfl (lv_at hl 0 rfl) ?_
      refine va_get (ci := 7) (v := .ref (a 0)) hx hb hts h_X8 hown hK hP 14 rfl rfl 0 (by decide) f9 (fun _ h9 => h9) rfl dX8_drive_25 ?_
      refine lv_iload_n hx hb dX8_drive_28 rfl (lv_at hl 1 rfl) ?_
      refine lv_bipush (v := nI (6)) hx hb dX8_drive_29 (by decide) ?_
      refine zVI [.int (nI (k1)), .int (nI (6))] [] (kX9_thingAt (a) (y) (KR a b rs R) (nI (k1)) (nI (6)) (show y_n y ≤ 12 from by omega)) hx hb hml hown hts (cwV 2 hts gX8_drive_X9_thingAt rfl rfl rfl (by decide +kernel) ⟨(Nat.le_of_ble_eq_true rfl), (Nat.le_of_ble_eq_true rfl)⟩) hK hP hD hS hA (va_recv hK hP (ci := 8) (q0 := 0) rfl rfl) rfl hl.1 rfl (Nat.le_of_ble_eq_true rfl) dX8_drive_31 ⟨(Nat.le_of_ble_eq_true rfl), (Nat.le_of_ble_eq_true rfl)⟩ (fun r_31 _ H locs hr_31 hP hD hS => ?_)
      subst hr_31
      have hP : va_P D vwCl (YW ct a y (KR a b rs R)) H := hP
      have hD : va_D A (YW ct a y (KR a b rs R)) := hD
      refine lv_bipush (v := (-4)) hx hb dX8_drive_34 (by decide) ?_
      refine lv_icmp_ne (tgt := 57) hx hb dX8_drive_36 (by decide) (fun c36_3 => ?_) (fun c36_3 => ?_)
      · skip
        refine lv_aload_n hx hb dX8_drive_57 rfl (lv_at hl 0 rfl) ?_
        refine va_get (ci := 7) (v := .ref (a 0)) hx hb hts h_X8 hown hK hP 14 rfl rfl 0 (by decide) f9 (fun _ h9 => h9) rfl dX8_drive_58 ?_
        refine lv_iload_n hx hb dX8_drive_61 rfl (lv_at hl 1 rfl) ?_
        refine lv_iload_n hx hb dX8_drive_62 rfl (lv_at hl 2 rfl) ?_
        refine zVI [.int (nI (k1)), .int (nI (k2))] [] (kX9_isWithinLimit (a) (y) (KR a b rs R) (nI (k1)) (k2) (show y_n y ≤ 12 from by omega) (show (k2) < 5 from by omega)) hx hb hml hown hts (cwV 2 hts gX8_drive_X9_isWithinLimit rfl rfl rfl (by decide +kernel) ⟨(Nat.le_of_ble_eq_true rfl), (Nat.le_of_ble_eq_true rfl)⟩) hK hP hD hS hA (va_recv hK hP (ci := 8) (q0 := 0) rfl rfl) rfl hl.1 rfl (Nat.le_of_ble_eq_true rfl) dX8_drive_63 ⟨(Nat.le_of_ble_eq_true rfl), (Nat.le_of_ble_eq_true rfl)⟩ (fun r_63 _ H locs hr_63 hP hD hS => ?_)
        subst hr_63
        have hP : va_P D vwCl (YW ct a y (KR a b rs R)) H := hP
        have hD : va_D A (YW ct a y (KR a b rs R)) := hD
        refine zB_if_ne (tgt := 97) hx hb dX8_drive_66 (by decide) (fun c66_4 => ?_) (fun c66_4 => ?_)
        · skip
          refine lv_aload_n hx hb dX8_drive_97 rfl (lv_at hl 0 rfl) ?_
          refine va_get (ci := 7) (v := .ref (a 0)) hx hb hts h_X8 hown hK hP 14 rfl rfl 0 (by decide) f9 (fun _ h9 => h9) rfl dX8_drive_98 ?_
          refine lv_iload_n hx hb dX8_drive_101 rfl (lv_at hl 1 rfl) ?_
          refine zVI [.int (nI (k1))] [] (kX9_wornOutAxles (a) (y) (KR a b rs R) (k1) (show (k1) < 4 from by omega)) hx hb hml hown hts (cwV 1 hts gX8_drive_X9_wornOutAxles rfl rfl rfl (by decide +kernel) ⟨(Nat.le_of_ble_eq_true rfl), (Nat.le_of_ble_eq_true rfl)⟩) hK hP hD hS hA (va_recv hK hP (ci := 8) (q0 := 0) rfl rfl) rfl hl.1 rfl (Nat.le_of_ble_eq_true rfl) dX8_drive_102 ⟨(Nat.le_of_ble_eq_true rfl), (Nat.le_of_ble_eq_true rfl)⟩ (fun r_102 _ H locs hr_102 hP hD hS => ?_)
          subst hr_102
          have hP : va_P D vwCl (YW ct a y (KR a b rs R)) H := hP
          have hD : va_D A (YW ct a y (KR a b rs R)) := hD
          have q102 := t_wn_le y (k1)
          refine zN_if_le (tgt := 135) hx hb (by omega) dX8_drive_105 (by decide) (fun c105_5 => ?_) (fun c105_5 => ?_)
          · skip
            refine lv_aload_n hx hb dX8_drive_135 rfl (lv_at hl 0 rfl) ?_
            refine va_get (ci := 7) (v := .ref (a 0)) hx hb hts h_X8 hown hK hP 14 rfl rfl 0 (by decide) f9 (fun _ h9 => h9) rfl dX8_drive_136 ?_
            refine lv_aload_n hx hb dX8_drive_139 rfl (lv_at hl 0 rfl) ?_
            refine va_get (ci := 7) (v := .ref (a 0)) hx hb hts h_X8 hown hK hP 14 rfl rfl 0 (by decide) f9 (fun _ h9 => h9) rfl dX8_drive_140 ?_
            refine va_get (ci := 8) (v := .float (y_tl y)) hx hb hts h_X9 hown hK hP 0 rfl rfl 14 (by decide) f115 (fun _ h9 => h9) rfl dX8_drive_143 ?_
            refine lv_aload_n hx hb dX8_drive_146 rfl (lv_at hl 0 rfl) ?_
            refine va_get (ci := 7) (v := .ref (b 0)) hx hb hts h_X8 hown hK hP 14 rfl rfl 1 (by decide) f15 (fun _ h9 => h9) rfl dX8_drive_147 ?_
            refine lv_iload_n hx hb dX8_drive_150 rfl (lv_at hl 1 rfl) ?_
            refine lv_iload_n hx hb dX8_drive_151 rfl (lv_at hl 2 rfl) ?_
            refine zVF [.int (nI (k1)), .int (nI (k2))] [.float (y_tl y), .ref (a 0)] (kX7_tollOf (a) (y) (b) (rs) (R) (k1) (k2) (show yI y from hy) (show (k2) < y_rn y from by omega)) hx hb hml hown hts (cwV 2 hts gX8_drive_X7_tollOf rfl rfl rfl (by decide +kernel) ⟨(Nat.le_of_ble_eq_true rfl), (Nat.le_of_ble_eq_true rfl)⟩) hK hP hD hS hA (va_recv hK hP (ci := 6) (q0 := 12) rfl rfl) rfl hl.1 rfl (Nat.le_of_ble_eq_true rfl) dX8_drive_152 ⟨(Nat.le_of_ble_eq_true rfl), (Nat.le_of_ble_eq_true rfl)⟩ (fun r_152 _ H locs hr_152 hP hD hS => ?_)
            subst hr_152
            have hP : va_P D vwCl (YW ct a y (KR a b rs R)) H := hP
            have hD : va_D A (YW ct a y (KR a b rs R)) := hD
            refine lv_fadd hx hb dX8_drive_155 (nF_n32 (nF_add hf.2 (toll_nF hy hk2))) ?_
            refine va_put (ci := 8) (v := .float ((FP.fadd (y_tl y) (t_toll y (k1) (k2))))) (ty := .float) hx hb hts h_X9 tyX9 tyX9_ok nmX9 hown hK hP hD hS 0 rfl rfl 14 (by decide) f115 (fun _ h9 => h9) rfl (by decide +kernel) rfl rfl (Nat.le_of_ble_eq_true rfl) dX8_drive_156 (fun H locs hP hD hS => ?_)
            have hP : va_P D vwCl (YW ct a (y_n y, y_kd y, y_w y, y_cu y, y_pl y, y_cn y, y_st y, y_wr y, y_tr y, y_rn y, y_li y, y_mi y, y_ra y, y_rt y, (FP.fadd (y_tl y) (t_toll y (k1) (k2))), y_mm y) (KR a b rs R)) H := hP
            have hD : va_D A (YW ct a (y_n y, y_kd y, y_w y, y_cu y, y_pl y, y_cn y, y_st y, y_wr y, y_tr y, y_rn y, y_li y, y_mi y, y_ra y, y_rt y, (FP.fadd (y_tl y) (t_toll y (k1) (k2))), y_mm y) (KR a b rs R)) := hD
            refine lv_aload_n hx hb dX8_drive_159 rfl (lv_at hl 0 rfl) ?_
            refine va_get (ci := 7) (v := .ref (a 0)) hx hb hts h_X8 hown hK hP 14 rfl rfl 0 (by decide) f9 (fun _ h9 => h9) rfl dX8_drive_160 ?_
            refine lv_iload_n hx hb dX8_drive_163 rfl (lv_at hl 1 rfl) ?_
            refine lv_iconst (v := nI (0)) hx hb dX8_drive_164 (by decide) ?_
            refine lv_aload_n hx hb dX8_drive_165 rfl (lv_at hl 0 rfl) ?_
            refine va_get (ci := 7) (v := .ref (a 0)) hx hb hts h_X8 hown hK hP 14 rfl rfl 0 (by decide) f9 (fun _ h9 => h9) rfl dX8_drive_166 ?_
            refine lv_iload_n hx hb dX8_drive_169 rfl (lv_at hl 1 rfl) ?_
            refine lv_iconst (v := nI (0)) hx hb dX8_drive_170 (by decide) ?_
            refine zVF [.int (nI (k1)), .int (nI (0))] [.int (nI (0)), .int (nI (k1)), .ref (a 0)] (kX9_wearOf (a) ((y_n y, y_kd y, y_w y, y_cu y, y_pl y, y_cn y, y_st y, y_wr y, y_tr y, y_rn y, y_li y, y_mi y, y_ra y, y_rt y, (FP.fadd (y_tl y) (t_toll y (k1) (k2))), y_mm y)) (KR a b rs R) (k1) (nI (0)) (show (k1) < 4 from by omega)) hx hb hml hown hts (cwV 2 hts gX8_drive_X9_wearOf rfl rfl rfl (by decide +kernel) ⟨(Nat.le_of_ble_eq_true rfl), (Nat.le_of_ble_eq_true rfl)⟩) hK hP hD hS hA (va_recv hK hP (ci := 8) (q0 := 0) rfl rfl) rfl hl.1 rfl (Nat.le_of_ble_eq_true rfl) dX8_drive_171 ⟨(Nat.le_of_ble_eq_true rfl), (Nat.le_of_ble_eq_true rfl)⟩ (fun r_171 _ H locs hr_171 hP hD hS => ?_)
            subst hr_171
            have hP : va_P D vwCl (YW ct a (y_n y, y_kd y, y_w y, y_cu y, y_pl y, y_cn y, y_st y, y_wr y, y_tr y, y_rn y, y_li y, y_mi y, y_ra y, y_rt y, (FP.fadd (y_tl y) (t_toll y (k1) (k2))), y_mm y) (KR a b rs R)) H := hP
            have hD : va_D A (YW ct a (y_n y, y_kd y, y_w y, y_cu y, y_pl y, y_cn y, y_st y, y_wr y, y_tr y, y_rn y, y_li y, y_mi y, y_ra y, y_rt y, (FP.fadd (y_tl y) (t_toll y (k1) (k2))), y_mm y) (KR a b rs R)) := hD
            refine lv_aload_n hx hb dX8_drive_174 rfl (lv_at hl 0 rfl) ?_
            refine va_get (ci := 7) (v := .ref (b 0)) hx hb hts h_X8 hown hK hP 14 rfl rfl 1 (by decide) f15 (fun _ h9 => h9) rfl dX8_drive_175 ?_
            refine lv_iload_n hx hb dX8_drive_178 rfl (lv_at hl 1 rfl) ?_
            refine lv_iload_n hx hb dX8_drive_179 rfl (lv_at hl 2 rfl) ?_
            refine lv_iconst (v := nI (0)) hx hb dX8_drive_180 (by decide) ?_
            refine zVF [.int (nI (k1)), .int (nI (k2)), .int (nI (0))] [.float ((y_wr y (wix (k1) (nI (0))))), .int (nI (0)), .int (nI (k1)), .ref (a 0)] (kX7_wearOfTrip (a) ((y_n y, y_kd y, y_w y, y_cu y, y_pl y, y_cn y, y_st y, y_wr y, y_tr y, y_rn y, y_li y, y_mi y, y_ra y, y_rt y, (FP.fadd (y_tl y) (t_toll y (k1) (k2))), y_mm y)) (b) (rs) (R) (k1) (k2) (nI (0)) (show yI (y_n y, y_kd y, y_w y, y_cu y, y_pl y, y_cn y, y_st y, y_wr y, y_tr y, y_rn y, y_li y, y_mi y, y_ra y, y_rt y, (FP.fadd (y_tl y) (t_toll y (k1) (k2))), y_mm y) from hy) (show (k1) < y_cn y from by omega) (show (k2) < y_rn y from by omega)) hx hb hml hown hts (cwV 3 hts gX8_drive_X7_wearOfTrip rfl rfl rfl (by decide +kernel) ⟨(Nat.le_of_ble_eq_true rfl), (Nat.le_of_ble_eq_true rfl)⟩) hK hP hD hS hA (va_recv hK hP (ci := 6) (q0 := 12) rfl rfl) rfl hl.1 rfl (Nat.le_of_ble_eq_true rfl) dX8_drive_181 ⟨(Nat.le_of_ble_eq_true rfl), (Nat.le_of_ble_eq_true rfl)⟩ (fun r_181 _ H locs hr_181 hP hD hS => ?_)
            subst hr_181
            have hP : va_P D vwCl (YW ct a (y_n y, y_kd y, y_w y, y_cu y, y_pl y, y_cn y, y_st y, y_wr y, y_tr y, y_rn y, y_li y, y_mi y, y_ra y, y_rt y, (FP.fadd (y_tl y) (t_toll y (k1) (k2))), y_mm y) (KR a b rs R)) H := hP
            have hD : va_D A (YW ct a (y_n y, y_kd y, y_w y, y_cu y, y_pl y, y_cn y, y_st y, y_wr y, y_tr y, y_rn y, y_li y, y_mi y, y_ra y, y_rt y, (FP.fadd (y_tl y) (t_toll y (k1) (k2))), y_mm y) (KR a b rs R)) := hD
            refine lv_fadd hx hb dX8_drive_184 (nF_n32 (nF_add (hf.1 _ (wix_lt (by omega))) (wt_nF (by exact hy) hk1 hk2))) ?_
            refine zVV [.int (nI (k1)), .int (nI (0)), .float ((FP.fadd (y_wr y (wix (k1) (nI (0)))) (t_wt (y_n y, y_kd y, y_w y, y_cu y, y_pl y, y_cn y, y_st y, y_wr y, y_tr y, y_rn y, y_li y, y_mi y, y_ra y, y_rt y, (FP.fadd (y_tl y) (t_toll y (k1) (k2))), y_mm y) (k1) (k2) (nI (0)))))] [] (kX9_setWear (a) ((y_n y, y_kd y, y_w y, y_cu y, y_pl y, y_cn y, y_st y, y_wr y, y_tr y, y_rn y, y_li y, y_mi y, y_ra y, y_rt y, (FP.fadd (y_tl y) (t_toll y (k1) (k2))), y_mm y)) (KR a b rs R) (k1) (nI (0)) ((FP.fadd (y_wr y (wix (k1) (nI (0)))) (t_wt (y_n y, y_kd y, y_w y, y_cu y, y_pl y, y_cn y, y_st y, y_wr y, y_tr y, y_rn y, y_li y, y_mi y, y_ra y, y_rt y, (FP.fadd (y_tl y) (t_toll y (k1) (k2))), y_mm y) (k1) (k2) (nI (0))))) (show (k1) < 4 from by omega)) hx hb hml hown hts (cwV 3 hts gX8_drive_X9_setWear rfl rfl rfl (by decide +kernel) ⟨(Nat.le_of_ble_eq_true rfl), (Nat.le_of_ble_eq_true rfl)⟩) hK hP hD hS hA (va_recv hK hP (ci := 8) (q0 := 0) rfl rfl) rfl hl.1 rfl (Nat.le_of_ble_eq_true rfl) dX8_drive_185 ⟨(Nat.le_of_ble_eq_true rfl), (Nat.le_of_ble_eq_true rfl)⟩ (fun _ H locs hr_185 hP hD hS => ?_)
            have hP : va_P D vwCl (YW ct a ((y_n y), (y_kd y), (y_w y), (y_cu y), (y_pl y), (y_cn y), (y_st y), (vf_upd (y_wr y) (wix (k1) (nI (0))) ((FP.fadd (y_wr y (wix (k1) (nI (0)))) (t_wt (y_n y, y_kd y, y_w y, y_cu y, y_pl y, y_cn y, y_st y, y_wr y, y_tr y, y_rn y, y_li y, y_mi y, y_ra y, y_rt y, (FP.fadd (y_tl y) (t_toll y (k1) (k2))), y_mm y) (k1) (k2) (nI (0)))))), (y_tr y), (y_rn y), (y_li y), (y_mi y), (y_ra y), (y_rt y), (FP.fadd (y_tl y) (t_toll y (k1) (k2))), (y_mm y)) (KR a b rs R)) H := hP
            have hD : va_D A (YW ct a ((y_n y), (y_kd y), (y_w y), (y_cu y), (y_pl y), (y_cn y), (y_st y), (vf_upd (y_wr y) (wix (k1) (nI (0))) ((FP.fadd (y_wr y (wix (k1) (nI (0)))) (t_wt (y_n y, y_kd y, y_w y, y_cu y, y_pl y, y_cn y, y_st y, y_wr y, y_tr y, y_rn y, y_li y, y_mi y, y_ra y, y_rt y, (FP.fadd (y_tl y) (t_toll y (k1) (k2))), y_mm y) (k1) (k2) (nI (0)))))), (y_tr y), (y_rn y), (y_li y), (y_mi y), (y_ra y), (y_rt y), (FP.fadd (y_tl y) (t_toll y (k1) (k2))), (y_mm y)) (KR a b rs R)) := hD
            refine lv_aload_n hx hb dX8_drive_188 rfl (lv_at hl 0 rfl) ?_
            refine va_get (ci := 7) (v := .ref (a 0)) hx hb hts h_X8 hown hK hP 14 rfl rfl 0 (by decide) f9 (fun _ h9 => h9) rfl dX8_drive_189 ?_
            refine lv_iload_n hx hb dX8_drive_192 rfl (lv_at hl 1 rfl) ?_
            refine lv_iconst (v := nI (1)) hx hb dX8_drive_193 (by decide) ?_
            refine lv_aload_n hx hb dX8_drive_194 rfl (lv_at hl 0 rfl) ?_
            refine va_get (ci := 7) (v := .ref (a 0)) hx hb hts h_X8 hown hK hP 14 rfl rfl 0 (by decide) f9 (fun _ h9 => h9) rfl dX8_drive_195 ?_
            refine lv_iload_n hx hb dX8_drive_198 rfl (lv_at hl 1 rfl) ?_
            refine lv_iconst (v := nI (1)) hx hb dX8_drive_199 (by decide) ?_
            refine zVF [.int (nI (k1)), .int (nI (1))] [.int (nI (1)), .int (nI (k1)), .ref (a 0)] (kX9_wearOf (a) (((y_n y), (y_kd y), (y_w y), (y_cu y), (y_pl y), (y_cn y), (y_st y), (vf_upd (y_wr y) (wix (k1) (nI (0))) ((FP.fadd (y_wr y (wix (k1) (nI (0)))) (t_wt (y_n y, y_kd y, y_w y, y_cu y, y_pl y, y_cn y, y_st y, y_wr y, y_tr y, y_rn y, y_li y, y_mi y, y_ra y, y_rt y, (FP.fadd (y_tl y) (t_toll y (k1) (k2))), y_mm y) (k1) (k2) (nI (0)))))), (y_tr y), (y_rn y), (y_li y), (y_mi y), (y_ra y), (y_rt y), (FP.fadd (y_tl y) (t_toll y (k1) (k2))), (y_mm y))) (KR a b rs R) (k1) (nI (1)) (show (k1) < 4 from by omega)) hx hb hml hown hts (cwV 2 hts gX8_drive_X9_wearOf rfl rfl rfl (by decide +kernel) ⟨(Nat.le_of_ble_eq_true rfl), (Nat.le_of_ble_eq_true rfl)⟩) hK hP hD hS hA (va_recv hK hP (ci := 8) (q0 := 0) rfl rfl) rfl hl.1 rfl (Nat.le_of_ble_eq_true rfl) dX8_drive_200 ⟨(Nat.le_of_ble_eq_true rfl), (Nat.le_of_ble_eq_true rfl)⟩ (fun r_200 _ H locs hr_200 hP hD hS => ?_)
            subst hr_200
            have hP : va_P D vwCl (YW ct a ((y_n y), (y_kd y), (y_w y), (y_cu y), (y_pl y), (y_cn y), (y_st y), (vf_upd (y_wr y) (wix (k1) (nI (0))) ((FP.fadd (y_wr y (wix (k1) (nI (0)))) (t_wt (y_n y, y_kd y, y_w y, y_cu y, y_pl y, y_cn y, y_st y, y_wr y, y_tr y, y_rn y, y_li y, y_mi y, y_ra y, y_rt y, (FP.fadd (y_tl y) (t_toll y (k1) (k2))), y_mm y) (k1) (k2) (nI (0)))))), (y_tr y), (y_rn y), (y_li y), (y_mi y), (y_ra y), (y_rt y), (FP.fadd (y_tl y) (t_toll y (k1) (k2))), (y_mm y)) (KR a b rs R)) H := hP
            have hD : va_D A (YW ct a ((y_n y), (y_kd y), (y_w y), (y_cu y), (y_pl y), (y_cn y), (y_st y), (vf_upd (y_wr y) (wix (k1) (nI (0))) ((FP.fadd (y_wr y (wix (k1) (nI (0)))) (t_wt (y_n y, y_kd y, y_w y, y_cu y, y_pl y, y_cn y, y_st y, y_wr y, y_tr y, y_rn y, y_li y, y_mi y, y_ra y, y_rt y, (FP.fadd (y_tl y) (t_toll y (k1) (k2))), y_mm y) (k1) (k2) (nI (0)))))), (y_tr y), (y_rn y), (y_li y), (y_mi y), (y_ra y), (y_rt y), (FP.fadd (y_tl y) (t_toll y (k1) (k2))), (y_mm y)) (KR a b rs R)) := hD
            refine lv_aload_n hx hb dX8_drive_203 rfl (lv_at hl 0 rfl) ?_
            refine va_get (ci := 7) (v := .ref (b 0)) hx hb hts h_X8 hown hK hP 14 rfl rfl 1 (by decide) f15 (fun _ h9 => h9) rfl dX8_drive_204 ?_
            refine lv_iload_n hx hb dX8_drive_207 rfl (lv_at hl 1 rfl) ?_
            refine lv_iload_n hx hb dX8_drive_208 rfl (lv_at hl 2 rfl) ?_
            refine lv_iconst (v := nI (1)) hx hb dX8_drive_209 (by decide) ?_
            refine zVF [.int (nI (k1)), .int (nI (k2)), .int (nI (1))] [.float (((vf_upd (y_wr y) (wix (k1) (nI (0))) ((FP.fadd (y_wr y (wix (k1) (nI (0)))) (t_wt (y_n y, y_kd y, y_w y, y_cu y, y_pl y, y_cn y, y_st y, y_wr y, y_tr y, y_rn y, y_li y, y_mi y, y_ra y, y_rt y, (FP.fadd (y_tl y) (t_toll y (k1) (k2))), y_mm y) (k1) (k2) (nI (0)))))) (wix (k1) (nI (1))))), .int (nI (1)), .int (nI (k1)), .ref (a 0)] (kX7_wearOfTrip (a) (((y_n y), (y_kd y), (y_w y), (y_cu y), (y_pl y), (y_cn y), (y_st y), (vf_upd (y_wr y) (wix (k1) (nI (0))) ((FP.fadd (y_wr y (wix (k1) (nI (0)))) (t_wt (y_n y, y_kd y, y_w y, y_cu y, y_pl y, y_cn y, y_st y, y_wr y, y_tr y, y_rn y, y_li y, y_mi y, y_ra y, y_rt y, (FP.fadd (y_tl y) (t_toll y (k1) (k2))), y_mm y) (k1) (k2) (nI (0)))))), (y_tr y), (y_rn y), (y_li y), (y_mi y), (y_ra y), (y_rt y), (FP.fadd (y_tl y) (t_toll y (k1) (k2))), (y_mm y))) (b) (rs) (R) (k1) (k2) (nI (1)) (show yI ((y_n y), (y_kd y), (y_w y), (y_cu y), (y_pl y), (y_cn y), (y_st y), (vf_upd (y_wr y) (wix (k1) (nI (0))) ((FP.fadd (y_wr y (wix (k1) (nI (0)))) (t_wt (y_n y, y_kd y, y_w y, y_cu y, y_pl y, y_cn y, y_st y, y_wr y, y_tr y, y_rn y, y_li y, y_mi y, y_ra y, y_rt y, (FP.fadd (y_tl y) (t_toll y (k1) (k2))), y_mm y) (k1) (k2) (nI (0)))))), (y_tr y), (y_rn y), (y_li y), (y_mi y), (y_ra y), (y_rt y), (FP.fadd (y_tl y) (t_toll y (k1) (k2))), (y_mm y)) from hy) (show (k1) < (y_cn y) from by omega) (show (k2) < (y_rn y) from by omega)) hx hb hml hown hts (cwV 3 hts gX8_drive_X7_wearOfTrip rfl rfl rfl (by decide +kernel) ⟨(Nat.le_of_ble_eq_true rfl), (Nat.le_of_ble_eq_true rfl)⟩) hK hP hD hS hA (va_recv hK hP (ci := 6) (q0 := 12) rfl rfl) rfl hl.1 rfl (Nat.le_of_ble_eq_true rfl) dX8_drive_210 ⟨(Nat.le_of_ble_eq_true rfl), (Nat.le_of_ble_eq_true rfl)⟩ (fun r_210 _ H locs hr_210 hP hD hS => ?_)
            subst hr_210
            have hP : va_P D vwCl (YW ct a ((y_n y), (y_kd y), (y_w y), (y_cu y), (y_pl y), (y_cn y), (y_st y), (vf_upd (y_wr y) (wix (k1) (nI (0))) ((FP.fadd (y_wr y (wix (k1) (nI (0)))) (t_wt (y_n y, y_kd y, y_w y, y_cu y, y_pl y, y_cn y, y_st y, y_wr y, y_tr y, y_rn y, y_li y, y_mi y, y_ra y, y_rt y, (FP.fadd (y_tl y) (t_toll y (k1) (k2))), y_mm y) (k1) (k2) (nI (0)))))), (y_tr y), (y_rn y), (y_li y), (y_mi y), (y_ra y), (y_rt y), (FP.fadd (y_tl y) (t_toll y (k1) (k2))), (y_mm y)) (KR a b rs R)) H := hP
            have hD : va_D A (YW ct a ((y_n y), (y_kd y), (y_w y), (y_cu y), (y_pl y), (y_cn y), (y_st y), (vf_upd (y_wr y) (wix (k1) (nI (0))) ((FP.fadd (y_wr y (wix (k1) (nI (0)))) (t_wt (y_n y, y_kd y, y_w y, y_cu y, y_pl y, y_cn y, y_st y, y_wr y, y_tr y, y_rn y, y_li y, y_mi y, y_ra y, y_rt y, (FP.fadd (y_tl y) (t_toll y (k1) (k2))), y_mm y) (k1) (k2) (nI (0)))))), (y_tr y), (y_rn y), (y_li y), (y_mi y), (y_ra y), (y_rt y), (FP.fadd (y_tl y) (t_toll y (k1) (k2))), (y_mm y)) (KR a b rs R)) := hD
            refine lv_fadd hx hb dX8_drive_213 (nF_n32 (nF_add (yF_step (y := (y_n y, y_kd y, y_w y, y_cu y, y_pl y, y_cn y, y_st y, y_wr y, y_tr y, y_rn y, y_li y, y_mi y, y_ra y, y_rt y, FP.fadd (y_tl y) (t_toll y k1 k2), y_mm y)) (by exact hy) hf.1 hk1 hk2 _ (wix_lt (by omega))) (wt_nF (by exact hy) hk1 hk2))) ?_
            refine zVV [.int (nI (k1)), .int (nI (1)), .float ((FP.fadd ((vf_upd (y_wr y) (wix (k1) (nI (0))) ((FP.fadd (y_wr y (wix (k1) (nI (0)))) (t_wt (y_n y, y_kd y, y_w y, y_cu y, y_pl y, y_cn y, y_st y, y_wr y, y_tr y, y_rn y, y_li y, y_mi y, y_ra y, y_rt y, (FP.fadd (y_tl y) (t_toll y (k1) (k2))), y_mm y) (k1) (k2) (nI (0)))))) (wix (k1) (nI (1)))) (t_wt ((y_n y), (y_kd y), (y_w y), (y_cu y), (y_pl y), (y_cn y), (y_st y), (vf_upd (y_wr y) (wix (k1) (nI (0))) ((FP.fadd (y_wr y (wix (k1) (nI (0)))) (t_wt (y_n y, y_kd y, y_w y, y_cu y, y_pl y, y_cn y, y_st y, y_wr y, y_tr y, y_rn y, y_li y, y_mi y, y_ra y, y_rt y, (FP.fadd (y_tl y) (t_toll y (k1) (k2))), y_mm y) (k1) (k2) (nI (0)))))), (y_tr y), (y_rn y), (y_li y), (y_mi y), (y_ra y), (y_rt y), (FP.fadd (y_tl y) (t_toll y (k1) (k2))), (y_mm y)) (k1) (k2) (nI (1)))))] [] (kX9_setWear (a) (((y_n y), (y_kd y), (y_w y), (y_cu y), (y_pl y), (y_cn y), (y_st y), (vf_upd (y_wr y) (wix (k1) (nI (0))) ((FP.fadd (y_wr y (wix (k1) (nI (0)))) (t_wt (y_n y, y_kd y, y_w y, y_cu y, y_pl y, y_cn y, y_st y, y_wr y, y_tr y, y_rn y, y_li y, y_mi y, y_ra y, y_rt y, (FP.fadd (y_tl y) (t_toll y (k1) (k2))), y_mm y) (k1) (k2) (nI (0)))))), (y_tr y), (y_rn y), (y_li y), (y_mi y), (y_ra y), (y_rt y), (FP.fadd (y_tl y) (t_toll y (k1) (k2))), (y_mm y))) (KR a b rs R) (k1) (nI (1)) ((FP.fadd ((vf_upd (y_wr y) (wix (k1) (nI (0))) ((FP.fadd (y_wr y (wix (k1) (nI (0)))) (t_wt (y_n y, y_kd y, y_w y, y_cu y, y_pl y, y_cn y, y_st y, y_wr y, y_tr y, y_rn y, y_li y, y_mi y, y_ra y, y_rt y, (FP.fadd (y_tl y) (t_toll y (k1) (k2))), y_mm y) (k1) (k2) (nI (0)))))) (wix (k1) (nI (1)))) (t_wt ((y_n y), (y_kd y), (y_w y), (y_cu y), (y_pl y), (y_cn y), (y_st y), (vf_upd (y_wr y) (wix (k1) (nI (0))) ((FP.fadd (y_wr y (wix (k1) (nI (0)))) (t_wt (y_n y, y_kd y, y_w y, y_cu y, y_pl y, y_cn y, y_st y, y_wr y, y_tr y, y_rn y, y_li y, y_mi y, y_ra y, y_rt y, (FP.fadd (y_tl y) (t_toll y (k1) (k2))), y_mm y) (k1) (k2) (nI (0)))))), (y_tr y), (y_rn y), (y_li y), (y_mi y), (y_ra y), (y_rt y), (FP.fadd (y_tl y) (t_toll y (k1) (k2))), (y_mm y)) (k1) (k2) (nI (1))))) (show (k1) < 4 from by omega)) hx hb hml hown hts (cwV 3 hts gX8_drive_X9_setWear rfl rfl rfl (by decide +kernel) ⟨(Nat.le_of_ble_eq_true rfl), (Nat.le_of_ble_eq_true rfl)⟩) hK hP hD hS hA (va_recv hK hP (ci := 8) (q0 := 0) rfl rfl) rfl hl.1 rfl (Nat.le_of_ble_eq_true rfl) dX8_drive_214 ⟨(Nat.le_of_ble_eq_true rfl), (Nat.le_of_ble_eq_true rfl)⟩ (fun _ H locs hr_214 hP hD hS => ?_)
            have hP : va_P D vwCl (YW ct a ((y_n y), (y_kd y), (y_w y), (y_cu y), (y_pl y), (y_cn y), (y_st y), (vf_upd ((vf_upd (y_wr y) (wix (k1) (nI (0))) ((FP.fadd (y_wr y (wix (k1) (nI (0)))) (t_wt (y_n y, y_kd y, y_w y, y_cu y, y_pl y, y_cn y, y_st y, y_wr y, y_tr y, y_rn y, y_li y, y_mi y, y_ra y, y_rt y, (FP.fadd (y_tl y) (t_toll y (k1) (k2))), y_mm y) (k1) (k2) (nI (0))))))) (wix (k1) (nI (1))) ((FP.fadd ((vf_upd (y_wr y) (wix (k1) (nI (0))) ((FP.fadd (y_wr y (wix (k1) (nI (0)))) (t_wt (y_n y, y_kd y, y_w y, y_cu y, y_pl y, y_cn y, y_st y, y_wr y, y_tr y, y_rn y, y_li y, y_mi y, y_ra y, y_rt y, (FP.fadd (y_tl y) (t_toll y (k1) (k2))), y_mm y) (k1) (k2) (nI (0)))))) (wix (k1) (nI (1)))) (t_wt ((y_n y), (y_kd y), (y_w y), (y_cu y), (y_pl y), (y_cn y), (y_st y), (vf_upd (y_wr y) (wix (k1) (nI (0))) ((FP.fadd (y_wr y (wix (k1) (nI (0)))) (t_wt (y_n y, y_kd y, y_w y, y_cu y, y_pl y, y_cn y, y_st y, y_wr y, y_tr y, y_rn y, y_li y, y_mi y, y_ra y, y_rt y, (FP.fadd (y_tl y) (t_toll y (k1) (k2))), y_mm y) (k1) (k2) (nI (0)))))), (y_tr y), (y_rn y), (y_li y), (y_mi y), (y_ra y), (y_rt y), (FP.fadd (y_tl y) (t_toll y (k1) (k2))), (y_mm y)) (k1) (k2) (nI (1)))))), (y_tr y), (y_rn y), (y_li y), (y_mi y), (y_ra y), (y_rt y), (FP.fadd (y_tl y) (t_toll y (k1) (k2))), (y_mm y)) (KR a b rs R)) H := hP
            have hD : va_D A (YW ct a ((y_n y), (y_kd y), (y_w y), (y_cu y), (y_pl y), (y_cn y), (y_st y), (vf_upd ((vf_upd (y_wr y) (wix (k1) (nI (0))) ((FP.fadd (y_wr y (wix (k1) (nI (0)))) (t_wt (y_n y, y_kd y, y_w y, y_cu y, y_pl y, y_cn y, y_st y, y_wr y, y_tr y, y_rn y, y_li y, y_mi y, y_ra y, y_rt y, (FP.fadd (y_tl y) (t_toll y (k1) (k2))), y_mm y) (k1) (k2) (nI (0))))))) (wix (k1) (nI (1))) ((FP.fadd ((vf_upd (y_wr y) (wix (k1) (nI (0))) ((FP.fadd (y_wr y (wix (k1) (nI (0)))) (t_wt (y_n y, y_kd y, y_w y, y_cu y, y_pl y, y_cn y, y_st y, y_wr y, y_tr y, y_rn y, y_li y, y_mi y, y_ra y, y_rt y, (FP.fadd (y_tl y) (t_toll y (k1) (k2))), y_mm y) (k1) (k2) (nI (0)))))) (wix (k1) (nI (1)))) (t_wt ((y_n y), (y_kd y), (y_w y), (y_cu y), (y_pl y), (y_cn y), (y_st y), (vf_upd (y_wr y) (wix (k1) (nI (0))) ((FP.fadd (y_wr y (wix (k1) (nI (0)))) (t_wt (y_n y, y_kd y, y_w y, y_cu y, y_pl y, y_cn y, y_st y, y_wr y, y_tr y, y_rn y, y_li y, y_mi y, y_ra y, y_rt y, (FP.fadd (y_tl y) (t_toll y (k1) (k2))), y_mm y) (k1) (k2) (nI (0)))))), (y_tr y), (y_rn y), (y_li y), (y_mi y), (y_ra y), (y_rt y), (FP.fadd (y_tl y) (t_toll y (k1) (k2))), (y_mm y)) (k1) (k2) (nI (1)))))), (y_tr y), (y_rn y), (y_li y), (y_mi y), (y_ra y), (y_rt y), (FP.fadd (y_tl y) (t_toll y (k1) (k2))), (y_mm y)) (KR a b rs R)) := hD
            refine lv_aload_n hx hb dX8_drive_217 rfl (lv_at hl 0 rfl) ?_
            refine va_get (ci := 7) (v := .ref (a 0)) hx hb hts h_X8 hown hK hP 14 rfl rfl 0 (by decide) f9 (fun _ h9 => h9) rfl dX8_drive_218 ?_
            refine va_get (ci := 8) (v := .ref (a 7)) hx hb hts h_X9 hown hK hP 0 rfl rfl 8 (by decide) f54 (fun _ h9 => h9) rfl dX8_drive_221 ?_
            refine lv_iload_n hx hb dX8_drive_224 rfl (lv_at hl 1 rfl) ?_
            refine lv_dup2_11 hx hb dX8_drive_225 rfl rfl ?_
            refine zIald (n := 4) (f := (y_tr y)) (i := k1) hx hb hK hP 7 rfl (by omega) (by decide) dX8_drive_226 ?_
            refine lv_iconst (v := nI (1)) hx hb dX8_drive_227 (by decide) ?_
            refine lv_iadd hx hb dX8_drive_228 ?_
            refine zIast (n := 4) (f := (y_tr y)) (i := k1) hx hb hK hP hD hS 7 rfl (by omega) (by decide) dX8_drive_229 (fun H locs hP hD hS => ?_)
            have hP : va_P D vwCl (YW ct a ((y_n y), (y_kd y), (y_w y), (y_cu y), (y_pl y), (y_cn y), (y_st y), (vf_upd ((vf_upd (y_wr y) (wix (k1) (nI (0))) ((FP.fadd (y_wr y (wix (k1) (nI (0)))) (t_wt (y_n y, y_kd y, y_w y, y_cu y, y_pl y, y_cn y, y_st y, y_wr y, y_tr y, y_rn y, y_li y, y_mi y, y_ra y, y_rt y, (FP.fadd (y_tl y) (t_toll y (k1) (k2))), y_mm y) (k1) (k2) (nI (0))))))) (wix (k1) (nI (1))) ((FP.fadd ((vf_upd (y_wr y) (wix (k1) (nI (0))) ((FP.fadd (y_wr y (wix (k1) (nI (0)))) (t_wt (y_n y, y_kd y, y_w y, y_cu y, y_pl y, y_cn y, y_st y, y_wr y, y_tr y, y_rn y, y_li y, y_mi y, y_ra y, y_rt y, (FP.fadd (y_tl y) (t_toll y (k1) (k2))), y_mm y) (k1) (k2) (nI (0)))))) (wix (k1) (nI (1)))) (t_wt ((y_n y), (y_kd y), (y_w y), (y_cu y), (y_pl y), (y_cn y), (y_st y), (vf_upd (y_wr y) (wix (k1) (nI (0))) ((FP.fadd (y_wr y (wix (k1) (nI (0)))) (t_wt (y_n y, y_kd y, y_w y, y_cu y, y_pl y, y_cn y, y_st y, y_wr y, y_tr y, y_rn y, y_li y, y_mi y, y_ra y, y_rt y, (FP.fadd (y_tl y) (t_toll y (k1) (k2))), y_mm y) (k1) (k2) (nI (0)))))), (y_tr y), (y_rn y), (y_li y), (y_mi y), (y_ra y), (y_rt y), (FP.fadd (y_tl y) (t_toll y (k1) (k2))), (y_mm y)) (k1) (k2) (nI (1)))))), (upd ((y_tr y)) (k1) ((((y_tr y) (k1)) + nI (1)))), (y_rn y), (y_li y), (y_mi y), (y_ra y), (y_rt y), (FP.fadd (y_tl y) (t_toll y (k1) (k2))), (y_mm y)) (KR a b rs R)) H := hP
            have hD : va_D A (YW ct a ((y_n y), (y_kd y), (y_w y), (y_cu y), (y_pl y), (y_cn y), (y_st y), (vf_upd ((vf_upd (y_wr y) (wix (k1) (nI (0))) ((FP.fadd (y_wr y (wix (k1) (nI (0)))) (t_wt (y_n y, y_kd y, y_w y, y_cu y, y_pl y, y_cn y, y_st y, y_wr y, y_tr y, y_rn y, y_li y, y_mi y, y_ra y, y_rt y, (FP.fadd (y_tl y) (t_toll y (k1) (k2))), y_mm y) (k1) (k2) (nI (0))))))) (wix (k1) (nI (1))) ((FP.fadd ((vf_upd (y_wr y) (wix (k1) (nI (0))) ((FP.fadd (y_wr y (wix (k1) (nI (0)))) (t_wt (y_n y, y_kd y, y_w y, y_cu y, y_pl y, y_cn y, y_st y, y_wr y, y_tr y, y_rn y, y_li y, y_mi y, y_ra y, y_rt y, (FP.fadd (y_tl y) (t_toll y (k1) (k2))), y_mm y) (k1) (k2) (nI (0)))))) (wix (k1) (nI (1)))) (t_wt ((y_n y), (y_kd y), (y_w y), (y_cu y), (y_pl y), (y_cn y), (y_st y), (vf_upd (y_wr y) (wix (k1) (nI (0))) ((FP.fadd (y_wr y (wix (k1) (nI (0)))) (t_wt (y_n y, y_kd y, y_w y, y_cu y, y_pl y, y_cn y, y_st y, y_wr y, y_tr y, y_rn y, y_li y, y_mi y, y_ra y, y_rt y, (FP.fadd (y_tl y) (t_toll y (k1) (k2))), y_mm y) (k1) (k2) (nI (0)))))), (y_tr y), (y_rn y), (y_li y), (y_mi y), (y_ra y), (y_rt y), (FP.fadd (y_tl y) (t_toll y (k1) (k2))), (y_mm y)) (k1) (k2) (nI (1)))))), (upd ((y_tr y)) (k1) ((((y_tr y) (k1)) + nI (1)))), (y_rn y), (y_li y), (y_mi y), (y_ra y), (y_rt y), (FP.fadd (y_tl y) (t_toll y (k1) (k2))), (y_mm y)) (KR a b rs R)) := hD
            refine lv_aload_n hx hb dX8_drive_230 rfl (lv_at hl 0 rfl) ?_
            refine va_get (ci := 7) (v := .ref (a 0)) hx hb hts h_X8 hown hK hP 14 rfl rfl 0 (by decide) f9 (fun _ h9 => h9) rfl dX8_drive_231 ?_
            refine va_get (ci := 8) (v := .ref (a 11)) hx hb hts h_X9 hown hK hP 0 rfl rfl 13 (by decide) f73 (fun _ h9 => h9) rfl dX8_drive_234 ?_
            refine lv_iload_n hx hb dX8_drive_237 rfl (lv_at hl 2 rfl) ?_
            refine lv_dup2_11 hx hb dX8_drive_238 rfl rfl ?_
            refine zIald (n := 5) (f := (y_rt y)) (i := k2) hx hb hK hP 11 rfl (by omega) (by decide) dX8_drive_239 ?_
            refine lv_iconst (v := nI (1)) hx hb dX8_drive_240 (by decide) ?_
            refine lv_iadd hx hb dX8_drive_241 ?_
            refine zIast (n := 5) (f := (y_rt y)) (i := k2) hx hb hK hP hD hS 11 rfl (by omega) (by decide) dX8_drive_242 (fun H locs hP hD hS => ?_)
            have hP : va_P D vwCl (YW ct a ((y_n y), (y_kd y), (y_w y), (y_cu y), (y_pl y), (y_cn y), (y_st y), (vf_upd ((vf_upd (y_wr y) (wix (k1) (nI (0))) ((FP.fadd (y_wr y (wix (k1) (nI (0)))) (t_wt (y_n y, y_kd y, y_w y, y_cu y, y_pl y, y_cn y, y_st y, y_wr y, y_tr y, y_rn y, y_li y, y_mi y, y_ra y, y_rt y, (FP.fadd (y_tl y) (t_toll y (k1) (k2))), y_mm y) (k1) (k2) (nI (0))))))) (wix (k1) (nI (1))) ((FP.fadd ((vf_upd (y_wr y) (wix (k1) (nI (0))) ((FP.fadd (y_wr y (wix (k1) (nI (0)))) (t_wt (y_n y, y_kd y, y_w y, y_cu y, y_pl y, y_cn y, y_st y, y_wr y, y_tr y, y_rn y, y_li y, y_mi y, y_ra y, y_rt y, (FP.fadd (y_tl y) (t_toll y (k1) (k2))), y_mm y) (k1) (k2) (nI (0)))))) (wix (k1) (nI (1)))) (t_wt ((y_n y), (y_kd y), (y_w y), (y_cu y), (y_pl y), (y_cn y), (y_st y), (vf_upd (y_wr y) (wix (k1) (nI (0))) ((FP.fadd (y_wr y (wix (k1) (nI (0)))) (t_wt (y_n y, y_kd y, y_w y, y_cu y, y_pl y, y_cn y, y_st y, y_wr y, y_tr y, y_rn y, y_li y, y_mi y, y_ra y, y_rt y, (FP.fadd (y_tl y) (t_toll y (k1) (k2))), y_mm y) (k1) (k2) (nI (0)))))), (y_tr y), (y_rn y), (y_li y), (y_mi y), (y_ra y), (y_rt y), (FP.fadd (y_tl y) (t_toll y (k1) (k2))), (y_mm y)) (k1) (k2) (nI (1)))))), (upd ((y_tr y)) (k1) ((((y_tr y) (k1)) + nI (1)))), (y_rn y), (y_li y), (y_mi y), (y_ra y), (upd ((y_rt y)) (k2) ((((y_rt y) (k2)) + nI (1)))), (FP.fadd (y_tl y) (t_toll y (k1) (k2))), (y_mm y)) (KR a b rs R)) H := hP
            have hD : va_D A (YW ct a ((y_n y), (y_kd y), (y_w y), (y_cu y), (y_pl y), (y_cn y), (y_st y), (vf_upd ((vf_upd (y_wr y) (wix (k1) (nI (0))) ((FP.fadd (y_wr y (wix (k1) (nI (0)))) (t_wt (y_n y, y_kd y, y_w y, y_cu y, y_pl y, y_cn y, y_st y, y_wr y, y_tr y, y_rn y, y_li y, y_mi y, y_ra y, y_rt y, (FP.fadd (y_tl y) (t_toll y (k1) (k2))), y_mm y) (k1) (k2) (nI (0))))))) (wix (k1) (nI (1))) ((FP.fadd ((vf_upd (y_wr y) (wix (k1) (nI (0))) ((FP.fadd (y_wr y (wix (k1) (nI (0)))) (t_wt (y_n y, y_kd y, y_w y, y_cu y, y_pl y, y_cn y, y_st y, y_wr y, y_tr y, y_rn y, y_li y, y_mi y, y_ra y, y_rt y, (FP.fadd (y_tl y) (t_toll y (k1) (k2))), y_mm y) (k1) (k2) (nI (0)))))) (wix (k1) (nI (1)))) (t_wt ((y_n y), (y_kd y), (y_w y), (y_cu y), (y_pl y), (y_cn y), (y_st y), (vf_upd (y_wr y) (wix (k1) (nI (0))) ((FP.fadd (y_wr y (wix (k1) (nI (0)))) (t_wt (y_n y, y_kd y, y_w y, y_cu y, y_pl y, y_cn y, y_st y, y_wr y, y_tr y, y_rn y, y_li y, y_mi y, y_ra y, y_rt y, (FP.fadd (y_tl y) (t_toll y (k1) (k2))), y_mm y) (k1) (k2) (nI (0)))))), (y_tr y), (y_rn y), (y_li y), (y_mi y), (y_ra y), (y_rt y), (FP.fadd (y_tl y) (t_toll y (k1) (k2))), (y_mm y)) (k1) (k2) (nI (1)))))), (upd ((y_tr y)) (k1) ((((y_tr y) (k1)) + nI (1)))), (y_rn y), (y_li y), (y_mi y), (y_ra y), (upd ((y_rt y)) (k2) ((((y_rt y) (k2)) + nI (1)))), (FP.fadd (y_tl y) (t_toll y (k1) (k2))), (y_mm y)) (KR a b rs R)) := hD
            refine lv_aload_n hx hb dX8_drive_243 rfl (lv_at hl 0 rfl) ?_
            refine va_get (ci := 7) (v := .ref (a 0)) hx hb hts h_X8 hown hK hP 14 rfl rfl 0 (by decide) f9 (fun _ h9 => h9) rfl dX8_drive_244 ?_
            refine lv_dup hx hb dX8_drive_247 rfl ?_
            refine va_get (ci := 8) (v := .int ((y_mm y))) hx hb hts h_X9 hown hK hP 0 rfl rfl 15 (by decide) f131 (fun _ h9 => h9) rfl dX8_drive_248 ?_
            refine lv_aload_n hx hb dX8_drive_251 rfl (lv_at hl 0 rfl) ?_
            refine va_get (ci := 7) (v := .ref (a 0)) hx hb hts h_X8 hown hK hP 14 rfl rfl 0 (by decide) f9 (fun _ h9 => h9) rfl dX8_drive_252 ?_
            refine va_get (ci := 8) (v := .ref (a 9)) hx hb hts h_X9 hown hK hP 0 rfl rfl 11 (by decide) f67 (fun _ h9 => h9) rfl dX8_drive_255 ?_
            refine lv_iload_n hx hb dX8_drive_258 rfl (lv_at hl 2 rfl) ?_
            refine zIald (n := 5) (f := (y_mi y)) (i := k2) hx hb hK hP 9 rfl (by omega) (by decide) dX8_drive_259 ?_
            refine lv_iadd hx hb dX8_drive_260 ?_
            refine va_put (ci := 8) (v := .int (((y_mm y) + ((y_mi y) (k2))))) (ty := .int) hx hb hts h_X9 tyX9 tyX9_ok nmX9 hown hK hP hD hS 0 rfl rfl 15 (by decide) f131 (fun _ h9 => h9) rfl (by decide +kernel) rfl rfl (Nat.le_of_ble_eq_true rfl) dX8_drive_261 (fun H locs hP hD hS => ?_)
            have hP : va_P D vwCl (YW ct a ((y_n y), (y_kd y), (y_w y), (y_cu y), (y_pl y), (y_cn y), (y_st y), (vf_upd ((vf_upd (y_wr y) (wix (k1) (nI (0))) ((FP.fadd (y_wr y (wix (k1) (nI (0)))) (t_wt (y_n y, y_kd y, y_w y, y_cu y, y_pl y, y_cn y, y_st y, y_wr y, y_tr y, y_rn y, y_li y, y_mi y, y_ra y, y_rt y, (FP.fadd (y_tl y) (t_toll y (k1) (k2))), y_mm y) (k1) (k2) (nI (0))))))) (wix (k1) (nI (1))) ((FP.fadd ((vf_upd (y_wr y) (wix (k1) (nI (0))) ((FP.fadd (y_wr y (wix (k1) (nI (0)))) (t_wt (y_n y, y_kd y, y_w y, y_cu y, y_pl y, y_cn y, y_st y, y_wr y, y_tr y, y_rn y, y_li y, y_mi y, y_ra y, y_rt y, (FP.fadd (y_tl y) (t_toll y (k1) (k2))), y_mm y) (k1) (k2) (nI (0)))))) (wix (k1) (nI (1)))) (t_wt ((y_n y), (y_kd y), (y_w y), (y_cu y), (y_pl y), (y_cn y), (y_st y), (vf_upd (y_wr y) (wix (k1) (nI (0))) ((FP.fadd (y_wr y (wix (k1) (nI (0)))) (t_wt (y_n y, y_kd y, y_w y, y_cu y, y_pl y, y_cn y, y_st y, y_wr y, y_tr y, y_rn y, y_li y, y_mi y, y_ra y, y_rt y, (FP.fadd (y_tl y) (t_toll y (k1) (k2))), y_mm y) (k1) (k2) (nI (0)))))), (y_tr y), (y_rn y), (y_li y), (y_mi y), (y_ra y), (y_rt y), (FP.fadd (y_tl y) (t_toll y (k1) (k2))), (y_mm y)) (k1) (k2) (nI (1)))))), (upd ((y_tr y)) (k1) ((((y_tr y) (k1)) + nI (1)))), (y_rn y), (y_li y), (y_mi y), (y_ra y), (upd ((y_rt y)) (k2) ((((y_rt y) (k2)) + nI (1)))), (FP.fadd (y_tl y) (t_toll y (k1) (k2))), ((y_mm y) + ((y_mi y) (k2)))) (KR a b rs R)) H := hP
            have hD : va_D A (YW ct a ((y_n y), (y_kd y), (y_w y), (y_cu y), (y_pl y), (y_cn y), (y_st y), (vf_upd ((vf_upd (y_wr y) (wix (k1) (nI (0))) ((FP.fadd (y_wr y (wix (k1) (nI (0)))) (t_wt (y_n y, y_kd y, y_w y, y_cu y, y_pl y, y_cn y, y_st y, y_wr y, y_tr y, y_rn y, y_li y, y_mi y, y_ra y, y_rt y, (FP.fadd (y_tl y) (t_toll y (k1) (k2))), y_mm y) (k1) (k2) (nI (0))))))) (wix (k1) (nI (1))) ((FP.fadd ((vf_upd (y_wr y) (wix (k1) (nI (0))) ((FP.fadd (y_wr y (wix (k1) (nI (0)))) (t_wt (y_n y, y_kd y, y_w y, y_cu y, y_pl y, y_cn y, y_st y, y_wr y, y_tr y, y_rn y, y_li y, y_mi y, y_ra y, y_rt y, (FP.fadd (y_tl y) (t_toll y (k1) (k2))), y_mm y) (k1) (k2) (nI (0)))))) (wix (k1) (nI (1)))) (t_wt ((y_n y), (y_kd y), (y_w y), (y_cu y), (y_pl y), (y_cn y), (y_st y), (vf_upd (y_wr y) (wix (k1) (nI (0))) ((FP.fadd (y_wr y (wix (k1) (nI (0)))) (t_wt (y_n y, y_kd y, y_w y, y_cu y, y_pl y, y_cn y, y_st y, y_wr y, y_tr y, y_rn y, y_li y, y_mi y, y_ra y, y_rt y, (FP.fadd (y_tl y) (t_toll y (k1) (k2))), y_mm y) (k1) (k2) (nI (0)))))), (y_tr y), (y_rn y), (y_li y), (y_mi y), (y_ra y), (y_rt y), (FP.fadd (y_tl y) (t_toll y (k1) (k2))), (y_mm y)) (k1) (k2) (nI (1)))))), (upd ((y_tr y)) (k1) ((((y_tr y) (k1)) + nI (1)))), (y_rn y), (y_li y), (y_mi y), (y_ra y), (upd ((y_rt y)) (k2) ((((y_rt y) (k2)) + nI (1)))), (FP.fadd (y_tl y) (t_toll y (k1) (k2))), ((y_mm y) + ((y_mi y) (k2)))) (KR a b rs R)) := hD
            refine lv_aload_n hx hb dX8_drive_264 rfl (lv_at hl 0 rfl) ?_
            refine va_get (ci := 7) (v := .ref (b 0)) hx hb hts h_X8 hown hK hP 14 rfl rfl 1 (by decide) f15 (fun _ h9 => h9) rfl dX8_drive_265 ?_
            refine lv_iload_n hx hb dX8_drive_268 rfl (lv_at hl 1 rfl) ?_
            refine zVI [.int (nI (k1))] [] (kX7_creakingAxles (a) (((y_n y), (y_kd y), (y_w y), (y_cu y), (y_pl y), (y_cn y), (y_st y), (vf_upd ((vf_upd (y_wr y) (wix (k1) (nI (0))) ((FP.fadd (y_wr y (wix (k1) (nI (0)))) (t_wt (y_n y, y_kd y, y_w y, y_cu y, y_pl y, y_cn y, y_st y, y_wr y, y_tr y, y_rn y, y_li y, y_mi y, y_ra y, y_rt y, (FP.fadd (y_tl y) (t_toll y (k1) (k2))), y_mm y) (k1) (k2) (nI (0))))))) (wix (k1) (nI (1))) ((FP.fadd ((vf_upd (y_wr y) (wix (k1) (nI (0))) ((FP.fadd (y_wr y (wix (k1) (nI (0)))) (t_wt (y_n y, y_kd y, y_w y, y_cu y, y_pl y, y_cn y, y_st y, y_wr y, y_tr y, y_rn y, y_li y, y_mi y, y_ra y, y_rt y, (FP.fadd (y_tl y) (t_toll y (k1) (k2))), y_mm y) (k1) (k2) (nI (0)))))) (wix (k1) (nI (1)))) (t_wt ((y_n y), (y_kd y), (y_w y), (y_cu y), (y_pl y), (y_cn y), (y_st y), (vf_upd (y_wr y) (wix (k1) (nI (0))) ((FP.fadd (y_wr y (wix (k1) (nI (0)))) (t_wt (y_n y, y_kd y, y_w y, y_cu y, y_pl y, y_cn y, y_st y, y_wr y, y_tr y, y_rn y, y_li y, y_mi y, y_ra y, y_rt y, (FP.fadd (y_tl y) (t_toll y (k1) (k2))), y_mm y) (k1) (k2) (nI (0)))))), (y_tr y), (y_rn y), (y_li y), (y_mi y), (y_ra y), (y_rt y), (FP.fadd (y_tl y) (t_toll y (k1) (k2))), (y_mm y)) (k1) (k2) (nI (1)))))), (upd ((y_tr y)) (k1) ((((y_tr y) (k1)) + nI (1)))), (y_rn y), (y_li y), (y_mi y), (y_ra y), (upd ((y_rt y)) (k2) ((((y_rt y) (k2)) + nI (1)))), (FP.fadd (y_tl y) (t_toll y (k1) (k2))), ((y_mm y) + ((y_mi y) (k2))))) (b) (rs) (R) (k1) (show yI ((y_n y), (y_kd y), (y_w y), (y_cu y), (y_pl y), (y_cn y), (y_st y), (vf_upd ((vf_upd (y_wr y) (wix (k1) (nI (0))) ((FP.fadd (y_wr y (wix (k1) (nI (0)))) (t_wt (y_n y, y_kd y, y_w y, y_cu y, y_pl y, y_cn y, y_st y, y_wr y, y_tr y, y_rn y, y_li y, y_mi y, y_ra y, y_rt y, (FP.fadd (y_tl y) (t_toll y (k1) (k2))), y_mm y) (k1) (k2) (nI (0))))))) (wix (k1) (nI (1))) ((FP.fadd ((vf_upd (y_wr y) (wix (k1) (nI (0))) ((FP.fadd (y_wr y (wix (k1) (nI (0)))) (t_wt (y_n y, y_kd y, y_w y, y_cu y, y_pl y, y_cn y, y_st y, y_wr y, y_tr y, y_rn y, y_li y, y_mi y, y_ra y, y_rt y, (FP.fadd (y_tl y) (t_toll y (k1) (k2))), y_mm y) (k1) (k2) (nI (0)))))) (wix (k1) (nI (1)))) (t_wt ((y_n y), (y_kd y), (y_w y), (y_cu y), (y_pl y), (y_cn y), (y_st y), (vf_upd (y_wr y) (wix (k1) (nI (0))) ((FP.fadd (y_wr y (wix (k1) (nI (0)))) (t_wt (y_n y, y_kd y, y_w y, y_cu y, y_pl y, y_cn y, y_st y, y_wr y, y_tr y, y_rn y, y_li y, y_mi y, y_ra y, y_rt y, (FP.fadd (y_tl y) (t_toll y (k1) (k2))), y_mm y) (k1) (k2) (nI (0)))))), (y_tr y), (y_rn y), (y_li y), (y_mi y), (y_ra y), (y_rt y), (FP.fadd (y_tl y) (t_toll y (k1) (k2))), (y_mm y)) (k1) (k2) (nI (1)))))), (upd ((y_tr y)) (k1) ((((y_tr y) (k1)) + nI (1)))), (y_rn y), (y_li y), (y_mi y), (y_ra y), (upd ((y_rt y)) (k2) ((((y_rt y) (k2)) + nI (1)))), (FP.fadd (y_tl y) (t_toll y (k1) (k2))), ((y_mm y) + ((y_mi y) (k2)))) from hy) (show (k1) < (y_cn y) from by omega)) hx hb hml hown hts (cwV 1 hts gX8_drive_X7_creakingAxles rfl rfl rfl (by decide +kernel) ⟨(Nat.le_of_ble_eq_true rfl), (Nat.le_of_ble_eq_true rfl)⟩) hK hP hD hS hA (va_recv hK hP (ci := 6) (q0 := 12) rfl rfl) rfl hl.1 rfl (Nat.le_of_ble_eq_true rfl) dX8_drive_269 ⟨(Nat.le_of_ble_eq_true rfl), (Nat.le_of_ble_eq_true rfl)⟩ (fun r_269 _ H locs hr_269 hP hD hS => ?_)
            subst hr_269
            have hP : va_P D vwCl (YW ct a ((y_n y), (y_kd y), (y_w y), (y_cu y), (y_pl y), (y_cn y), (y_st y), (vf_upd ((vf_upd (y_wr y) (wix (k1) (nI (0))) ((FP.fadd (y_wr y (wix (k1) (nI (0)))) (t_wt (y_n y, y_kd y, y_w y, y_cu y, y_pl y, y_cn y, y_st y, y_wr y, y_tr y, y_rn y, y_li y, y_mi y, y_ra y, y_rt y, (FP.fadd (y_tl y) (t_toll y (k1) (k2))), y_mm y) (k1) (k2) (nI (0))))))) (wix (k1) (nI (1))) ((FP.fadd ((vf_upd (y_wr y) (wix (k1) (nI (0))) ((FP.fadd (y_wr y (wix (k1) (nI (0)))) (t_wt (y_n y, y_kd y, y_w y, y_cu y, y_pl y, y_cn y, y_st y, y_wr y, y_tr y, y_rn y, y_li y, y_mi y, y_ra y, y_rt y, (FP.fadd (y_tl y) (t_toll y (k1) (k2))), y_mm y) (k1) (k2) (nI (0)))))) (wix (k1) (nI (1)))) (t_wt ((y_n y), (y_kd y), (y_w y), (y_cu y), (y_pl y), (y_cn y), (y_st y), (vf_upd (y_wr y) (wix (k1) (nI (0))) ((FP.fadd (y_wr y (wix (k1) (nI (0)))) (t_wt (y_n y, y_kd y, y_w y, y_cu y, y_pl y, y_cn y, y_st y, y_wr y, y_tr y, y_rn y, y_li y, y_mi y, y_ra y, y_rt y, (FP.fadd (y_tl y) (t_toll y (k1) (k2))), y_mm y) (k1) (k2) (nI (0)))))), (y_tr y), (y_rn y), (y_li y), (y_mi y), (y_ra y), (y_rt y), (FP.fadd (y_tl y) (t_toll y (k1) (k2))), (y_mm y)) (k1) (k2) (nI (1)))))), (upd ((y_tr y)) (k1) ((((y_tr y) (k1)) + nI (1)))), (y_rn y), (y_li y), (y_mi y), (y_ra y), (upd ((y_rt y)) (k2) ((((y_rt y) (k2)) + nI (1)))), (FP.fadd (y_tl y) (t_toll y (k1) (k2))), ((y_mm y) + ((y_mi y) (k2)))) (KR a b rs R)) H := hP
            have hD : va_D A (YW ct a ((y_n y), (y_kd y), (y_w y), (y_cu y), (y_pl y), (y_cn y), (y_st y), (vf_upd ((vf_upd (y_wr y) (wix (k1) (nI (0))) ((FP.fadd (y_wr y (wix (k1) (nI (0)))) (t_wt (y_n y, y_kd y, y_w y, y_cu y, y_pl y, y_cn y, y_st y, y_wr y, y_tr y, y_rn y, y_li y, y_mi y, y_ra y, y_rt y, (FP.fadd (y_tl y) (t_toll y (k1) (k2))), y_mm y) (k1) (k2) (nI (0))))))) (wix (k1) (nI (1))) ((FP.fadd ((vf_upd (y_wr y) (wix (k1) (nI (0))) ((FP.fadd (y_wr y (wix (k1) (nI (0)))) (t_wt (y_n y, y_kd y, y_w y, y_cu y, y_pl y, y_cn y, y_st y, y_wr y, y_tr y, y_rn y, y_li y, y_mi y, y_ra y, y_rt y, (FP.fadd (y_tl y) (t_toll y (k1) (k2))), y_mm y) (k1) (k2) (nI (0)))))) (wix (k1) (nI (1)))) (t_wt ((y_n y), (y_kd y), (y_w y), (y_cu y), (y_pl y), (y_cn y), (y_st y), (vf_upd (y_wr y) (wix (k1) (nI (0))) ((FP.fadd (y_wr y (wix (k1) (nI (0)))) (t_wt (y_n y, y_kd y, y_w y, y_cu y, y_pl y, y_cn y, y_st y, y_wr y, y_tr y, y_rn y, y_li y, y_mi y, y_ra y, y_rt y, (FP.fadd (y_tl y) (t_toll y (k1) (k2))), y_mm y) (k1) (k2) (nI (0)))))), (y_tr y), (y_rn y), (y_li y), (y_mi y), (y_ra y), (y_rt y), (FP.fadd (y_tl y) (t_toll y (k1) (k2))), (y_mm y)) (k1) (k2) (nI (1)))))), (upd ((y_tr y)) (k1) ((((y_tr y) (k1)) + nI (1)))), (y_rn y), (y_li y), (y_mi y), (y_ra y), (upd ((y_rt y)) (k2) ((((y_rt y) (k2)) + nI (1)))), (FP.fadd (y_tl y) (t_toll y (k1) (k2))), ((y_mm y) + ((y_mi y) (k2)))) (KR a b rs R)) := hD
            have q269 := t_cr_le ((y_n y), (y_kd y), (y_w y), (y_cu y), (y_pl y), (y_cn y), (y_st y), (vf_upd ((vf_upd (y_wr y) (wix (k1) (nI (0))) ((FP.fadd (y_wr y (wix (k1) (nI (0)))) (t_wt (y_n y, y_kd y, y_w y, y_cu y, y_pl y, y_cn y, y_st y, y_wr y, y_tr y, y_rn y, y_li y, y_mi y, y_ra y, y_rt y, (FP.fadd (y_tl y) (t_toll y (k1) (k2))), y_mm y) (k1) (k2) (nI (0))))))) (wix (k1) (nI (1))) ((FP.fadd ((vf_upd (y_wr y) (wix (k1) (nI (0))) ((FP.fadd (y_wr y (wix (k1) (nI (0)))) (t_wt (y_n y, y_kd y, y_w y, y_cu y, y_pl y, y_cn y, y_st y, y_wr y, y_tr y, y_rn y, y_li y, y_mi y, y_ra y, y_rt y, (FP.fadd (y_tl y) (t_toll y (k1) (k2))), y_mm y) (k1) (k2) (nI (0)))))) (wix (k1) (nI (1)))) (t_wt ((y_n y), (y_kd y), (y_w y), (y_cu y), (y_pl y), (y_cn y), (y_st y), (vf_upd (y_wr y) (wix (k1) (nI (0))) ((FP.fadd (y_wr y (wix (k1) (nI (0)))) (t_wt (y_n y, y_kd y, y_w y, y_cu y, y_pl y, y_cn y, y_st y, y_wr y, y_tr y, y_rn y, y_li y, y_mi y, y_ra y, y_rt y, (FP.fadd (y_tl y) (t_toll y (k1) (k2))), y_mm y) (k1) (k2) (nI (0)))))), (y_tr y), (y_rn y), (y_li y), (y_mi y), (y_ra y), (y_rt y), (FP.fadd (y_tl y) (t_toll y (k1) (k2))), (y_mm y)) (k1) (k2) (nI (1)))))), (upd ((y_tr y)) (k1) ((((y_tr y) (k1)) + nI (1)))), (y_rn y), (y_li y), (y_mi y), (y_ra y), (upd ((y_rt y)) (k2) ((((y_rt y) (k2)) + nI (1)))), (FP.fadd (y_tl y) (t_toll y (k1) (k2))), ((y_mm y) + ((y_mi y) (k2)))) (k1)
            have e9 : f_go y rs (nI k1) (nI k2) = (nI (t_cr ((y_n y), (y_kd y), (y_w y), (y_cu y), (y_pl y), (y_cn y), (y_st y), (vf_upd ((vf_upd (y_wr y) (wix (k1) (nI (0))) ((FP.fadd (y_wr y (wix (k1) (nI (0)))) (t_wt (y_n y, y_kd y, y_w y, y_cu y, y_pl y, y_cn y, y_st y, y_wr y, y_tr y, y_rn y, y_li y, y_mi y, y_ra y, y_rt y, (FP.fadd (y_tl y) (t_toll y (k1) (k2))), y_mm y) (k1) (k2) (nI (0))))))) (wix (k1) (nI (1))) ((FP.fadd ((vf_upd (y_wr y) (wix (k1) (nI (0))) ((FP.fadd (y_wr y (wix (k1) (nI (0)))) (t_wt (y_n y, y_kd y, y_w y, y_cu y, y_pl y, y_cn y, y_st y, y_wr y, y_tr y, y_rn y, y_li y, y_mi y, y_ra y, y_rt y, (FP.fadd (y_tl y) (t_toll y (k1) (k2))), y_mm y) (k1) (k2) (nI (0)))))) (wix (k1) (nI (1)))) (t_wt ((y_n y), (y_kd y), (y_w y), (y_cu y), (y_pl y), (y_cn y), (y_st y), (vf_upd (y_wr y) (wix (k1) (nI (0))) ((FP.fadd (y_wr y (wix (k1) (nI (0)))) (t_wt (y_n y, y_kd y, y_w y, y_cu y, y_pl y, y_cn y, y_st y, y_wr y, y_tr y, y_rn y, y_li y, y_mi y, y_ra y, y_rt y, (FP.fadd (y_tl y) (t_toll y (k1) (k2))), y_mm y) (k1) (k2) (nI (0)))))), (y_tr y), (y_rn y), (y_li y), (y_mi y), (y_ra y), (y_rt y), (FP.fadd (y_tl y) (t_toll y (k1) (k2))), (y_mm y)) (k1) (k2) (nI (1)))))), (upd ((y_tr y)) (k1) ((((y_tr y) (k1)) + nI (1)))), (y_rn y), (y_li y), (y_mi y), (y_ra y), (upd ((y_rt y)) (k2) ((((y_rt y) (k2)) + nI (1)))), (FP.fadd (y_tl y) (t_toll y (k1) (k2))), ((y_mm y) + ((y_mi y) (k2)))) (k1)), ((y_n y), (y_kd y), (y_w y), (y_cu y), (y_pl y), (y_cn y), (y_st y), (vf_upd ((vf_upd (y_wr y) (wix (k1) (nI (0))) ((FP.fadd (y_wr y (wix (k1) (nI (0)))) (t_wt (y_n y, y_kd y, y_w y, y_cu y, y_pl y, y_cn y, y_st y, y_wr y, y_tr y, y_rn y, y_li y, y_mi y, y_ra y, y_rt y, (FP.fadd (y_tl y) (t_toll y (k1) (k2))), y_mm y) (k1) (k2) (nI (0))))))) (wix (k1) (nI (1))) ((FP.fadd ((vf_upd (y_wr y) (wix (k1) (nI (0))) ((FP.fadd (y_wr y (wix (k1) (nI (0)))) (t_wt (y_n y, y_kd y, y_w y, y_cu y, y_pl y, y_cn y, y_st y, y_wr y, y_tr y, y_rn y, y_li y, y_mi y, y_ra y, y_rt y, (FP.fadd (y_tl y) (t_toll y (k1) (k2))), y_mm y) (k1) (k2) (nI (0)))))) (wix (k1) (nI (1)))) (t_wt ((y_n y), (y_kd y), (y_w y), (y_cu y), (y_pl y), (y_cn y), (y_st y), (vf_upd (y_wr y) (wix (k1) (nI (0))) ((FP.fadd (y_wr y (wix (k1) (nI (0)))) (t_wt (y_n y, y_kd y, y_w y, y_cu y, y_pl y, y_cn y, y_st y, y_wr y, y_tr y, y_rn y, y_li y, y_mi y, y_ra y, y_rt y, (FP.fadd (y_tl y) (t_toll y (k1) (k2))), y_mm y) (k1) (k2) (nI (0)))))), (y_tr y), (y_rn y), (y_li y), (y_mi y), (y_ra y), (y_rt y), (FP.fadd (y_tl y) (t_toll y (k1) (k2))), (y_mm y)) (k1) (k2) (nI (1)))))), (upd ((y_tr y)) (k1) ((((y_tr y) (k1)) + nI (1)))), (y_rn y), (y_li y), (y_mi y), (y_ra y), (upd ((y_rt y)) (k2) ((((y_rt y) (k2)) + nI (1)))), (FP.fadd (y_tl y) (t_toll y (k1) (k2))), ((y_mm y) + ((y_mi y) (k2)))), rs) := (by simp only [f_go, yGone, wrStep, setAt, yMove, rsOf, yWr, c8_1, hclk1, c19_2, hclk2, c36_3, c66_4, c105_5, p_in, p_worn, p_wi, p_creak, p_over, p_le0, p_lt1, not_true_eq_false, not_false_eq_true, if_true, if_false, and_true, true_and, and_false, false_and, or_true, true_or, or_false, false_or, and_self, or_self, iff_true, true_iff, iff_false, false_iff, decide_eq_true_eq, decide_true, decide_false, Int32.add_zero, Nat.add_zero, ne_eq, Bool.false_eq_true, eq_self])
            exact zIret () hx hb hr hlocks hK (by show va_P D vwCl (YW ct a (f_go y rs (nI k1) (nI k2)).2.1 (KR a b (f_go y rs (nI k1) (nI k2)).2.2 R)) H; rw [e9]; exact hP) (by show va_D A (YW ct a (f_go y rs (nI k1) (nI k2)).2.1 (KR a b (f_go y rs (nI k1) (nI k2)).2.2 R)); rw [e9]; exact hD) hS dX8_drive_272 (show nI (t_cr ((y_n y), (y_kd y), (y_w y), (y_cu y), (y_pl y), (y_cn y), (y_st y), (vf_upd ((vf_upd (y_wr y) (wix (k1) (nI (0))) ((FP.fadd (y_wr y (wix (k1) (nI (0)))) (t_wt (y_n y, y_kd y, y_w y, y_cu y, y_pl y, y_cn y, y_st y, y_wr y, y_tr y, y_rn y, y_li y, y_mi y, y_ra y, y_rt y, (FP.fadd (y_tl y) (t_toll y (k1) (k2))), y_mm y) (k1) (k2) (nI (0))))))) (wix (k1) (nI (1))) ((FP.fadd ((vf_upd (y_wr y) (wix (k1) (nI (0))) ((FP.fadd (y_wr y (wix (k1) (nI (0)))) (t_wt (y_n y, y_kd y, y_w y, y_cu y, y_pl y, y_cn y, y_st y, y_wr y, y_tr y, y_rn y, y_li y, y_mi y, y_ra y, y_rt y, (FP.fadd (y_tl y) (t_toll y (k1) (k2))), y_mm y) (k1) (k2) (nI (0)))))) (wix (k1) (nI (1)))) (t_wt ((y_n y), (y_kd y), (y_w y), (y_cu y), (y_pl y), (y_cn y), (y_st y), (vf_upd (y_wr y) (wix (k1) (nI (0))) ((FP.fadd (y_wr y (wix (k1) (nI (0)))) (t_wt (y_n y, y_kd y, y_w y, y_cu y, y_pl y, y_cn y, y_st y, y_wr y, y_tr y, y_rn y, y_li y, y_mi y, y_ra y, y_rt y, (FP.fadd (y_tl y) (t_toll y (k1) (k2))), y_mm y) (k1) (k2) (nI (0)))))), (y_tr y), (y_rn y), (y_li y), (y_mi y), (y_ra y), (y_rt y), (FP.fadd (y_tl y) (t_toll y (k1) (k2))), (y_mm y)) (k1) (k2) (nI (1)))))), (upd ((y_tr y)) (k1) ((((y_tr y) (k1)) + nI (1)))), (y_rn y), (y_li y), (y_mi y), (y_ra y), (upd ((y_rt y)) (k2) ((((y_rt y) (k2)) + nI (1)))), (FP.fadd (y_tl y) (t_toll y (k1) (k2))), ((y_mm y) + ((y_mi y) (k2)))) (k1)) = (f_go y rs (nI k1) (nI k2)).1 from (by rw [e9]))
          · skip
            refine lv_aload_n hx hb dX8_drive_108 rfl (lv_at hl 0 rfl) ?_
            refine va_get (ci := 7) (v := .ref (b 1)) hx hb hts h_X8 hown hK hP 14 rfl rfl 2 (by decide) f19 (fun _ h9 => h9) rfl dX8_drive_109 ?_
            refine lv_bipush (v := nI (10)) hx hb dX8_drive_112 (by decide) ?_
            refine lv_aload_n hx hb dX8_drive_114 rfl (lv_at hl 0 rfl) ?_
            refine va_get (ci := 7) (v := .ref (a 0)) hx hb hts h_X8 hown hK hP 14 rfl rfl 0 (by decide) f9 (fun _ h9 => h9) rfl dX8_drive_115 ?_
            refine lv_iload_n hx hb dX8_drive_118 rfl (lv_at hl 1 rfl) ?_
            refine lv_iconst (v := nI (0)) hx hb dX8_drive_119 (by decide) ?_
            refine zVI [.int (nI (k1)), .int (nI (0))] [.int (nI (10)), .ref (b 1)] (kX9_isWornOut (a) (y) (KR a b rs R) (k1) (nI (0)) (show (k1) < 4 from by omega)) hx hb hml hown hts (cwV 2 hts gX8_drive_X9_isWornOut rfl rfl rfl (by decide +kernel) ⟨(Nat.le_of_ble_eq_true rfl), (Nat.le_of_ble_eq_true rfl)⟩) hK hP hD hS hA (va_recv hK hP (ci := 8) (q0 := 0) rfl rfl) rfl hl.1 rfl (Nat.le_of_ble_eq_true rfl) dX8_drive_120 ⟨(Nat.le_of_ble_eq_true rfl), (Nat.le_of_ble_eq_true rfl)⟩ (fun r_120 _ H locs hr_120 hP hD hS => ?_)
            subst hr_120
            have hP : va_P D vwCl (YW ct a y (KR a b rs R)) H := hP
            have hD : va_D A (YW ct a y (KR a b rs R)) := hD
            refine zB_if_eq (tgt := 130) hx hb dX8_drive_123 (by decide) (fun c123_6 => ?_) (fun c123_6 => ?_)
            · skip
              refine lv_iconst (v := nI (1)) hx hb dX8_drive_130 (by decide) ?_
              refine zVI [.int (nI (10)), .int (nI (1))] [] (kX6_refuse (a) (y) (b) (rs) (R) (nI (10)) (nI (1))) hx hb hml hown hts (cwV 2 hts gX8_drive_X6_refuse rfl rfl rfl (by decide +kernel) ⟨(Nat.le_of_ble_eq_true rfl), (Nat.le_of_ble_eq_true rfl)⟩) hK hP hD hS hA (va_recv hK hP (ci := 5) (q0 := 13) rfl rfl) rfl hl.1 rfl (Nat.le_of_ble_eq_true rfl) dX8_drive_131 ⟨(Nat.le_of_ble_eq_true rfl), (Nat.le_of_ble_eq_true rfl)⟩ (fun r_131 _ H locs hr_131 hP hD hS => ?_)
              subst hr_131
              have hP : va_P D vwCl (YW ct a y (KR a b ((nI (10)), (nI (1)), (-4), (-4)) R)) H := hP
              have hD : va_D A (YW ct a y (KR a b ((nI (10)), (nI (1)), (-4), (-4)) R)) := hD
              have e9 : f_go y rs (nI k1) (nI k2) = ((-3), y, ((nI (10)), (nI (1)), (-4), (-4))) := (by simp only [f_go, setAt, yMove, rsOf, yWr, c8_1, hclk1, c19_2, hclk2, c36_3, c66_4, c105_5, c123_6, p_in, p_worn, p_wi, p_creak, p_over, p_le0, p_lt1, not_true_eq_false, not_false_eq_true, if_true, if_false, and_true, true_and, and_false, false_and, or_true, true_or, or_false, false_or, and_self, or_self, iff_true, true_iff, iff_false, false_iff, decide_eq_true_eq, decide_true, decide_false, Int32.add_zero, Nat.add_zero, ne_eq, Bool.false_eq_true, eq_self])
              exact zIret () hx hb hr hlocks hK (by show va_P D vwCl (YW ct a (f_go y rs (nI k1) (nI k2)).2.1 (KR a b (f_go y rs (nI k1) (nI k2)).2.2 R)) H; rw [e9]; exact hP) (by show va_D A (YW ct a (f_go y rs (nI k1) (nI k2)).2.1 (KR a b (f_go y rs (nI k1) (nI k2)).2.2 R)); rw [e9]; exact hD) hS dX8_drive_134 (show (-3) = (f_go y rs (nI k1) (nI k2)).1 from (by rw [e9]))
            · skip
              refine lv_iconst (v := nI (0)) hx hb dX8_drive_126 (by decide) ?_
              refine lv_goto (tgt := 131) hx hb dX8_drive_127 (by decide) ?_
              refine zVI [.int (nI (10)), .int (nI (0))] [] (kX6_refuse (a) (y) (b) (rs) (R) (nI (10)) (nI (0))) hx hb hml hown hts (cwV 2 hts gX8_drive_X6_refuse rfl rfl rfl (by decide +kernel) ⟨(Nat.le_of_ble_eq_true rfl), (Nat.le_of_ble_eq_true rfl)⟩) hK hP hD hS hA (va_recv hK hP (ci := 5) (q0 := 13) rfl rfl) rfl hl.1 rfl (Nat.le_of_ble_eq_true rfl) dX8_drive_131 ⟨(Nat.le_of_ble_eq_true rfl), (Nat.le_of_ble_eq_true rfl)⟩ (fun r_131 _ H locs hr_131 hP hD hS => ?_)
              subst hr_131
              have hP : va_P D vwCl (YW ct a y (KR a b ((nI (10)), (nI (0)), (-4), (-4)) R)) H := hP
              have hD : va_D A (YW ct a y (KR a b ((nI (10)), (nI (0)), (-4), (-4)) R)) := hD
              have e9 : f_go y rs (nI k1) (nI k2) = ((-3), y, ((nI (10)), (nI (0)), (-4), (-4))) := (by simp only [f_go, setAt, yMove, rsOf, yWr, c8_1, hclk1, c19_2, hclk2, c36_3, c66_4, c105_5, c123_6, p_in, p_worn, p_wi, p_creak, p_over, p_le0, p_lt1, not_true_eq_false, not_false_eq_true, if_true, if_false, and_true, true_and, and_false, false_and, or_true, true_or, or_false, false_or, and_self, or_self, iff_true, true_iff, iff_false, false_iff, decide_eq_true_eq, decide_true, decide_false, Int32.add_zero, Nat.add_zero, ne_eq, Bool.false_eq_true, eq_self])
              exact zIret () hx hb hr hlocks hK (by show va_P D vwCl (YW ct a (f_go y rs (nI k1) (nI k2)).2.1 (KR a b (f_go y rs (nI k1) (nI k2)).2.2 R)) H; rw [e9]; exact hP) (by show va_D A (YW ct a (f_go y rs (nI k1) (nI k2)).2.1 (KR a b (f_go y rs (nI k1) (nI k2)).2.2 R)); rw [e9]; exact hD) hS dX8_drive_134 (show (-3) = (f_go y rs (nI k1) (nI k2)).1 from (by rw [e9]))
        · skip
          refine lv_aload_n hx hb dX8_drive_69 rfl (lv_at hl 0 rfl) ?_
          refine va_get (ci := 7) (v := .ref (b 1)) hx hb hts h_X8 hown hK hP 14 rfl rfl 2 (by decide) f19 (fun _ h9 => h9) rfl dX8_drive_70 ?_
          refine lv_bipush (v := nI (9)) hx hb dX8_drive_73 (by decide) ?_
          refine lv_aload_n hx hb dX8_drive_75 rfl (lv_at hl 0 rfl) ?_
          refine va_get (ci := 7) (v := .ref (a 0)) hx hb hts h_X8 hown hK hP 14 rfl rfl 0 (by decide) f9 (fun _ h9 => h9) rfl dX8_drive_76 ?_
          refine lv_iload_n hx hb dX8_drive_79 rfl (lv_at hl 1 rfl) ?_
          refine zVI [.int (nI (k1))] [.int (nI (9)), .ref (b 1)] (kX9_weightOfAllOn (a) (y) (KR a b rs R) (nI (k1)) (show y_n y ≤ 12 from by omega)) hx hb hml hown hts (cwV 1 hts gX8_drive_X9_weightOfAllOn rfl rfl rfl (by decide +kernel) ⟨(Nat.le_of_ble_eq_true rfl), (Nat.le_of_ble_eq_true rfl)⟩) hK hP hD hS hA (va_recv hK hP (ci := 8) (q0 := 0) rfl rfl) rfl hl.1 rfl (Nat.le_of_ble_eq_true rfl) dX8_drive_80 ⟨(Nat.le_of_ble_eq_true rfl), (Nat.le_of_ble_eq_true rfl)⟩ (fun r_80 _ H locs hr_80 hP hD hS => ?_)
          subst hr_80
          have hP : va_P D vwCl (YW ct a y (KR a b rs R)) H := hP
          have hD : va_D A (YW ct a y (KR a b rs R)) := hD
          refine lv_aload_n hx hb dX8_drive_83 rfl (lv_at hl 0 rfl) ?_
          refine va_get (ci := 7) (v := .ref (a 0)) hx hb hts h_X8 hown hK hP 14 rfl rfl 0 (by decide) f9 (fun _ h9 => h9) rfl dX8_drive_84 ?_
          refine va_get (ci := 8) (v := .ref (a 8)) hx hb hts h_X9 hown hK hP 0 rfl rfl 10 (by decide) f64 (fun _ h9 => h9) rfl dX8_drive_87 ?_
          refine lv_iload_n hx hb dX8_drive_90 rfl (lv_at hl 2 rfl) ?_
          refine zIald (n := 5) (f := y_li y) (i := k2) hx hb hK hP 8 rfl (by omega) (by decide) dX8_drive_91 ?_
          refine lv_isub hx hb dX8_drive_92 ?_
          refine zVI [.int (nI (9)), .int (((t_all y (nI (k1))) - (y_li y (k2))))] [] (kX6_refuse (a) (y) (b) (rs) (R) (nI (9)) (((t_all y (nI (k1))) - (y_li y (k2))))) hx hb hml hown hts (cwV 2 hts gX8_drive_X6_refuse rfl rfl rfl (by decide +kernel) ⟨(Nat.le_of_ble_eq_true rfl), (Nat.le_of_ble_eq_true rfl)⟩) hK hP hD hS hA (va_recv hK hP (ci := 5) (q0 := 13) rfl rfl) rfl hl.1 rfl (Nat.le_of_ble_eq_true rfl) dX8_drive_93 ⟨(Nat.le_of_ble_eq_true rfl), (Nat.le_of_ble_eq_true rfl)⟩ (fun r_93 _ H locs hr_93 hP hD hS => ?_)
          subst hr_93
          have hP : va_P D vwCl (YW ct a y (KR a b ((nI (9)), (((t_all y (nI (k1))) - (y_li y (k2)))), (-4), (-4)) R)) H := hP
          have hD : va_D A (YW ct a y (KR a b ((nI (9)), (((t_all y (nI (k1))) - (y_li y (k2)))), (-4), (-4)) R)) := hD
          have e9 : f_go y rs (nI k1) (nI k2) = ((-3), y, ((nI (9)), (((t_all y (nI (k1))) - (y_li y (k2)))), (-4), (-4))) := (by simp only [f_go, setAt, yMove, rsOf, yWr, c8_1, hclk1, c19_2, hclk2, c36_3, c66_4, p_in, p_worn, p_wi, p_creak, p_over, p_le0, p_lt1, not_true_eq_false, not_false_eq_true, if_true, if_false, and_true, true_and, and_false, false_and, or_true, true_or, or_false, false_or, and_self, or_self, iff_true, true_iff, iff_false, false_iff, decide_eq_true_eq, decide_true, decide_false, Int32.add_zero, Nat.add_zero, ne_eq, Bool.false_eq_true, eq_self])
          exact zIret () hx hb hr hlocks hK (by show va_P D vwCl (YW ct a (f_go y rs (nI k1) (nI k2)).2.1 (KR a b (f_go y rs (nI k1) (nI k2)).2.2 R)) H; rw [e9]; exact hP) (by show va_D A (YW ct a (f_go y rs (nI k1) (nI k2)).2.1 (KR a b (f_go y rs (nI k1) (nI k2)).2.2 R)); rw [e9]; exact hD) hS dX8_drive_96 (show (-3) = (f_go y rs (nI k1) (nI k2)).1 from (by rw [e9]))
      · skip
        refine lv_aload_n hx hb dX8_drive_39 rfl (lv_at hl 0 rfl) ?_
        refine va_get (ci := 7) (v := .ref (b 1)) hx hb hts h_X8 hown hK hP 14 rfl rfl 2 (by decide) f19 (fun _ h9 => h9) rfl dX8_drive_40 ?_
        refine lv_bipush (v := nI (8)) hx hb dX8_drive_43 (by decide) ?_
        refine lv_aload_n hx hb dX8_drive_45 rfl (lv_at hl 0 rfl) ?_
        refine va_get (ci := 7) (v := .ref (a 0)) hx hb hts h_X8 hown hK hP 14 rfl rfl 0 (by decide) f9 (fun _ h9 => h9) rfl dX8_drive_46 ?_
        refine lv_iload_n hx hb dX8_drive_49 rfl (lv_at hl 1 rfl) ?_
        refine zVI [.int (nI (k1))] [.int (nI (8)), .ref (b 1)] (kX9_premisesOn (a) (y) (KR a b rs R) (nI (k1)) (show y_n y ≤ 12 from by omega)) hx hb hml hown hts (cwV 1 hts gX8_drive_X9_premisesOn rfl rfl rfl (by decide +kernel) ⟨(Nat.le_of_ble_eq_true rfl), (Nat.le_of_ble_eq_true rfl)⟩) hK hP hD hS hA (va_recv hK hP (ci := 8) (q0 := 0) rfl rfl) rfl hl.1 rfl (Nat.le_of_ble_eq_true rfl) dX8_drive_50 ⟨(Nat.le_of_ble_eq_true rfl), (Nat.le_of_ble_eq_true rfl)⟩ (fun r_50 _ H locs hr_50 hP hD hS => ?_)
        subst hr_50
        have hP : va_P D vwCl (YW ct a y (KR a b rs R)) H := hP
        have hD : va_D A (YW ct a y (KR a b rs R)) := hD
        refine zVI [.int (nI (8)), .int (nI (t_pn y (nI (k1))))] [] (kX6_refuse (a) (y) (b) (rs) (R) (nI (8)) (nI (t_pn y (nI (k1))))) hx hb hml hown hts (cwV 2 hts gX8_drive_X6_refuse rfl rfl rfl (by decide +kernel) ⟨(Nat.le_of_ble_eq_true rfl), (Nat.le_of_ble_eq_true rfl)⟩) hK hP hD hS hA (va_recv hK hP (ci := 5) (q0 := 13) rfl rfl) rfl hl.1 rfl (Nat.le_of_ble_eq_true rfl) dX8_drive_53 ⟨(Nat.le_of_ble_eq_true rfl), (Nat.le_of_ble_eq_true rfl)⟩ (fun r_53 _ H locs hr_53 hP hD hS => ?_)
        subst hr_53
        have hP : va_P D vwCl (YW ct a y (KR a b ((nI (8)), (nI (t_pn y (nI (k1)))), (-4), (-4)) R)) H := hP
        have hD : va_D A (YW ct a y (KR a b ((nI (8)), (nI (t_pn y (nI (k1)))), (-4), (-4)) R)) := hD
        have e9 : f_go y rs (nI k1) (nI k2) = ((-3), y, ((nI (8)), (nI (t_pn y (nI (k1)))), (-4), (-4))) := (by simp only [f_go, setAt, yMove, rsOf, yWr, c8_1, hclk1, c19_2, hclk2, eq_true c36_3, p_in, p_worn, p_wi, p_creak, p_over, p_le0, p_lt1, not_true_eq_false, not_false_eq_true, if_true, if_false, and_true, true_and, and_false, false_and, or_true, true_or, or_false, false_or, and_self, or_self, iff_true, true_iff, iff_false, false_iff, decide_eq_true_eq, decide_true, decide_false, Int32.add_zero, Nat.add_zero, ne_eq, Bool.false_eq_true, eq_self])
        exact zIret () hx hb hr hlocks hK (by show va_P D vwCl (YW ct a (f_go y rs (nI k1) (nI k2)).2.1 (KR a b (f_go y rs (nI k1) (nI k2)).2.2 R)) H; rw [e9]; exact hP) (by show va_D A (YW ct a (f_go y rs (nI k1) (nI k2)).2.1 (KR a b (f_go y rs (nI k1) (nI k2)).2.2 R)); rw [e9]; exact hD) hS dX8_drive_56 (show (-3) = (f_go y rs (nI k1) (nI k2)).1 from (by rw [e9]))
    · skip
      refine lv_iconst (v := (-1)) hx hb dX8_drive_22 (by decide) ?_
      have e9 : f_go y rs (nI k1) x2 = ((-1), y, rs) := (by simp only [f_go, setAt, yMove, rsOf, yWr, c8_1, hclk1, c19_2, p_in, p_worn, p_wi, p_creak, p_over, p_le0, p_lt1, not_true_eq_false, not_false_eq_true, if_true, if_false, and_true, true_and, and_false, false_and, or_true, true_or, or_false, false_or, and_self, or_self, iff_true, true_iff, iff_false, false_iff, decide_eq_true_eq, decide_true, decide_false, Int32.add_zero, Nat.add_zero, ne_eq, Bool.false_eq_true, eq_self])
      exact zIret () hx hb hr hlocks hK (by show va_P D vwCl (YW ct a (f_go y rs (nI k1) x2).2.1 (KR a b (f_go y rs (nI k1) x2).2.2 R)) H; rw [e9]; exact hP) (by show va_D A (YW ct a (f_go y rs (nI k1) x2).2.1 (KR a b (f_go y rs (nI k1) x2).2.2 R)); rw [e9]; exact hD) hS dX8_drive_23 (show (-1) = (f_go y rs (nI k1) x2).1 from (by rw [e9]))
abbrev rmX8_greaseAxles : Room := { frames := 4, cells := 0, slots := 0, locals := 86 }
theorem in_X8_greaseAxles_X8 : ∀ w ∈ u_ws RX8 TX8 3, w ∈ wsX8_greaseAxles := by decide +kernel
set_option maxHeartbeats 4000000 in
set_option maxRecDepth 100000 in
theorem kX8_greaseAxles {D : va_G} {ct : Nat → ClassId} {l : Launch} (a : Nat → Nat) (y : YS) (b : Nat → Nat) (rs : RS) (R : va_W) (x1 : Int32) (hc : y_cn y ≤ 4) : MI D ct l yX8_greaseAxles wsX8_greaseAxles rmX8_greaseAxles (YW ct a y (KR a b rs R)) [.ref (b 2), .int (x1)] (fun r0 (_ : Unit) => r0 = (f_grease y rs x1).1) (fun _ : Unit => YW ct a (f_grease y rs x1).2.1 (KR a b (f_grease y rs x1).2.2 R)) := by
  refine MIof (cc := cX8_greaseAxles) (maxL := 3) (ret := (some .int)) (by decide) rfl (Nat.le_of_ble_eq_true rfl) ?_
  intro p e s m args below meth c A H locs F hP hK hD hS hA ls hl
  obtain ⟨hx, hb, hr, hlocks, hml, hown, hts, hin⟩ := F
  have hl : lv_has ls 3 [(0, .ref (b 2)), (1, .int (x1))] := hl
  have h_X8 := in_X8_greaseAxles_X8
  have f9 := hts (.fieldLink RX8 9 "CartArguments$Works" "yard" "LCartArguments$Yard;") (by decide +kernel)
  have f19 := hts (.fieldLink RX8 19 "CartArguments$Works" "reasons" "LCartArguments$Reasons;") (by decide +kernel)
  refine lv_aload_n hx hb dX8_greaseAxles_0 rfl (lv_at hl 0 rfl) ?_
  refine va_get (ci := 7) (v := .ref (a 0)) hx hb hts h_X8 hown hK hP 14 rfl rfl 0 (by decide) f9 (fun _ h9 => h9) rfl dX8_greaseAxles_1 ?_
  refine lv_iload_n hx hb dX8_greaseAxles_4 rfl (lv_at hl 1 rfl) ?_
  refine zVI [.int (x1)] [] (kX9_isCart (a) (y) (KR a b rs R) (x1)) hx hb hml hown hts (cwV 1 hts gX8_greaseAxles_X9_isCart rfl rfl rfl (by decide +kernel) ⟨(Nat.le_of_ble_eq_true rfl), (Nat.le_of_ble_eq_true rfl)⟩) hK hP hD hS hA (va_recv hK hP (ci := 8) (q0 := 0) rfl rfl) rfl hl.1 rfl (Nat.le_of_ble_eq_true rfl) dX8_greaseAxles_5 ⟨(Nat.le_of_ble_eq_true rfl), (Nat.le_of_ble_eq_true rfl)⟩ (fun r_5 _ H locs hr_5 hP hD hS => ?_)
  subst hr_5
  have hP : va_P D vwCl (YW ct a y (KR a b rs R)) H := hP
  have hD : va_D A (YW ct a y (KR a b rs R)) := hD
  refine zB_if_ne (tgt := 13) hx hb dX8_greaseAxles_8 (by decide) (fun c8_1 => ?_) (fun c8_1 => ?_)
  · skip
    obtain ⟨k1, hk1, ek1⟩ := p_in_ex (n := y_cn y) (by omega) c8_1
    subst ek1
    have hclk1 : (nI k1).toNatClampNeg = k1 := nI_clamp (by omega)
    refine lv_aload_n hx hb dX8_greaseAxles_13 rfl (lv_at hl 0 rfl) ?_
    refine va_get (ci := 7) (v := .ref (a 0)) hx hb hts h_X8 hown hK hP 14 rfl rfl 0 (by decide) f9 (fun _ h9 => h9) rfl dX8_greaseAxles_14 ?_
    refine lv_iload_n hx hb dX8_greaseAxles_17 rfl (lv_at hl 1 rfl) ?_
    refine lv_iconst (v := nI (0)) hx hb dX8_greaseAxles_18 (by decide) ?_
    refine zVF [.int (nI (k1)), .int (nI (0))] [] (kX9_wearOf (a) (y) (KR a b rs R) (k1) (nI (0)) (show (k1) < 4 from by omega)) hx hb hml hown hts (cwV 2 hts gX8_greaseAxles_X9_wearOf rfl rfl rfl (by decide +kernel) ⟨(Nat.le_of_ble_eq_true rfl), (Nat.le_of_ble_eq_true rfl)⟩) hK hP hD hS hA (va_recv hK hP (ci := 8) (q0 := 0) rfl rfl) rfl hl.1 rfl (Nat.le_of_ble_eq_true rfl) dX8_greaseAxles_19 ⟨(Nat.le_of_ble_eq_true rfl), (Nat.le_of_ble_eq_true rfl)⟩ (fun r_19 _ H locs hr_19 hP hD hS => ?_)
    subst hr_19
    have hP : va_P D vwCl (YW ct a y (KR a b rs R)) H := hP
    have hD : va_D A (YW ct a y (KR a b rs R)) := hD
    refine lv_fconst0 hx hb dX8_greaseAxles_22 ?_
    refine lv_fcmp hx hb dX8_greaseAxles_23 ?_
    refine lv_if_gt (tgt := 52) hx hb dX8_greaseAxles_24 (by decide) (fun c24_2 => ?_) (fun c24_2 => ?_)
    · skip
      refine lv_aload_n hx hb dX8_greaseAxles_52 rfl (lv_at hl 0 rfl) ?_
      refine va_get (ci := 7) (v := .ref (a 0)) hx hb hts h_X8 hown hK hP 14 rfl rfl 0 (by decide) f9 (fun _ h9 => h9) rfl dX8_greaseAxles_53 ?_
      refine lv_iload_n hx hb dX8_greaseAxles_56 rfl (lv_at hl 1 rfl) ?_
      refine zVI [.int (nI (k1))] [] (kX9_wornOutAxles (a) (y) (KR a b rs R) (k1) (show (k1) < 4 from by omega)) hx hb hml hown hts (cwV 1 hts gX8_greaseAxles_X9_wornOutAxles rfl rfl rfl (by decide +kernel) ⟨(Nat.le_of_ble_eq_true rfl), (Nat.le_of_ble_eq_true rfl)⟩) hK hP hD hS hA (va_recv hK hP (ci := 8) (q0 := 0) rfl rfl) rfl hl.1 rfl (Nat.le_of_ble_eq_true rfl) dX8_greaseAxles_57 ⟨(Nat.le_of_ble_eq_true rfl), (Nat.le_of_ble_eq_true rfl)⟩ (fun r_57 _ H locs hr_57 hP hD hS => ?_)
      subst hr_57
      have hP : va_P D vwCl (YW ct a y (KR a b rs R)) H := hP
      have hD : va_D A (YW ct a y (KR a b rs R)) := hD
      have q57 := t_wn_le y (k1)
      refine lv_istore_n (lv' := [(2, .int (nI (t_wn y (k1)))), (0, .ref (b 2)), (1, .int (nI (k1)))]) hx hb dX8_greaseAxles_60 rfl hl (by decide) rfl (fun ls hl => ?_)
      refine lv_aload_n hx hb dX8_greaseAxles_61 rfl (lv_at hl 1 rfl) ?_
      refine va_get (ci := 7) (v := .ref (a 0)) hx hb hts h_X8 hown hK hP 14 rfl rfl 0 (by decide) f9 (fun _ h9 => h9) rfl dX8_greaseAxles_62 ?_
      refine lv_iload_n hx hb dX8_greaseAxles_65 rfl (lv_at hl 2 rfl) ?_
      refine lv_iconst (v := nI (0)) hx hb dX8_greaseAxles_66 (by decide) ?_
      refine lv_fconst0 hx hb dX8_greaseAxles_67 ?_
      refine zVV [.int (nI (k1)), .int (nI (0)), .float (FP.fconst0)] [] (kX9_setWear (a) (y) (KR a b rs R) (k1) (nI (0)) (FP.fconst0) (show (k1) < 4 from by omega)) hx hb hml hown hts (cwV 3 hts gX8_greaseAxles_X9_setWear rfl rfl rfl (by decide +kernel) ⟨(Nat.le_of_ble_eq_true rfl), (Nat.le_of_ble_eq_true rfl)⟩) hK hP hD hS hA (va_recv hK hP (ci := 8) (q0 := 0) rfl rfl) rfl hl.1 rfl (Nat.le_of_ble_eq_true rfl) dX8_greaseAxles_68 ⟨(Nat.le_of_ble_eq_true rfl), (Nat.le_of_ble_eq_true rfl)⟩ (fun _ H locs hr_68 hP hD hS => ?_)
      have hP : va_P D vwCl (YW ct a ((y_n y), (y_kd y), (y_w y), (y_cu y), (y_pl y), (y_cn y), (y_st y), (vf_upd (y_wr y) (wix (k1) (nI (0))) (FP.fconst0)), (y_tr y), (y_rn y), (y_li y), (y_mi y), (y_ra y), (y_rt y), (y_tl y), (y_mm y)) (KR a b rs R)) H := hP
      have hD : va_D A (YW ct a ((y_n y), (y_kd y), (y_w y), (y_cu y), (y_pl y), (y_cn y), (y_st y), (vf_upd (y_wr y) (wix (k1) (nI (0))) (FP.fconst0)), (y_tr y), (y_rn y), (y_li y), (y_mi y), (y_ra y), (y_rt y), (y_tl y), (y_mm y)) (KR a b rs R)) := hD
      refine lv_aload_n hx hb dX8_greaseAxles_71 rfl (lv_at hl 1 rfl) ?_
      refine va_get (ci := 7) (v := .ref (a 0)) hx hb hts h_X8 hown hK hP 14 rfl rfl 0 (by decide) f9 (fun _ h9 => h9) rfl dX8_greaseAxles_72 ?_
      refine lv_iload_n hx hb dX8_greaseAxles_75 rfl (lv_at hl 2 rfl) ?_
      refine lv_iconst (v := nI (1)) hx hb dX8_greaseAxles_76 (by decide) ?_
      refine lv_fconst0 hx hb dX8_greaseAxles_77 ?_
      refine zVV [.int (nI (k1)), .int (nI (1)), .float (FP.fconst0)] [] (kX9_setWear (a) (((y_n y), (y_kd y), (y_w y), (y_cu y), (y_pl y), (y_cn y), (y_st y), (vf_upd (y_wr y) (wix (k1) (nI (0))) (FP.fconst0)), (y_tr y), (y_rn y), (y_li y), (y_mi y), (y_ra y), (y_rt y), (y_tl y), (y_mm y))) (KR a b rs R) (k1) (nI (1)) (FP.fconst0) (show (k1) < 4 from by omega)) hx hb hml hown hts (cwV 3 hts gX8_greaseAxles_X9_setWear rfl rfl rfl (by decide +kernel) ⟨(Nat.le_of_ble_eq_true rfl), (Nat.le_of_ble_eq_true rfl)⟩) hK hP hD hS hA (va_recv hK hP (ci := 8) (q0 := 0) rfl rfl) rfl hl.1 rfl (Nat.le_of_ble_eq_true rfl) dX8_greaseAxles_78 ⟨(Nat.le_of_ble_eq_true rfl), (Nat.le_of_ble_eq_true rfl)⟩ (fun _ H locs hr_78 hP hD hS => ?_)
      have hP : va_P D vwCl (YW ct a ((y_n y), (y_kd y), (y_w y), (y_cu y), (y_pl y), (y_cn y), (y_st y), (vf_upd ((vf_upd (y_wr y) (wix (k1) (nI (0))) (FP.fconst0))) (wix (k1) (nI (1))) (FP.fconst0)), (y_tr y), (y_rn y), (y_li y), (y_mi y), (y_ra y), (y_rt y), (y_tl y), (y_mm y)) (KR a b rs R)) H := hP
      have hD : va_D A (YW ct a ((y_n y), (y_kd y), (y_w y), (y_cu y), (y_pl y), (y_cn y), (y_st y), (vf_upd ((vf_upd (y_wr y) (wix (k1) (nI (0))) (FP.fconst0))) (wix (k1) (nI (1))) (FP.fconst0)), (y_tr y), (y_rn y), (y_li y), (y_mi y), (y_ra y), (y_rt y), (y_tl y), (y_mm y)) (KR a b rs R)) := hD
      refine lv_iload_n hx hb dX8_greaseAxles_81 rfl (lv_at hl 0 rfl) ?_
      have e9 : f_grease y rs (nI k1) = (nI (t_wn y (k1)), ((y_n y), (y_kd y), (y_w y), (y_cu y), (y_pl y), (y_cn y), (y_st y), (vf_upd ((vf_upd (y_wr y) (wix (k1) (nI (0))) (FP.fconst0))) (wix (k1) (nI (1))) (FP.fconst0)), (y_tr y), (y_rn y), (y_li y), (y_mi y), (y_ra y), (y_rt y), (y_tl y), (y_mm y)), rs) := (by simp only [f_grease, setAt, yMove, rsOf, yWr, c8_1, hclk1, c24_2, p_in, p_worn, p_wi, p_creak, p_over, p_le0, p_lt1, not_true_eq_false, not_false_eq_true, if_true, if_false, and_true, true_and, and_false, false_and, or_true, true_or, or_false, false_or, and_self, or_self, iff_true, true_iff, iff_false, false_iff, decide_eq_true_eq, decide_true, decide_false, Int32.add_zero, Nat.add_zero, ne_eq, Bool.false_eq_true, eq_self])
      exact zIret () hx hb hr hlocks hK (by show va_P D vwCl (YW ct a (f_grease y rs (nI k1)).2.1 (KR a b (f_grease y rs (nI k1)).2.2 R)) H; rw [e9]; exact hP) (by show va_D A (YW ct a (f_grease y rs (nI k1)).2.1 (KR a b (f_grease y rs (nI k1)).2.2 R)); rw [e9]; exact hD) hS dX8_greaseAxles_82 (show nI (t_wn y (k1)) = (f_grease y rs (nI k1)).1 from (by rw [e9]))
    · skip
      refine lv_aload_n hx hb dX8_greaseAxles_27 rfl (lv_at hl 0 rfl) ?_
      refine va_get (ci := 7) (v := .ref (a 0)) hx hb hts h_X8 hown hK hP 14 rfl rfl 0 (by decide) f9 (fun _ h9 => h9) rfl dX8_greaseAxles_28 ?_
      refine lv_iload_n hx hb dX8_greaseAxles_31 rfl (lv_at hl 1 rfl) ?_
      refine lv_iconst (v := nI (1)) hx hb dX8_greaseAxles_32 (by decide) ?_
      refine zVF [.int (nI (k1)), .int (nI (1))] [] (kX9_wearOf (a) (y) (KR a b rs R) (k1) (nI (1)) (show (k1) < 4 from by omega)) hx hb hml hown hts (cwV 2 hts gX8_greaseAxles_X9_wearOf rfl rfl rfl (by decide +kernel) ⟨(Nat.le_of_ble_eq_true rfl), (Nat.le_of_ble_eq_true rfl)⟩) hK hP hD hS hA (va_recv hK hP (ci := 8) (q0 := 0) rfl rfl) rfl hl.1 rfl (Nat.le_of_ble_eq_true rfl) dX8_greaseAxles_33 ⟨(Nat.le_of_ble_eq_true rfl), (Nat.le_of_ble_eq_true rfl)⟩ (fun r_33 _ H locs hr_33 hP hD hS => ?_)
      subst hr_33
      have hP : va_P D vwCl (YW ct a y (KR a b rs R)) H := hP
      have hD : va_D A (YW ct a y (KR a b rs R)) := hD
      refine lv_fconst0 hx hb dX8_greaseAxles_36 ?_
      refine lv_fcmp hx hb dX8_greaseAxles_37 ?_
      refine lv_if_gt (tgt := 52) hx hb dX8_greaseAxles_38 (by decide) (fun c38_3 => ?_) (fun c38_3 => ?_)
      · skip
        refine lv_aload_n hx hb dX8_greaseAxles_52 rfl (lv_at hl 0 rfl) ?_
        refine va_get (ci := 7) (v := .ref (a 0)) hx hb hts h_X8 hown hK hP 14 rfl rfl 0 (by decide) f9 (fun _ h9 => h9) rfl dX8_greaseAxles_53 ?_
        refine lv_iload_n hx hb dX8_greaseAxles_56 rfl (lv_at hl 1 rfl) ?_
        refine zVI [.int (nI (k1))] [] (kX9_wornOutAxles (a) (y) (KR a b rs R) (k1) (show (k1) < 4 from by omega)) hx hb hml hown hts (cwV 1 hts gX8_greaseAxles_X9_wornOutAxles rfl rfl rfl (by decide +kernel) ⟨(Nat.le_of_ble_eq_true rfl), (Nat.le_of_ble_eq_true rfl)⟩) hK hP hD hS hA (va_recv hK hP (ci := 8) (q0 := 0) rfl rfl) rfl hl.1 rfl (Nat.le_of_ble_eq_true rfl) dX8_greaseAxles_57 ⟨(Nat.le_of_ble_eq_true rfl), (Nat.le_of_ble_eq_true rfl)⟩ (fun r_57 _ H locs hr_57 hP hD hS => ?_)
        subst hr_57
        have hP : va_P D vwCl (YW ct a y (KR a b rs R)) H := hP
        have hD : va_D A (YW ct a y (KR a b rs R)) := hD
        have q57 := t_wn_le y (k1)
        refine lv_istore_n (lv' := [(2, .int (nI (t_wn y (k1)))), (0, .ref (b 2)), (1, .int (nI (k1)))]) hx hb dX8_greaseAxles_60 rfl hl (by decide) rfl (fun ls hl => ?_)
        refine lv_aload_n hx hb dX8_greaseAxles_61 rfl (lv_at hl 1 rfl) ?_
        refine va_get (ci := 7) (v := .ref (a 0)) hx hb hts h_X8 hown hK hP 14 rfl rfl 0 (by decide) f9 (fun _ h9 => h9) rfl dX8_greaseAxles_62 ?_
        refine lv_iload_n hx hb dX8_greaseAxles_65 rfl (lv_at hl 2 rfl) ?_
        refine lv_iconst (v := nI (0)) hx hb dX8_greaseAxles_66 (by decide) ?_
        refine lv_fconst0 hx hb dX8_greaseAxles_67 ?_
        refine zVV [.int (nI (k1)), .int (nI (0)), .float (FP.fconst0)] [] (kX9_setWear (a) (y) (KR a b rs R) (k1) (nI (0)) (FP.fconst0) (show (k1) < 4 from by omega)) hx hb hml hown hts (cwV 3 hts gX8_greaseAxles_X9_setWear rfl rfl rfl (by decide +kernel) ⟨(Nat.le_of_ble_eq_true rfl), (Nat.le_of_ble_eq_true rfl)⟩) hK hP hD hS hA (va_recv hK hP (ci := 8) (q0 := 0) rfl rfl) rfl hl.1 rfl (Nat.le_of_ble_eq_true rfl) dX8_greaseAxles_68 ⟨(Nat.le_of_ble_eq_true rfl), (Nat.le_of_ble_eq_true rfl)⟩ (fun _ H locs hr_68 hP hD hS => ?_)
        have hP : va_P D vwCl (YW ct a ((y_n y), (y_kd y), (y_w y), (y_cu y), (y_pl y), (y_cn y), (y_st y), (vf_upd (y_wr y) (wix (k1) (nI (0))) (FP.fconst0)), (y_tr y), (y_rn y), (y_li y), (y_mi y), (y_ra y), (y_rt y), (y_tl y), (y_mm y)) (KR a b rs R)) H := hP
        have hD : va_D A (YW ct a ((y_n y), (y_kd y), (y_w y), (y_cu y), (y_pl y), (y_cn y), (y_st y), (vf_upd (y_wr y) (wix (k1) (nI (0))) (FP.fconst0)), (y_tr y), (y_rn y), (y_li y), (y_mi y), (y_ra y), (y_rt y), (y_tl y), (y_mm y)) (KR a b rs R)) := hD
        refine lv_aload_n hx hb dX8_greaseAxles_71 rfl (lv_at hl 1 rfl) ?_
        refine va_get (ci := 7) (v := .ref (a 0)) hx hb hts h_X8 hown hK hP 14 rfl rfl 0 (by decide) f9 (fun _ h9 => h9) rfl dX8_greaseAxles_72 ?_
        refine lv_iload_n hx hb dX8_greaseAxles_75 rfl (lv_at hl 2 rfl) ?_
        refine lv_iconst (v := nI (1)) hx hb dX8_greaseAxles_76 (by decide) ?_
        refine lv_fconst0 hx hb dX8_greaseAxles_77 ?_
        refine zVV [.int (nI (k1)), .int (nI (1)), .float (FP.fconst0)] [] (kX9_setWear (a) (((y_n y), (y_kd y), (y_w y), (y_cu y), (y_pl y), (y_cn y), (y_st y), (vf_upd (y_wr y) (wix (k1) (nI (0))) (FP.fconst0)), (y_tr y), (y_rn y), (y_li y), (y_mi y), (y_ra y), (y_rt y), (y_tl y), (y_mm y))) (KR a b rs R) (k1) (nI (1)) (FP.fconst0) (show (k1) < 4 from by omega)) hx hb hml hown hts (cwV 3 hts gX8_greaseAxles_X9_setWear rfl rfl rfl (by decide +kernel) ⟨(Nat.le_of_ble_eq_true rfl), (Nat.le_of_ble_eq_true rfl)⟩) hK hP hD hS hA (va_recv hK hP (ci := 8) (q0 := 0) rfl rfl) rfl hl.1 rfl (Nat.le_of_ble_eq_true rfl) dX8_greaseAxles_78 ⟨(Nat.le_of_ble_eq_true rfl), (Nat.le_of_ble_eq_true rfl)⟩ (fun _ H locs hr_78 hP hD hS => ?_)
        have hP : va_P D vwCl (YW ct a ((y_n y), (y_kd y), (y_w y), (y_cu y), (y_pl y), (y_cn y), (y_st y), (vf_upd ((vf_upd (y_wr y) (wix (k1) (nI (0))) (FP.fconst0))) (wix (k1) (nI (1))) (FP.fconst0)), (y_tr y), (y_rn y), (y_li y), (y_mi y), (y_ra y), (y_rt y), (y_tl y), (y_mm y)) (KR a b rs R)) H := hP
        have hD : va_D A (YW ct a ((y_n y), (y_kd y), (y_w y), (y_cu y), (y_pl y), (y_cn y), (y_st y), (vf_upd ((vf_upd (y_wr y) (wix (k1) (nI (0))) (FP.fconst0))) (wix (k1) (nI (1))) (FP.fconst0)), (y_tr y), (y_rn y), (y_li y), (y_mi y), (y_ra y), (y_rt y), (y_tl y), (y_mm y)) (KR a b rs R)) := hD
        refine lv_iload_n hx hb dX8_greaseAxles_81 rfl (lv_at hl 0 rfl) ?_
        have e9 : f_grease y rs (nI k1) = (nI (t_wn y (k1)), ((y_n y), (y_kd y), (y_w y), (y_cu y), (y_pl y), (y_cn y), (y_st y), (vf_upd ((vf_upd (y_wr y) (wix (k1) (nI (0))) (FP.fconst0))) (wix (k1) (nI (1))) (FP.fconst0)), (y_tr y), (y_rn y), (y_li y), (y_mi y), (y_ra y), (y_rt y), (y_tl y), (y_mm y)), rs) := (by simp only [f_grease, setAt, yMove, rsOf, yWr, c8_1, hclk1, c24_2, c38_3, p_in, p_worn, p_wi, p_creak, p_over, p_le0, p_lt1, not_true_eq_false, not_false_eq_true, if_true, if_false, and_true, true_and, and_false, false_and, or_true, true_or, or_false, false_or, and_self, or_self, iff_true, true_iff, iff_false, false_iff, decide_eq_true_eq, decide_true, decide_false, Int32.add_zero, Nat.add_zero, ne_eq, Bool.false_eq_true, eq_self])
        exact zIret () hx hb hr hlocks hK (by show va_P D vwCl (YW ct a (f_grease y rs (nI k1)).2.1 (KR a b (f_grease y rs (nI k1)).2.2 R)) H; rw [e9]; exact hP) (by show va_D A (YW ct a (f_grease y rs (nI k1)).2.1 (KR a b (f_grease y rs (nI k1)).2.2 R)); rw [e9]; exact hD) hS dX8_greaseAxles_82 (show nI (t_wn y (k1)) = (f_grease y rs (nI k1)).1 from (by rw [e9]))
      · skip
        refine lv_aload_n hx hb dX8_greaseAxles_41 rfl (lv_at hl 0 rfl) ?_
        refine va_get (ci := 7) (v := .ref (b 1)) hx hb hts h_X8 hown hK hP 14 rfl rfl 2 (by decide) f19 (fun _ h9 => h9) rfl dX8_greaseAxles_42 ?_
        refine lv_bipush (v := nI (11)) hx hb dX8_greaseAxles_45 (by decide) ?_
        refine lv_iload_n hx hb dX8_greaseAxles_47 rfl (lv_at hl 1 rfl) ?_
        refine zVI [.int (nI (11)), .int (nI (k1))] [] (kX6_refuse (a) (y) (b) (rs) (R) (nI (11)) (nI (k1))) hx hb hml hown hts (cwV 2 hts gX8_greaseAxles_X6_refuse rfl rfl rfl (by decide +kernel) ⟨(Nat.le_of_ble_eq_true rfl), (Nat.le_of_ble_eq_true rfl)⟩) hK hP hD hS hA (va_recv hK hP (ci := 5) (q0 := 13) rfl rfl) rfl hl.1 rfl (Nat.le_of_ble_eq_true rfl) dX8_greaseAxles_48 ⟨(Nat.le_of_ble_eq_true rfl), (Nat.le_of_ble_eq_true rfl)⟩ (fun r_48 _ H locs hr_48 hP hD hS => ?_)
        subst hr_48
        have hP : va_P D vwCl (YW ct a y (KR a b ((nI (11)), (nI (k1)), (-4), (-4)) R)) H := hP
        have hD : va_D A (YW ct a y (KR a b ((nI (11)), (nI (k1)), (-4), (-4)) R)) := hD
        have e9 : f_grease y rs (nI k1) = ((-3), y, ((nI (11)), (nI (k1)), (-4), (-4))) := (by simp only [f_grease, setAt, yMove, rsOf, yWr, c8_1, hclk1, c24_2, c38_3, p_in, p_worn, p_wi, p_creak, p_over, p_le0, p_lt1, not_true_eq_false, not_false_eq_true, if_true, if_false, and_true, true_and, and_false, false_and, or_true, true_or, or_false, false_or, and_self, or_self, iff_true, true_iff, iff_false, false_iff, decide_eq_true_eq, decide_true, decide_false, Int32.add_zero, Nat.add_zero, ne_eq, Bool.false_eq_true, eq_self])
        exact zIret () hx hb hr hlocks hK (by show va_P D vwCl (YW ct a (f_grease y rs (nI k1)).2.1 (KR a b (f_grease y rs (nI k1)).2.2 R)) H; rw [e9]; exact hP) (by show va_D A (YW ct a (f_grease y rs (nI k1)).2.1 (KR a b (f_grease y rs (nI k1)).2.2 R)); rw [e9]; exact hD) hS dX8_greaseAxles_51 (show (-3) = (f_grease y rs (nI k1)).1 from (by rw [e9]))
  · skip
    refine lv_iconst (v := (-1)) hx hb dX8_greaseAxles_11 (by decide) ?_
    have e9 : f_grease y rs x1 = ((-1), y, rs) := (by simp only [f_grease, setAt, yMove, rsOf, yWr, c8_1, p_in, p_worn, p_wi, p_creak, p_over, p_le0, p_lt1, not_true_eq_false, not_false_eq_true, if_true, if_false, and_true, true_and, and_false, false_and, or_true, true_or, or_false, false_or, and_self, or_self, iff_true, true_iff, iff_false, false_iff, decide_eq_true_eq, decide_true, decide_false, Int32.add_zero, Nat.add_zero, ne_eq, Bool.false_eq_true, eq_self])
    exact zIret () hx hb hr hlocks hK (by show va_P D vwCl (YW ct a (f_grease y rs x1).2.1 (KR a b (f_grease y rs x1).2.2 R)) H; rw [e9]; exact hP) (by show va_D A (YW ct a (f_grease y rs x1).2.1 (KR a b (f_grease y rs x1).2.2 R)); rw [e9]; exact hD) hS dX8_greaseAxles_12 (show (-1) = (f_grease y rs x1).1 from (by rw [e9]))
