/-! THE CLASS: orders, the changes before -/
abbrev rmX5_isThingAhead : Room := { frames := 0, cells := 0, slots := 0, locals := 0 }
theorem in_X5_isThingAhead_X5 : ∀ w ∈ u_ws RX5 TX5 2, w ∈ wsX5_isThingAhead := by decide +kernel
theorem in_X5_isThingAhead_X9 : ∀ w ∈ u_ws RX9 TX9 16, w ∈ wsX5_isThingAhead := by decide +kernel
set_option maxHeartbeats 4000000 in
set_option maxRecDepth 100000 in
theorem kX5_isThingAhead {D : va_G} {ct : Nat → ClassId} {l : Launch} (a : Nat → Nat) (y : YS) (b : Nat → Nat) (rs : RS) (R : va_W) (j : Nat) (k : Nat) (hn : y_n y ≤ 12) (hj : j < y_n y) (hk : k < y_n y) : MI D ct l yX5_isThingAhead wsX5_isThingAhead rmX5_isThingAhead (YW ct a y (KR a b rs R)) [.ref (b 3), .int (nI (j)), .int (nI (k))] (fun r0 (_ : Unit) => r0 = bI (pcT y j k)) (fun _ : Unit => YW ct a y (KR a b rs R)) := by
  refine MIof (cc := cX5_isThingAhead) (maxL := 3) (ret := (some .boolean)) (by decide) rfl (Nat.le_of_ble_eq_true rfl) ?_
  intro p e s m args below meth c A H locs F hP hK hD hS hA ls hl
  obtain ⟨hx, hb, hr, hlocks, hml, hown, hts, hin⟩ := F
  have hl : lv_has ls 3 [(0, .ref (b 3)), (1, .int (nI (j))), (2, .int (nI (k)))] := hl
  have h_X5 := in_X5_isThingAhead_X5
  have h_X9 := in_X5_isThingAhead_X9
  have f9 := hts (.fieldLink RX5 9 "CartArguments$Orders" "yard" "LCartArguments$Yard;") (by decide +kernel)
  have f29 := hts (.fieldLink RX5 29 "CartArguments$Yard" "weights" "[I") (by decide +kernel)
  have f33 := hts (.fieldLink RX5 33 "CartArguments$Yard" "kinds" "[I") (by decide +kernel)
  refine lv_aload_n hx hb dX5_isThingAhead_0 rfl (lv_at hl 0 rfl) ?_
  refine va_get (ci := 4) (v := .ref (a 0)) hx hb hts h_X5 hown hK hP 15 rfl rfl 0 (by decide) f9 (fun _ h9 => h9) rfl dX5_isThingAhead_1 ?_
  refine va_get (ci := 8) (v := .ref (a 2)) hx hb hts h_X9 hown hK hP 0 rfl rfl 2 (by decide) f29 (fun _ h9 => h9) rfl dX5_isThingAhead_4 ?_
  refine lv_iload_n hx hb dX5_isThingAhead_7 rfl (lv_at hl 1 rfl) ?_
  refine zIald (n := 12) (f := y_w y) (i := j) hx hb hK hP 2 rfl (by omega) (by decide) dX5_isThingAhead_8 ?_
  refine lv_aload_n hx hb dX5_isThingAhead_9 rfl (lv_at hl 0 rfl) ?_
  refine va_get (ci := 4) (v := .ref (a 0)) hx hb hts h_X5 hown hK hP 15 rfl rfl 0 (by decide) f9 (fun _ h9 => h9) rfl dX5_isThingAhead_10 ?_
  refine va_get (ci := 8) (v := .ref (a 2)) hx hb hts h_X9 hown hK hP 0 rfl rfl 2 (by decide) f29 (fun _ h9 => h9) rfl dX5_isThingAhead_13 ?_
  refine lv_iload_n hx hb dX5_isThingAhead_16 rfl (lv_at hl 2 rfl) ?_
  refine zIald (n := 12) (f := y_w y) (i := k) hx hb hK hP 2 rfl (by omega) (by decide) dX5_isThingAhead_17 ?_
  refine lv_icmp_eq (tgt := 48) hx hb dX5_isThingAhead_18 (by decide) (fun c18_1 => ?_) (fun c18_1 => ?_)
  · skip
    refine lv_aload_n hx hb dX5_isThingAhead_48 rfl (lv_at hl 0 rfl) ?_
    refine va_get (ci := 4) (v := .ref (a 0)) hx hb hts h_X5 hown hK hP 15 rfl rfl 0 (by decide) f9 (fun _ h9 => h9) rfl dX5_isThingAhead_49 ?_
    refine va_get (ci := 8) (v := .ref (a 1)) hx hb hts h_X9 hown hK hP 0 rfl rfl 1 (by decide) f33 (fun _ h9 => h9) rfl dX5_isThingAhead_52 ?_
    refine lv_iload_n hx hb dX5_isThingAhead_55 rfl (lv_at hl 1 rfl) ?_
    refine zIald (n := 12) (f := y_kd y) (i := j) hx hb hK hP 1 rfl (by omega) (by decide) dX5_isThingAhead_56 ?_
    refine lv_aload_n hx hb dX5_isThingAhead_57 rfl (lv_at hl 0 rfl) ?_
    refine va_get (ci := 4) (v := .ref (a 0)) hx hb hts h_X5 hown hK hP 15 rfl rfl 0 (by decide) f9 (fun _ h9 => h9) rfl dX5_isThingAhead_58 ?_
    refine va_get (ci := 8) (v := .ref (a 1)) hx hb hts h_X9 hown hK hP 0 rfl rfl 1 (by decide) f33 (fun _ h9 => h9) rfl dX5_isThingAhead_61 ?_
    refine lv_iload_n hx hb dX5_isThingAhead_64 rfl (lv_at hl 2 rfl) ?_
    refine zIald (n := 12) (f := y_kd y) (i := k) hx hb hK hP 1 rfl (by omega) (by decide) dX5_isThingAhead_65 ?_
    refine lv_icmp_eq (tgt := 87) hx hb dX5_isThingAhead_66 (by decide) (fun c66_2 => ?_) (fun c66_2 => ?_)
    · skip
      refine lv_iload_n hx hb dX5_isThingAhead_87 rfl (lv_at hl 1 rfl) ?_
      refine lv_iload_n hx hb dX5_isThingAhead_88 rfl (lv_at hl 2 rfl) ?_
      refine zN_icmp_ge (tgt := 96) hx hb (by omega) (by omega) dX5_isThingAhead_89 (by decide) (fun c89_3 => ?_) (fun c89_3 => ?_)
      · skip
        refine lv_iconst (v := nI (0)) hx hb dX5_isThingAhead_96 (by decide) ?_
        exact zZret () (by decide) hx hb hr hlocks hK hP hD hS dX5_isThingAhead_97 (show nI (0) = bI (pcT y j k) from (by simp only [bI, pcT, eq_true c18_1, eq_true c66_2, c89_3, p_in, p_worn, p_wi, p_creak, p_le0, p_lt1, not_true_eq_false, not_false_eq_true, if_true, if_false, and_true, true_and, and_false, false_and, or_true, true_or, or_false, false_or, and_self, or_self, iff_true, true_iff, iff_false, false_iff, decide_eq_true_eq, decide_true, decide_false, Int32.add_zero, Nat.add_zero, ne_eq, Bool.false_eq_true, eq_self]))
      · skip
        refine lv_iconst (v := nI (1)) hx hb dX5_isThingAhead_92 (by decide) ?_
        refine lv_goto (tgt := 97) hx hb dX5_isThingAhead_93 (by decide) ?_
        exact zZret () (by decide) hx hb hr hlocks hK hP hD hS dX5_isThingAhead_97 (show nI (1) = bI (pcT y j k) from (by simp only [bI, pcT, eq_true c18_1, eq_true c66_2, c89_3, p_in, p_worn, p_wi, p_creak, p_le0, p_lt1, not_true_eq_false, not_false_eq_true, if_true, if_false, and_true, true_and, and_false, false_and, or_true, true_or, or_false, false_or, and_self, or_self, iff_true, true_iff, iff_false, false_iff, decide_eq_true_eq, decide_true, decide_false, Int32.add_zero, Nat.add_zero, ne_eq, Bool.false_eq_true, eq_self]))
    · skip
      refine lv_aload_n hx hb dX5_isThingAhead_69 rfl (lv_at hl 0 rfl) ?_
      refine va_get (ci := 4) (v := .ref (a 0)) hx hb hts h_X5 hown hK hP 15 rfl rfl 0 (by decide) f9 (fun _ h9 => h9) rfl dX5_isThingAhead_70 ?_
      refine va_get (ci := 8) (v := .ref (a 1)) hx hb hts h_X9 hown hK hP 0 rfl rfl 1 (by decide) f33 (fun _ h9 => h9) rfl dX5_isThingAhead_73 ?_
      refine lv_iload_n hx hb dX5_isThingAhead_76 rfl (lv_at hl 1 rfl) ?_
      refine zIald (n := 12) (f := y_kd y) (i := j) hx hb hK hP 1 rfl (by omega) (by decide) dX5_isThingAhead_77 ?_
      refine lv_if_ne (tgt := 85) hx hb dX5_isThingAhead_78 (by decide) (fun c78_4 => ?_) (fun c78_4 => ?_)
      · skip
        refine lv_iconst (v := nI (0)) hx hb dX5_isThingAhead_85 (by decide) ?_
        exact zZret () (by decide) hx hb hr hlocks hK hP hD hS dX5_isThingAhead_86 (show nI (0) = bI (pcT y j k) from (by simp only [bI, pcT, eq_true c18_1, c66_2, c78_4, p_in, p_worn, p_wi, p_creak, p_le0, p_lt1, not_true_eq_false, not_false_eq_true, if_true, if_false, and_true, true_and, and_false, false_and, or_true, true_or, or_false, false_or, and_self, or_self, iff_true, true_iff, iff_false, false_iff, decide_eq_true_eq, decide_true, decide_false, Int32.add_zero, Nat.add_zero, ne_eq, Bool.false_eq_true, eq_self]))
      · skip
        refine lv_iconst (v := nI (1)) hx hb dX5_isThingAhead_81 (by decide) ?_
        refine lv_goto (tgt := 86) hx hb dX5_isThingAhead_82 (by decide) ?_
        exact zZret () (by decide) hx hb hr hlocks hK hP hD hS dX5_isThingAhead_86 (show nI (1) = bI (pcT y j k) from (by simp only [bI, pcT, eq_true c18_1, c66_2, eq_true c78_4, p_in, p_worn, p_wi, p_creak, p_le0, p_lt1, not_true_eq_false, not_false_eq_true, if_true, if_false, and_true, true_and, and_false, false_and, or_true, true_or, or_false, false_or, and_self, or_self, iff_true, true_iff, iff_false, false_iff, decide_eq_true_eq, decide_true, decide_false, Int32.add_zero, Nat.add_zero, ne_eq, Bool.false_eq_true, eq_self]))
  · skip
    refine lv_aload_n hx hb dX5_isThingAhead_21 rfl (lv_at hl 0 rfl) ?_
    refine va_get (ci := 4) (v := .ref (a 0)) hx hb hts h_X5 hown hK hP 15 rfl rfl 0 (by decide) f9 (fun _ h9 => h9) rfl dX5_isThingAhead_22 ?_
    refine va_get (ci := 8) (v := .ref (a 2)) hx hb hts h_X9 hown hK hP 0 rfl rfl 2 (by decide) f29 (fun _ h9 => h9) rfl dX5_isThingAhead_25 ?_
    refine lv_iload_n hx hb dX5_isThingAhead_28 rfl (lv_at hl 1 rfl) ?_
    refine zIald (n := 12) (f := y_w y) (i := j) hx hb hK hP 2 rfl (by omega) (by decide) dX5_isThingAhead_29 ?_
    refine lv_aload_n hx hb dX5_isThingAhead_30 rfl (lv_at hl 0 rfl) ?_
    refine va_get (ci := 4) (v := .ref (a 0)) hx hb hts h_X5 hown hK hP 15 rfl rfl 0 (by decide) f9 (fun _ h9 => h9) rfl dX5_isThingAhead_31 ?_
    refine va_get (ci := 8) (v := .ref (a 2)) hx hb hts h_X9 hown hK hP 0 rfl rfl 2 (by decide) f29 (fun _ h9 => h9) rfl dX5_isThingAhead_34 ?_
    refine lv_iload_n hx hb dX5_isThingAhead_37 rfl (lv_at hl 2 rfl) ?_
    refine zIald (n := 12) (f := y_w y) (i := k) hx hb hK hP 2 rfl (by omega) (by decide) dX5_isThingAhead_38 ?_
    refine lv_icmp_le (tgt := 46) hx hb dX5_isThingAhead_39 (by decide) (fun c39_5 => ?_) (fun c39_5 => ?_)
    · skip
      refine lv_iconst (v := nI (0)) hx hb dX5_isThingAhead_46 (by decide) ?_
      exact zZret () (by decide) hx hb hr hlocks hK hP hD hS dX5_isThingAhead_47 (show nI (0) = bI (pcT y j k) from (by simp only [bI, pcT, c18_1, c39_5, p_in, p_worn, p_wi, p_creak, p_le0, p_lt1, not_true_eq_false, not_false_eq_true, if_true, if_false, and_true, true_and, and_false, false_and, or_true, true_or, or_false, false_or, and_self, or_self, iff_true, true_iff, iff_false, false_iff, decide_eq_true_eq, decide_true, decide_false, Int32.add_zero, Nat.add_zero, ne_eq, Bool.false_eq_true, eq_self]))
    · skip
      refine lv_iconst (v := nI (1)) hx hb dX5_isThingAhead_42 (by decide) ?_
      refine lv_goto (tgt := 47) hx hb dX5_isThingAhead_43 (by decide) ?_
      exact zZret () (by decide) hx hb hr hlocks hK hP hD hS dX5_isThingAhead_47 (show nI (1) = bI (pcT y j k) from (by simp only [bI, pcT, c18_1, c39_5, p_in, p_worn, p_wi, p_creak, p_le0, p_lt1, not_true_eq_false, not_false_eq_true, if_true, if_false, and_true, true_and, and_false, false_and, or_true, true_or, or_false, false_or, and_self, or_self, iff_true, true_iff, iff_false, false_iff, decide_eq_true_eq, decide_true, decide_false, Int32.add_zero, Nat.add_zero, ne_eq, Bool.false_eq_true, eq_self]))
abbrev rmX5_isCartAhead : Room := { frames := 2, cells := 0, slots := 0, locals := 51 }
theorem in_X5_isCartAhead_X5 : ∀ w ∈ u_ws RX5 TX5 2, w ∈ wsX5_isCartAhead := by decide +kernel
set_option maxHeartbeats 4000000 in
set_option maxRecDepth 100000 in
theorem kX5_isCartAhead {D : va_G} {ct : Nat → ClassId} {l : Launch} (a : Nat → Nat) (y : YS) (b : Nat → Nat) (rs : RS) (R : va_W) (j : Nat) (k : Nat) (hn : y_n y ≤ 12) (hc : y_cn y ≤ 4) (hkd : ∀ j9, j9 < y_n y → y_kd y j9 = nI 0 ∨ y_kd y j9 = nI 1) (hj : j < y_cn y) (hk : k < y_cn y) : MI D ct l yX5_isCartAhead wsX5_isCartAhead rmX5_isCartAhead (YW ct a y (KR a b rs R)) [.ref (b 3), .int (nI (j)), .int (nI (k))] (fun r0 (_ : Unit) => r0 = bI (pcC y j k)) (fun _ : Unit => YW ct a y (KR a b rs R)) := by
  refine MIof (cc := cX5_isCartAhead) (maxL := 7) (ret := (some .boolean)) (by decide) rfl (Nat.le_of_ble_eq_true rfl) ?_
  intro p e s m args below meth c A H locs F hP hK hD hS hA ls hl
  obtain ⟨hx, hb, hr, hlocks, hml, hown, hts, hin⟩ := F
  have hl : lv_has ls 7 [(0, .ref (b 3)), (1, .int (nI (j))), (2, .int (nI (k)))] := hl
  have h_X5 := in_X5_isCartAhead_X5
  have f9 := hts (.fieldLink RX5 9 "CartArguments$Orders" "yard" "LCartArguments$Yard;") (by decide +kernel)
  have f15 := hts (.fieldLink RX5 15 "CartArguments$Orders" "scale" "LCartArguments$Scale;") (by decide +kernel)
  refine lv_aload_n hx hb dX5_isCartAhead_0 rfl (lv_at hl 0 rfl) ?_
  refine va_get (ci := 4) (v := .ref (a 0)) hx hb hts h_X5 hown hK hP 15 rfl rfl 0 (by decide) f9 (fun _ h9 => h9) rfl dX5_isCartAhead_1 ?_
  refine lv_iload_n hx hb dX5_isCartAhead_4 rfl (lv_at hl 1 rfl) ?_
  refine zVI [.int (nI (j))] [] (kX9_weightOfAllOn (a) (y) (KR a b rs R) (nI (j)) (show y_n y ≤ 12 from by omega)) hx hb hml hown hts (cwV 1 hts gX5_isCartAhead_X9_weightOfAllOn rfl rfl rfl (by decide +kernel) ⟨(Nat.le_of_ble_eq_true rfl), (Nat.le_of_ble_eq_true rfl)⟩) hK hP hD hS hA (va_recv hK hP (ci := 8) (q0 := 0) rfl rfl) rfl hl.1 rfl (Nat.le_of_ble_eq_true rfl) dX5_isCartAhead_5 ⟨(Nat.le_of_ble_eq_true rfl), (Nat.le_of_ble_eq_true rfl)⟩ (fun r_5 _ H locs hr_5 hP hD hS => ?_)
  subst hr_5
  have hP : va_P D vwCl (YW ct a y (KR a b rs R)) H := hP
  have hD : va_D A (YW ct a y (KR a b rs R)) := hD
  refine lv_istore_n (lv' := [(3, .int ((t_all y (nI (j))))), (0, .ref (b 3)), (1, .int (nI (j))), (2, .int (nI (k)))]) hx hb dX5_isCartAhead_8 rfl hl (by decide) rfl (fun ls hl => ?_)
  refine lv_aload_n hx hb dX5_isCartAhead_9 rfl (lv_at hl 1 rfl) ?_
  refine va_get (ci := 4) (v := .ref (a 0)) hx hb hts h_X5 hown hK hP 15 rfl rfl 0 (by decide) f9 (fun _ h9 => h9) rfl dX5_isCartAhead_10 ?_
  refine lv_iload_n hx hb dX5_isCartAhead_13 rfl (lv_at hl 3 rfl) ?_
  refine zVI [.int (nI (k))] [] (kX9_weightOfAllOn (a) (y) (KR a b rs R) (nI (k)) (show y_n y ≤ 12 from by omega)) hx hb hml hown hts (cwV 1 hts gX5_isCartAhead_X9_weightOfAllOn rfl rfl rfl (by decide +kernel) ⟨(Nat.le_of_ble_eq_true rfl), (Nat.le_of_ble_eq_true rfl)⟩) hK hP hD hS hA (va_recv hK hP (ci := 8) (q0 := 0) rfl rfl) rfl hl.1 rfl (Nat.le_of_ble_eq_true rfl) dX5_isCartAhead_14 ⟨(Nat.le_of_ble_eq_true rfl), (Nat.le_of_ble_eq_true rfl)⟩ (fun r_14 _ H locs hr_14 hP hD hS => ?_)
  subst hr_14
  have hP : va_P D vwCl (YW ct a y (KR a b rs R)) H := hP
  have hD : va_D A (YW ct a y (KR a b rs R)) := hD
  refine lv_istore (lv' := [(4, .int ((t_all y (nI (k))))), (3, .int ((t_all y (nI (j))))), (0, .ref (b 3)), (1, .int (nI (j))), (2, .int (nI (k)))]) hx hb dX5_isCartAhead_17 hl (by decide) rfl (fun ls hl => ?_)
  refine lv_iload_n hx hb dX5_isCartAhead_19 rfl (lv_at hl 1 rfl) ?_
  refine lv_iload hx hb dX5_isCartAhead_20 (lv_at hl 0 rfl) ?_
  refine lv_icmp_eq (tgt := 37) hx hb dX5_isCartAhead_22 (by decide) (fun c22_1 => ?_) (fun c22_1 => ?_)
  · skip
    refine lv_aload_n hx hb dX5_isCartAhead_37 rfl (lv_at hl 2 rfl) ?_
    refine va_get (ci := 4) (v := .ref (b 0)) hx hb hts h_X5 hown hK hP 15 rfl rfl 1 (by decide) f15 (fun _ h9 => h9) rfl dX5_isCartAhead_38 ?_
    refine lv_iload_n hx hb dX5_isCartAhead_41 rfl (lv_at hl 3 rfl) ?_
    refine zVI [.int (nI (j))] [] (kX7_imbalance (a) (y) (b) (rs) (R) (nI (j)) (show y_n y ≤ 12 from by omega) (show ∀ j9, j9 < y_n y → y_kd y j9 = nI 0 ∨ y_kd y j9 = nI 1 from hkd)) hx hb hml hown hts (cwV 1 hts gX5_isCartAhead_X7_imbalance rfl rfl rfl (by decide +kernel) ⟨(Nat.le_of_ble_eq_true rfl), (Nat.le_of_ble_eq_true rfl)⟩) hK hP hD hS hA (va_recv hK hP (ci := 6) (q0 := 12) rfl rfl) rfl hl.1 rfl (Nat.le_of_ble_eq_true rfl) dX5_isCartAhead_42 ⟨(Nat.le_of_ble_eq_true rfl), (Nat.le_of_ble_eq_true rfl)⟩ (fun r_42 _ H locs hr_42 hP hD hS => ?_)
    subst hr_42
    have hP : va_P D vwCl (YW ct a y (KR a b rs R)) H := hP
    have hD : va_D A (YW ct a y (KR a b rs R)) := hD
    refine lv_istore (lv' := [(5, .int ((t_im y (nI (j))))), (4, .int ((t_all y (nI (k))))), (3, .int ((t_all y (nI (j))))), (0, .ref (b 3)), (1, .int (nI (j))), (2, .int (nI (k)))]) hx hb dX5_isCartAhead_45 hl (by decide) rfl (fun ls hl => ?_)
    refine lv_aload_n hx hb dX5_isCartAhead_47 rfl (lv_at hl 3 rfl) ?_
    refine va_get (ci := 4) (v := .ref (b 0)) hx hb hts h_X5 hown hK hP 15 rfl rfl 1 (by decide) f15 (fun _ h9 => h9) rfl dX5_isCartAhead_48 ?_
    refine lv_iload_n hx hb dX5_isCartAhead_51 rfl (lv_at hl 5 rfl) ?_
    refine zVI [.int (nI (k))] [] (kX7_imbalance (a) (y) (b) (rs) (R) (nI (k)) (show y_n y ≤ 12 from by omega) (show ∀ j9, j9 < y_n y → y_kd y j9 = nI 0 ∨ y_kd y j9 = nI 1 from hkd)) hx hb hml hown hts (cwV 1 hts gX5_isCartAhead_X7_imbalance rfl rfl rfl (by decide +kernel) ⟨(Nat.le_of_ble_eq_true rfl), (Nat.le_of_ble_eq_true rfl)⟩) hK hP hD hS hA (va_recv hK hP (ci := 6) (q0 := 12) rfl rfl) rfl hl.1 rfl (Nat.le_of_ble_eq_true rfl) dX5_isCartAhead_52 ⟨(Nat.le_of_ble_eq_true rfl), (Nat.le_of_ble_eq_true rfl)⟩ (fun r_52 _ H locs hr_52 hP hD hS => ?_)
    subst hr_52
    have hP : va_P D vwCl (YW ct a y (KR a b rs R)) H := hP
    have hD : va_D A (YW ct a y (KR a b rs R)) := hD
    refine lv_istore (lv' := [(6, .int ((t_im y (nI (k))))), (5, .int ((t_im y (nI (j))))), (4, .int ((t_all y (nI (k))))), (3, .int ((t_all y (nI (j))))), (0, .ref (b 3)), (1, .int (nI (j))), (2, .int (nI (k)))]) hx hb dX5_isCartAhead_55 hl (by decide) rfl (fun ls hl => ?_)
    refine lv_iload hx hb dX5_isCartAhead_57 (lv_at hl 1 rfl) ?_
    refine lv_iload hx hb dX5_isCartAhead_59 (lv_at hl 0 rfl) ?_
    refine lv_icmp_eq (tgt := 77) hx hb dX5_isCartAhead_61 (by decide) (fun c61_2 => ?_) (fun c61_2 => ?_)
    · skip
      refine lv_iload_n hx hb dX5_isCartAhead_77 rfl (lv_at hl 5 rfl) ?_
      refine lv_iload_n hx hb dX5_isCartAhead_78 rfl (lv_at hl 6 rfl) ?_
      refine zN_icmp_ge (tgt := 86) hx hb (by omega) (by omega) dX5_isCartAhead_79 (by decide) (fun c79_3 => ?_) (fun c79_3 => ?_)
      · skip
        refine lv_iconst (v := nI (0)) hx hb dX5_isCartAhead_86 (by decide) ?_
        exact zZret () (by decide) hx hb hr hlocks hK hP hD hS dX5_isCartAhead_87 (show nI (0) = bI (pcC y j k) from (by simp only [bI, pcC, eq_true c22_1, eq_true c61_2, c79_3, p_in, p_worn, p_wi, p_creak, p_le0, p_lt1, not_true_eq_false, not_false_eq_true, if_true, if_false, and_true, true_and, and_false, false_and, or_true, true_or, or_false, false_or, and_self, or_self, iff_true, true_iff, iff_false, false_iff, decide_eq_true_eq, decide_true, decide_false, Int32.add_zero, Nat.add_zero, ne_eq, Bool.false_eq_true, eq_self]))
      · skip
        refine lv_iconst (v := nI (1)) hx hb dX5_isCartAhead_82 (by decide) ?_
        refine lv_goto (tgt := 87) hx hb dX5_isCartAhead_83 (by decide) ?_
        exact zZret () (by decide) hx hb hr hlocks hK hP hD hS dX5_isCartAhead_87 (show nI (1) = bI (pcC y j k) from (by simp only [bI, pcC, eq_true c22_1, eq_true c61_2, c79_3, p_in, p_worn, p_wi, p_creak, p_le0, p_lt1, not_true_eq_false, not_false_eq_true, if_true, if_false, and_true, true_and, and_false, false_and, or_true, true_or, or_false, false_or, and_self, or_self, iff_true, true_iff, iff_false, false_iff, decide_eq_true_eq, decide_true, decide_false, Int32.add_zero, Nat.add_zero, ne_eq, Bool.false_eq_true, eq_self]))
    · skip
      refine lv_iload hx hb dX5_isCartAhead_64 (lv_at hl 1 rfl) ?_
      refine lv_iload hx hb dX5_isCartAhead_66 (lv_at hl 0 rfl) ?_
      refine lv_icmp_ge (tgt := 75) hx hb dX5_isCartAhead_68 (by decide) (fun c68_4 => ?_) (fun c68_4 => ?_)
      · skip
        refine lv_iconst (v := nI (0)) hx hb dX5_isCartAhead_75 (by decide) ?_
        exact zZret () (by decide) hx hb hr hlocks hK hP hD hS dX5_isCartAhead_76 (show nI (0) = bI (pcC y j k) from (by simp only [bI, pcC, eq_true c22_1, c61_2, c68_4, p_in, p_worn, p_wi, p_creak, p_le0, p_lt1, not_true_eq_false, not_false_eq_true, if_true, if_false, and_true, true_and, and_false, false_and, or_true, true_or, or_false, false_or, and_self, or_self, iff_true, true_iff, iff_false, false_iff, decide_eq_true_eq, decide_true, decide_false, Int32.add_zero, Nat.add_zero, ne_eq, Bool.false_eq_true, eq_self]))
      · skip
        refine lv_iconst (v := nI (1)) hx hb dX5_isCartAhead_71 (by decide) ?_
        refine lv_goto (tgt := 76) hx hb dX5_isCartAhead_72 (by decide) ?_
        exact zZret () (by decide) hx hb hr hlocks hK hP hD hS dX5_isCartAhead_76 (show nI (1) = bI (pcC y j k) from (by simp only [bI, pcC, eq_true c22_1, c61_2, c68_4, p_in, p_worn, p_wi, p_creak, p_le0, p_lt1, not_true_eq_false, not_false_eq_true, if_true, if_false, and_true, true_and, and_false, false_and, or_true, true_or, or_false, false_or, and_self, or_self, iff_true, true_iff, iff_false, false_iff, decide_eq_true_eq, decide_true, decide_false, Int32.add_zero, Nat.add_zero, ne_eq, Bool.false_eq_true, eq_self]))
  · skip
    refine lv_iload_n hx hb dX5_isCartAhead_25 rfl (lv_at hl 1 rfl) ?_
    refine lv_iload hx hb dX5_isCartAhead_26 (lv_at hl 0 rfl) ?_
    refine lv_icmp_le (tgt := 35) hx hb dX5_isCartAhead_28 (by decide) (fun c28_5 => ?_) (fun c28_5 => ?_)
    · skip
      refine lv_iconst (v := nI (0)) hx hb dX5_isCartAhead_35 (by decide) ?_
      exact zZret () (by decide) hx hb hr hlocks hK hP hD hS dX5_isCartAhead_36 (show nI (0) = bI (pcC y j k) from (by simp only [bI, pcC, c22_1, c28_5, p_in, p_worn, p_wi, p_creak, p_le0, p_lt1, not_true_eq_false, not_false_eq_true, if_true, if_false, and_true, true_and, and_false, false_and, or_true, true_or, or_false, false_or, and_self, or_self, iff_true, true_iff, iff_false, false_iff, decide_eq_true_eq, decide_true, decide_false, Int32.add_zero, Nat.add_zero, ne_eq, Bool.false_eq_true, eq_self]))
    · skip
      refine lv_iconst (v := nI (1)) hx hb dX5_isCartAhead_31 (by decide) ?_
      refine lv_goto (tgt := 36) hx hb dX5_isCartAhead_32 (by decide) ?_
      exact zZret () (by decide) hx hb hr hlocks hK hP hD hS dX5_isCartAhead_36 (show nI (1) = bI (pcC y j k) from (by simp only [bI, pcC, c22_1, c28_5, p_in, p_worn, p_wi, p_creak, p_le0, p_lt1, not_true_eq_false, not_false_eq_true, if_true, if_false, and_true, true_and, and_false, false_and, or_true, true_or, or_false, false_or, and_self, or_self, iff_true, true_iff, iff_false, false_iff, decide_eq_true_eq, decide_true, decide_false, Int32.add_zero, Nat.add_zero, ne_eq, Bool.false_eq_true, eq_self]))
abbrev rmX5_thingInOrder : Room := { frames := 1, cells := 0, slots := 0, locals := 22 }
theorem in_X5_thingInOrder_X5 : ∀ w ∈ u_ws RX5 TX5 2, w ∈ wsX5_thingInOrder := by decide +kernel
theorem in_X5_thingInOrder_X9 : ∀ w ∈ u_ws RX9 TX9 16, w ∈ wsX5_thingInOrder := by decide +kernel
set_option maxHeartbeats 4000000 in
set_option maxRecDepth 100000 in
theorem kX5_thingInOrder {D : va_G} {ct : Nat → ClassId} {l : Launch} (a : Nat → Nat) (y : YS) (b : Nat → Nat) (rs : RS) (R : va_W) (x1 : Int32) (hn : y_n y ≤ 12) : MI D ct l yX5_thingInOrder wsX5_thingInOrder rmX5_thingInOrder (YW ct a y (KR a b rs R)) [.ref (b 3), .int (x1)] (fun r0 (_ : Unit) => r0 = ordI (fun j k => decide (pcT y j k)) (y_n y) x1) (fun _ : Unit => YW ct a y (KR a b rs R)) := by
  refine MIof (cc := cX5_thingInOrder) (maxL := 5) (ret := (some .int)) (by decide) rfl (Nat.le_of_ble_eq_true rfl) ?_
  intro p e s m args below meth c A H locs F hP hK hD hS hA ls hl
  obtain ⟨hx, hb, hr, hlocks, hml, hown, hts, hin⟩ := F
  have hl : lv_has ls 5 [(0, .ref (b 3)), (1, .int (x1))] := hl
  have h_X5 := in_X5_thingInOrder_X5
  have h_X9 := in_X5_thingInOrder_X9
  have f9 := hts (.fieldLink RX5 9 "CartArguments$Orders" "yard" "LCartArguments$Yard;") (by decide +kernel)
  have f19 := hts (.fieldLink RX5 19 "CartArguments$Yard" "things" "I") (by decide +kernel)
  refine lv_iconst (v := nI (0)) hx hb dX5_thingInOrder_0 (by decide) ?_
  refine lv_istore_n (lv' := [(2, .int (nI (0))), (0, .ref (b 3)), (1, .int (x1))]) hx hb dX5_thingInOrder_1 rfl hl (by decide) rfl (fun ls hl => ?_)
  have lp2 : ∀ (fu : Nat) (k : Nat) (H : Heap) (locs : List Loc) (ls : Array Slot), (k ≤ y_n y) → (∀ j, j < k → (fun k => decide (nI (cN (fun j => (fun j k => decide (pcT y j k)) j k) (y_n y)) = x1)) j = false) → y_n y - k < fu → va_P D vwCl (YW ct a y (KR a b rs R)) H → va_D A (YW ct a y (KR a b rs R)) → va_S A s.heap H locs → lv_has ls 5 [(0, .ref (b 3)), (1, .int (x1)), (2, .int (nI (k)))] → W p l e rmX5_thingInOrder s m args below meth c H locs 0 0 (MQ below (va_Qi (fun r0 (_ : Unit) => r0 = ordI (fun j k => decide (pcT y j k)) (y_n y) x1) (zB D ct A (fun _ : Unit => YW ct a y (KR a b rs R))) A) args s rmX5_thingInOrder.cells rmX5_thingInOrder.slots A) (F0 m 2 ls []) := by
    intro fu
    induction fu with
    | zero => intro k H locs ls hk hno hfu; exact absurd hfu (Nat.not_lt_zero _)
    | succ fu ih2 =>
      intro k H locs ls hk hno hfu hP hD hS hl
      refine lv_iload_n hx hb dX5_thingInOrder_2 rfl (lv_at hl 2 rfl) ?_
      refine lv_aload_n hx hb dX5_thingInOrder_3 rfl (lv_at hl 0 rfl) ?_
      refine va_get (ci := 4) (v := .ref (a 0)) hx hb hts h_X5 hown hK hP 15 rfl rfl 0 (by decide) f9 (fun _ h9 => h9) rfl dX5_thingInOrder_4 ?_
      refine va_get (ci := 8) (v := .int (nI (y_n y))) hx hb hts h_X9 hown hK hP 0 rfl rfl 0 (by decide) f19 (fun _ h9 => h9) rfl dX5_thingInOrder_7 ?_
      refine zN_icmp_ge (tgt := 62) hx hb (by omega) (by omega) dX5_thingInOrder_10 (by decide) (fun c10_1 => ?_) (fun c10_1 => ?_)
      · skip
        refine lv_iconst (v := (-1)) hx hb dX5_thingInOrder_62 (by decide) ?_
        exact zIret () hx hb hr hlocks hK hP hD hS dX5_thingInOrder_63 (show (-1) = ordI (fun j k => decide (pcT y j k)) (y_n y) x1 from (ordI_none (P := fun j k => decide (pcT y j k)) (fun j hj => hno j (by omega))).symm)
      · skip
        refine lv_iconst (v := nI (0)) hx hb dX5_thingInOrder_13 (by decide) ?_
        refine lv_istore_n (lv' := [(3, .int (nI (0))), (0, .ref (b 3)), (1, .int (x1)), (2, .int (nI (k)))]) hx hb dX5_thingInOrder_14 rfl hl (by decide) rfl (fun ls hl => ?_)
        refine lv_iconst (v := nI (0)) hx hb dX5_thingInOrder_15 (by decide) ?_
        refine lv_istore (lv' := [(4, .int (nI (0))), (3, .int (nI (0))), (0, .ref (b 3)), (1, .int (x1)), (2, .int (nI (k)))]) hx hb dX5_thingInOrder_16 hl (by decide) rfl (fun ls hl => ?_)
        have lp18 : ∀ (fu : Nat) (i : Nat) (acc : Nat) (H : Heap) (locs : List Loc) (ls : Array Slot), (i ≤ y_n y) → (acc = cN (fun j => decide (pcT y j k)) i) → y_n y - i < fu → va_P D vwCl (YW ct a y (KR a b rs R)) H → va_D A (YW ct a y (KR a b rs R)) → va_S A s.heap H locs → lv_has ls 5 [(0, .ref (b 3)), (1, .int (x1)), (2, .int (nI (k))), (3, .int (nI (acc))), (4, .int (nI (i)))] → W p l e rmX5_thingInOrder s m args below meth c H locs 0 0 (MQ below (va_Qi (fun r0 (_ : Unit) => r0 = ordI (fun j k => decide (pcT y j k)) (y_n y) x1) (zB D ct A (fun _ : Unit => YW ct a y (KR a b rs R))) A) args s rmX5_thingInOrder.cells rmX5_thingInOrder.slots A) (F0 m 18 ls []) := by
          intro fu
          induction fu with
          | zero => intro i acc H locs ls hi hacc hfu; exact absurd hfu (Nat.not_lt_zero _)
          | succ fu ih18 =>
            intro i acc H locs ls hi hacc hfu hP hD hS hl
            refine lv_iload hx hb dX5_thingInOrder_18 (lv_at hl 4 rfl) ?_
            refine lv_aload_n hx hb dX5_thingInOrder_20 rfl (lv_at hl 0 rfl) ?_
            refine va_get (ci := 4) (v := .ref (a 0)) hx hb hts h_X5 hown hK hP 15 rfl rfl 0 (by decide) f9 (fun _ h9 => h9) rfl dX5_thingInOrder_21 ?_
            refine va_get (ci := 8) (v := .int (nI (y_n y))) hx hb hts h_X9 hown hK hP 0 rfl rfl 0 (by decide) f19 (fun _ h9 => h9) rfl dX5_thingInOrder_24 ?_
            refine zN_icmp_ge (tgt := 49) hx hb (by omega) (by omega) dX5_thingInOrder_27 (by decide) (fun c27_2 => ?_) (fun c27_2 => ?_)
            · skip
              refine lv_iload_n hx hb dX5_thingInOrder_49 rfl (lv_at hl 3 rfl) ?_
              refine lv_iload_n hx hb dX5_thingInOrder_50 rfl (lv_at hl 1 rfl) ?_
              refine lv_icmp_ne (tgt := 56) hx hb dX5_thingInOrder_51 (by decide) (fun c51_3 => ?_) (fun c51_3 => ?_)
              · skip
                refine lv_iinc (v := nI ((k + 1))) (lv' := [(2, .int (nI ((k + 1)))), (0, .ref (b 3)), (1, .int (x1)), (3, .int (nI (acc))), (4, .int (nI (i)))]) hx hb dX5_thingInOrder_56 hl (k := 2) rfl (zInc _) (by decide) rfl (fun ls hl => ?_)
                refine lv_goto (tgt := 2) hx hb dX5_thingInOrder_59 (by decide) ?_
                exact ih2 ((k + 1)) H locs ls (by omega) (lt_s hno (by rw [hacc, show i = y_n y by omega] at c51_3; exact decide_eq_false c51_3)) (by omega) hP hD hS (lv_sub hl [1, 2, 0] rfl)
              · skip
                refine lv_iload_n hx hb dX5_thingInOrder_54 rfl (lv_at hl 2 rfl) ?_
                exact zIret () hx hb hr hlocks hK hP hD hS dX5_thingInOrder_55 (show nI (k) = ordI (fun j k => decide (pcT y j k)) (y_n y) x1 from (ordI_some (P := fun j k => decide (pcT y j k)) (by have q := c51_3; rw [hacc, show i = y_n y by omega] at q; exact decide_eq_true q) hno (by omega)).symm)
            · skip
              refine lv_aload_n hx hb dX5_thingInOrder_30 rfl (lv_at hl 0 rfl) ?_
              refine lv_iload hx hb dX5_thingInOrder_31 (lv_at hl 4 rfl) ?_
              refine lv_iload_n hx hb dX5_thingInOrder_33 rfl (lv_at hl 2 rfl) ?_
              refine zVI [.int (nI (i)), .int (nI (k))] [] (kX5_isThingAhead (a) (y) (b) (rs) (R) (i) (k) (show y_n y ≤ 12 from by omega) (show (i) < y_n y from by omega) (show (k) < y_n y from by omega)) hx hb hml hown hts (cwV 2 hts gX5_thingInOrder_X5_isThingAhead rfl rfl rfl (by decide +kernel) ⟨(Nat.le_of_ble_eq_true rfl), (Nat.le_of_ble_eq_true rfl)⟩) hK hP hD hS hA (va_recv hK hP (ci := 4) (q0 := 15) rfl rfl) rfl hl.1 rfl (Nat.le_of_ble_eq_true rfl) dX5_thingInOrder_34 ⟨(Nat.le_of_ble_eq_true rfl), (Nat.le_of_ble_eq_true rfl)⟩ (fun r_34 _ H locs hr_34 hP hD hS => ?_)
              subst hr_34
              have hP : va_P D vwCl (YW ct a y (KR a b rs R)) H := hP
              have hD : va_D A (YW ct a y (KR a b rs R)) := hD
              refine zB_if_eq (tgt := 43) hx hb dX5_thingInOrder_37 (by decide) (fun c37_4 => ?_) (fun c37_4 => ?_)
              · skip
                refine lv_iinc (v := nI ((i + 1))) (lv' := [(4, .int (nI ((i + 1)))), (0, .ref (b 3)), (1, .int (x1)), (2, .int (nI (k))), (3, .int (nI (acc)))]) hx hb dX5_thingInOrder_43 hl (k := 4) rfl (zInc _) (by decide) rfl (fun ls hl => ?_)
                refine lv_goto (tgt := 18) hx hb dX5_thingInOrder_46 (by decide) ?_
                exact ih18 ((i + 1)) (acc) H locs ls (by omega) (by simp only [cN, hacc, decide_eq_true_eq, c10_1, c27_2, c37_4, p_in, p_worn, p_wi, p_creak, p_le0, p_lt1, not_true_eq_false, not_false_eq_true, if_true, if_false, and_true, true_and, and_false, false_and, or_true, true_or, or_false, false_or, and_self, or_self, iff_true, true_iff, iff_false, false_iff, decide_eq_true_eq, decide_true, decide_false, Int32.add_zero, Nat.add_zero, ne_eq, Bool.false_eq_true, eq_self]) (by omega) hP hD hS (lv_sub hl [1, 2, 3, 4, 0] rfl)
              · skip
                refine lv_iinc (v := nI ((acc + 1))) (lv' := [(3, .int (nI ((acc + 1)))), (0, .ref (b 3)), (1, .int (x1)), (2, .int (nI (k))), (4, .int (nI (i)))]) hx hb dX5_thingInOrder_40 hl (k := 3) rfl (zInc _) (by decide) rfl (fun ls hl => ?_)
                refine lv_iinc (v := nI ((i + 1))) (lv' := [(4, .int (nI ((i + 1)))), (3, .int (nI ((acc + 1)))), (0, .ref (b 3)), (1, .int (x1)), (2, .int (nI (k)))]) hx hb dX5_thingInOrder_43 hl (k := 4) rfl (zInc _) (by decide) rfl (fun ls hl => ?_)
                refine lv_goto (tgt := 18) hx hb dX5_thingInOrder_46 (by decide) ?_
                exact ih18 ((i + 1)) ((acc + 1)) H locs ls (by omega) (by simp only [cN, hacc, decide_eq_true_eq, c10_1, c27_2, c37_4, p_in, p_worn, p_wi, p_creak, p_le0, p_lt1, not_true_eq_false, not_false_eq_true, if_true, if_false, and_true, true_and, and_false, false_and, or_true, true_or, or_false, false_or, and_self, or_self, iff_true, true_iff, iff_false, false_iff, decide_eq_true_eq, decide_true, decide_false, Int32.add_zero, Nat.add_zero, ne_eq, Bool.false_eq_true, eq_self]) (by omega) hP hD hS (lv_sub hl [2, 3, 4, 1, 0] rfl)
        exact lp18 ((y_n y - (0)) + 1) (0) (0) H locs ls (by omega) rfl (Nat.lt_succ_self _) hP hD hS (lv_sub hl [2, 3, 4, 1, 0] rfl)
  exact lp2 ((y_n y - (0)) + 1) (0) H locs ls (by omega) (fun j hj => absurd hj (Nat.not_lt_zero j)) (Nat.lt_succ_self _) hP hD hS (lv_sub hl [1, 2, 0] rfl)
abbrev rmX5_cartInOrder : Room := { frames := 3, cells := 0, slots := 0, locals := 77 }
theorem in_X5_cartInOrder_X5 : ∀ w ∈ u_ws RX5 TX5 2, w ∈ wsX5_cartInOrder := by decide +kernel
theorem in_X5_cartInOrder_X9 : ∀ w ∈ u_ws RX9 TX9 16, w ∈ wsX5_cartInOrder := by decide +kernel
set_option maxHeartbeats 4000000 in
set_option maxRecDepth 100000 in
theorem kX5_cartInOrder {D : va_G} {ct : Nat → ClassId} {l : Launch} (a : Nat → Nat) (y : YS) (b : Nat → Nat) (rs : RS) (R : va_W) (x1 : Int32) (hn : y_n y ≤ 12) (hc : y_cn y ≤ 4) (hkd : ∀ j9, j9 < y_n y → y_kd y j9 = nI 0 ∨ y_kd y j9 = nI 1) : MI D ct l yX5_cartInOrder wsX5_cartInOrder rmX5_cartInOrder (YW ct a y (KR a b rs R)) [.ref (b 3), .int (x1)] (fun r0 (_ : Unit) => r0 = ordI (fun j k => decide (pcC y j k)) (y_cn y) x1) (fun _ : Unit => YW ct a y (KR a b rs R)) := by
  refine MIof (cc := cX5_cartInOrder) (maxL := 5) (ret := (some .int)) (by decide) rfl (Nat.le_of_ble_eq_true rfl) ?_
  intro p e s m args below meth c A H locs F hP hK hD hS hA ls hl
  obtain ⟨hx, hb, hr, hlocks, hml, hown, hts, hin⟩ := F
  have hl : lv_has ls 5 [(0, .ref (b 3)), (1, .int (x1))] := hl
  have h_X5 := in_X5_cartInOrder_X5
  have h_X9 := in_X5_cartInOrder_X9
  have f9 := hts (.fieldLink RX5 9 "CartArguments$Orders" "yard" "LCartArguments$Yard;") (by decide +kernel)
  have f36 := hts (.fieldLink RX5 36 "CartArguments$Yard" "carts" "I") (by decide +kernel)
  refine lv_iconst (v := nI (0)) hx hb dX5_cartInOrder_0 (by decide) ?_
  refine lv_istore_n (lv' := [(2, .int (nI (0))), (0, .ref (b 3)), (1, .int (x1))]) hx hb dX5_cartInOrder_1 rfl hl (by decide) rfl (fun ls hl => ?_)
  have lp2 : ∀ (fu : Nat) (k : Nat) (H : Heap) (locs : List Loc) (ls : Array Slot), (k ≤ y_cn y) → (∀ j, j < k → (fun k => decide (nI (cN (fun j => (fun j k => decide (pcC y j k)) j k) (y_cn y)) = x1)) j = false) → y_cn y - k < fu → va_P D vwCl (YW ct a y (KR a b rs R)) H → va_D A (YW ct a y (KR a b rs R)) → va_S A s.heap H locs → lv_has ls 5 [(0, .ref (b 3)), (1, .int (x1)), (2, .int (nI (k)))] → W p l e rmX5_cartInOrder s m args below meth c H locs 0 0 (MQ below (va_Qi (fun r0 (_ : Unit) => r0 = ordI (fun j k => decide (pcC y j k)) (y_cn y) x1) (zB D ct A (fun _ : Unit => YW ct a y (KR a b rs R))) A) args s rmX5_cartInOrder.cells rmX5_cartInOrder.slots A) (F0 m 2 ls []) := by
    intro fu
    induction fu with
    | zero => intro k H locs ls hk hno hfu; exact absurd hfu (Nat.not_lt_zero _)
    | succ fu ih2 =>
      intro k H locs ls hk hno hfu hP hD hS hl
      refine lv_iload_n hx hb dX5_cartInOrder_2 rfl (lv_at hl 2 rfl) ?_
      refine lv_aload_n hx hb dX5_cartInOrder_3 rfl (lv_at hl 0 rfl) ?_
      refine va_get (ci := 4) (v := .ref (a 0)) hx hb hts h_X5 hown hK hP 15 rfl rfl 0 (by decide) f9 (fun _ h9 => h9) rfl dX5_cartInOrder_4 ?_
      refine va_get (ci := 8) (v := .int (nI (y_cn y))) hx hb hts h_X9 hown hK hP 0 rfl rfl 5 (by decide) f36 (fun _ h9 => h9) rfl dX5_cartInOrder_7 ?_
      refine zN_icmp_ge (tgt := 62) hx hb (by omega) (by omega) dX5_cartInOrder_10 (by decide) (fun c10_1 => ?_) (fun c10_1 => ?_)
      · skip
        refine lv_iconst (v := (-1)) hx hb dX5_cartInOrder_62 (by decide) ?_
        exact zIret () hx hb hr hlocks hK hP hD hS dX5_cartInOrder_63 (show (-1) = ordI (fun j k => decide (pcC y j k)) (y_cn y) x1 from (ordI_none (P := fun j k => decide (pcC y j k)) (fun j hj => hno j (by omega))).symm)
      · skip
        refine lv_iconst (v := nI (0)) hx hb dX5_cartInOrder_13 (by decide) ?_
        refine lv_istore_n (lv' := [(3, .int (nI (0))), (0, .ref (b 3)), (1, .int (x1)), (2, .int (nI (k)))]) hx hb dX5_cartInOrder_14 rfl hl (by decide) rfl (fun ls hl => ?_)
        refine lv_iconst (v := nI (0)) hx hb dX5_cartInOrder_15 (by decide) ?_
        refine lv_istore (lv' := [(4, .int (nI (0))), (3, .int (nI (0))), (0, .ref (b 3)), (1, .int (x1)), (2, .int (nI (k)))]) hx hb dX5_cartInOrder_16 hl (by decide) rfl (fun ls hl => ?_)
        have lp18 : ∀ (fu : Nat) (i : Nat) (acc : Nat) (H : Heap) (locs : List Loc) (ls : Array Slot), (i ≤ y_cn y) → (acc = cN (fun j => decide (pcC y j k)) i) → y_cn y - i < fu → va_P D vwCl (YW ct a y (KR a b rs R)) H → va_D A (YW ct a y (KR a b rs R)) → va_S A s.heap H locs → lv_has ls 5 [(0, .ref (b 3)), (1, .int (x1)), (2, .int (nI (k))), (3, .int (nI (acc))), (4, .int (nI (i)))] → W p l e rmX5_cartInOrder s m args below meth c H locs 0 0 (MQ below (va_Qi (fun r0 (_ : Unit) => r0 = ordI (fun j k => decide (pcC y j k)) (y_cn y) x1) (zB D ct A (fun _ : Unit => YW ct a y (KR a b rs R))) A) args s rmX5_cartInOrder.cells rmX5_cartInOrder.slots A) (F0 m 18 ls []) := by
          intro fu
          induction fu with
          | zero => intro i acc H locs ls hi hacc hfu; exact absurd hfu (Nat.not_lt_zero _)
          | succ fu ih18 =>
            intro i acc H locs ls hi hacc hfu hP hD hS hl
            refine lv_iload hx hb dX5_cartInOrder_18 (lv_at hl 4 rfl) ?_
            refine lv_aload_n hx hb dX5_cartInOrder_20 rfl (lv_at hl 0 rfl) ?_
            refine va_get (ci := 4) (v := .ref (a 0)) hx hb hts h_X5 hown hK hP 15 rfl rfl 0 (by decide) f9 (fun _ h9 => h9) rfl dX5_cartInOrder_21 ?_
            refine va_get (ci := 8) (v := .int (nI (y_cn y))) hx hb hts h_X9 hown hK hP 0 rfl rfl 5 (by decide) f36 (fun _ h9 => h9) rfl dX5_cartInOrder_24 ?_
            refine zN_icmp_ge (tgt := 49) hx hb (by omega) (by omega) dX5_cartInOrder_27 (by decide) (fun c27_2 => ?_) (fun c27_2 => ?_)
            · skip
              refine lv_iload_n hx hb dX5_cartInOrder_49 rfl (lv_at hl 3 rfl) ?_
              refine lv_iload_n hx hb dX5_cartInOrder_50 rfl (lv_at hl 1 rfl) ?_
              refine lv_icmp_ne (tgt := 56) hx hb dX5_cartInOrder_51 (by decide) (fun c51_3 => ?_) (fun c51_3 => ?_)
              · skip
                refine lv_iinc (v := nI ((k + 1))) (lv' := [(2, .int (nI ((k + 1)))), (0, .ref (b 3)), (1, .int (x1)), (3, .int (nI (acc))), (4, .int (nI (i)))]) hx hb dX5_cartInOrder_56 hl (k := 2) rfl (zInc _) (by decide) rfl (fun ls hl => ?_)
                refine lv_goto (tgt := 2) hx hb dX5_cartInOrder_59 (by decide) ?_
                exact ih2 ((k + 1)) H locs ls (by omega) (lt_s hno (by rw [hacc, show i = y_cn y by omega] at c51_3; exact decide_eq_false c51_3)) (by omega) hP hD hS (lv_sub hl [1, 2, 0] rfl)
              · skip
                refine lv_iload_n hx hb dX5_cartInOrder_54 rfl (lv_at hl 2 rfl) ?_
                exact zIret () hx hb hr hlocks hK hP hD hS dX5_cartInOrder_55 (show nI (k) = ordI (fun j k => decide (pcC y j k)) (y_cn y) x1 from (ordI_some (P := fun j k => decide (pcC y j k)) (by have q := c51_3; rw [hacc, show i = y_cn y by omega] at q; exact decide_eq_true q) hno (by omega)).symm)
            · skip
              refine lv_aload_n hx hb dX5_cartInOrder_30 rfl (lv_at hl 0 rfl) ?_
              refine lv_iload hx hb dX5_cartInOrder_31 (lv_at hl 4 rfl) ?_
              refine lv_iload_n hx hb dX5_cartInOrder_33 rfl (lv_at hl 2 rfl) ?_
              refine zVI [.int (nI (i)), .int (nI (k))] [] (kX5_isCartAhead (a) (y) (b) (rs) (R) (i) (k) (show y_n y ≤ 12 from by omega) (show y_cn y ≤ 4 from by omega) (show ∀ j9, j9 < y_n y → y_kd y j9 = nI 0 ∨ y_kd y j9 = nI 1 from hkd) (show (i) < y_cn y from by omega) (show (k) < y_cn y from by omega)) hx hb hml hown hts (cwV 2 hts gX5_cartInOrder_X5_isCartAhead rfl rfl rfl (by decide +kernel) ⟨(Nat.le_of_ble_eq_true rfl), (Nat.le_of_ble_eq_true rfl)⟩) hK hP hD hS hA (va_recv hK hP (ci := 4) (q0 := 15) rfl rfl) rfl hl.1 rfl (Nat.le_of_ble_eq_true rfl) dX5_cartInOrder_34 ⟨(Nat.le_of_ble_eq_true rfl), (Nat.le_of_ble_eq_true rfl)⟩ (fun r_34 _ H locs hr_34 hP hD hS => ?_)
              subst hr_34
              have hP : va_P D vwCl (YW ct a y (KR a b rs R)) H := hP
              have hD : va_D A (YW ct a y (KR a b rs R)) := hD
              refine zB_if_eq (tgt := 43) hx hb dX5_cartInOrder_37 (by decide) (fun c37_4 => ?_) (fun c37_4 => ?_)
              · skip
                refine lv_iinc (v := nI ((i + 1))) (lv' := [(4, .int (nI ((i + 1)))), (0, .ref (b 3)), (1, .int (x1)), (2, .int (nI (k))), (3, .int (nI (acc)))]) hx hb dX5_cartInOrder_43 hl (k := 4) rfl (zInc _) (by decide) rfl (fun ls hl => ?_)
                refine lv_goto (tgt := 18) hx hb dX5_cartInOrder_46 (by decide) ?_
                exact ih18 ((i + 1)) (acc) H locs ls (by omega) (by simp only [cN, hacc, decide_eq_true_eq, c10_1, c27_2, c37_4, p_in, p_worn, p_wi, p_creak, p_le0, p_lt1, not_true_eq_false, not_false_eq_true, if_true, if_false, and_true, true_and, and_false, false_and, or_true, true_or, or_false, false_or, and_self, or_self, iff_true, true_iff, iff_false, false_iff, decide_eq_true_eq, decide_true, decide_false, Int32.add_zero, Nat.add_zero, ne_eq, Bool.false_eq_true, eq_self]) (by omega) hP hD hS (lv_sub hl [1, 2, 3, 4, 0] rfl)
              · skip
                refine lv_iinc (v := nI ((acc + 1))) (lv' := [(3, .int (nI ((acc + 1)))), (0, .ref (b 3)), (1, .int (x1)), (2, .int (nI (k))), (4, .int (nI (i)))]) hx hb dX5_cartInOrder_40 hl (k := 3) rfl (zInc _) (by decide) rfl (fun ls hl => ?_)
                refine lv_iinc (v := nI ((i + 1))) (lv' := [(4, .int (nI ((i + 1)))), (3, .int (nI ((acc + 1)))), (0, .ref (b 3)), (1, .int (x1)), (2, .int (nI (k)))]) hx hb dX5_cartInOrder_43 hl (k := 4) rfl (zInc _) (by decide) rfl (fun ls hl => ?_)
                refine lv_goto (tgt := 18) hx hb dX5_cartInOrder_46 (by decide) ?_
                exact ih18 ((i + 1)) ((acc + 1)) H locs ls (by omega) (by simp only [cN, hacc, decide_eq_true_eq, c10_1, c27_2, c37_4, p_in, p_worn, p_wi, p_creak, p_le0, p_lt1, not_true_eq_false, not_false_eq_true, if_true, if_false, and_true, true_and, and_false, false_and, or_true, true_or, or_false, false_or, and_self, or_self, iff_true, true_iff, iff_false, false_iff, decide_eq_true_eq, decide_true, decide_false, Int32.add_zero, Nat.add_zero, ne_eq, Bool.false_eq_true, eq_self]) (by omega) hP hD hS (lv_sub hl [2, 3, 4, 1, 0] rfl)
        exact lp18 ((y_cn y - (0)) + 1) (0) (0) H locs ls (by omega) rfl (Nat.lt_succ_self _) hP hD hS (lv_sub hl [2, 3, 4, 1, 0] rfl)
  exact lp2 ((y_cn y - (0)) + 1) (0) H locs ls (by omega) (fun j hj => absurd hj (Nat.not_lt_zero j)) (Nat.lt_succ_self _) hP hD hS (lv_sub hl [1, 2, 0] rfl)
abbrev rmX5_isCheaper : Room := { frames := 2, cells := 0, slots := 0, locals := 46 }
theorem in_X5_isCheaper_X5 : ∀ w ∈ u_ws RX5 TX5 2, w ∈ wsX5_isCheaper := by decide +kernel
theorem in_X5_isCheaper_X9 : ∀ w ∈ u_ws RX9 TX9 16, w ∈ wsX5_isCheaper := by decide +kernel
set_option maxHeartbeats 4000000 in
set_option maxRecDepth 100000 in
theorem kX5_isCheaper {D : va_G} {ct : Nat → ClassId} {l : Launch} (a : Nat → Nat) (y : YS) (b : Nat → Nat) (rs : RS) (R : va_W) (x : Nat) (k : Nat) (f : Nat) (hy : yI y) (hx4 : x < y_cn y) (hk : k < y_rn y) (hf5 : f < y_rn y) : MI D ct l yX5_isCheaper wsX5_isCheaper rmX5_isCheaper (YW ct a y (KR a b rs R)) [.ref (b 3), .int (nI (x)), .int (nI (k)), .int (nI (f))] (fun r0 (_ : Unit) => r0 = bI (p_btC y x k f)) (fun _ : Unit => YW ct a y (KR a b rs R)) := by
  refine MIof (cc := cX5_isCheaper) (maxL := 6) (ret := (some .boolean)) (by decide) rfl (Nat.le_of_ble_eq_true rfl) ?_
  intro p e s m args below meth c A H locs F hP hK hD hS hA ls hl
  obtain ⟨hx, hb, hr, hlocks, hml, hown, hts, hin⟩ := F
  have hl : lv_has ls 6 [(0, .ref (b 3)), (1, .int (nI (x))), (2, .int (nI (k))), (3, .int (nI (f)))] := hl
  have hkd : ∀ j9, j9 < y_n y → y_kd y j9 = nI 0 ∨ y_kd y j9 = nI 1 := fun j9 hj9 => (hy.2.2.2.1 j9 hj9).1
  have hn : y_n y ≤ 12 := hy.1
  have hcn : y_cn y ≤ 4 := hy.2.1
  have hrn : y_rn y ≤ 5 := hy.2.2.1
  have h_X5 := in_X5_isCheaper_X5
  have h_X9 := in_X5_isCheaper_X9
  have f9 := hts (.fieldLink RX5 9 "CartArguments$Orders" "yard" "LCartArguments$Yard;") (by decide +kernel)
  have f15 := hts (.fieldLink RX5 15 "CartArguments$Orders" "scale" "LCartArguments$Scale;") (by decide +kernel)
  have f69 := hts (.fieldLink RX5 69 "CartArguments$Yard" "miles" "[I") (by decide +kernel)
  refine lv_aload_n hx hb dX5_isCheaper_0 rfl (lv_at hl 0 rfl) ?_
  refine va_get (ci := 4) (v := .ref (b 0)) hx hb hts h_X5 hown hK hP 15 rfl rfl 1 (by decide) f15 (fun _ h9 => h9) rfl dX5_isCheaper_1 ?_
  refine lv_iload_n hx hb dX5_isCheaper_4 rfl (lv_at hl 1 rfl) ?_
  refine lv_iload_n hx hb dX5_isCheaper_5 rfl (lv_at hl 2 rfl) ?_
  refine zVF [.int (nI (x)), .int (nI (k))] [] (kX7_tollOf (a) (y) (b) (rs) (R) (x) (k) (show yI y from hy) (show (k) < y_rn y from hk)) hx hb hml hown hts (cwV 2 hts gX5_isCheaper_X7_tollOf rfl rfl rfl (by decide +kernel) ⟨(Nat.le_of_ble_eq_true rfl), (Nat.le_of_ble_eq_true rfl)⟩) hK hP hD hS hA (va_recv hK hP (ci := 6) (q0 := 12) rfl rfl) rfl hl.1 rfl (Nat.le_of_ble_eq_true rfl) dX5_isCheaper_6 ⟨(Nat.le_of_ble_eq_true rfl), (Nat.le_of_ble_eq_true rfl)⟩ (fun r_6 _ H locs hr_6 hP hD hS => ?_)
  subst hr_6
  have hP : va_P D vwCl (YW ct a y (KR a b rs R)) H := hP
  have hD : va_D A (YW ct a y (KR a b rs R)) := hD
  refine lv_fstore (lv' := [(4, .float ((t_toll y (x) (k)))), (0, .ref (b 3)), (1, .int (nI (x))), (2, .int (nI (k))), (3, .int (nI (f)))]) hx hb dX5_isCheaper_9 hl (by decide) rfl (fun ls hl => ?_)
  refine lv_aload_n hx hb dX5_isCheaper_11 rfl (lv_at hl 1 rfl) ?_
  refine va_get (ci := 4) (v := .ref (b 0)) hx hb hts h_X5 hown hK hP 15 rfl rfl 1 (by decide) f15 (fun _ h9 => h9) rfl dX5_isCheaper_12 ?_
  refine lv_iload_n hx hb dX5_isCheaper_15 rfl (lv_at hl 2 rfl) ?_
  refine lv_iload_n hx hb dX5_isCheaper_16 rfl (lv_at hl 4 rfl) ?_
  refine zVF [.int (nI (x)), .int (nI (f))] [] (kX7_tollOf (a) (y) (b) (rs) (R) (x) (f) (show yI y from hy) (show (f) < y_rn y from hf5)) hx hb hml hown hts (cwV 2 hts gX5_isCheaper_X7_tollOf rfl rfl rfl (by decide +kernel) ⟨(Nat.le_of_ble_eq_true rfl), (Nat.le_of_ble_eq_true rfl)⟩) hK hP hD hS hA (va_recv hK hP (ci := 6) (q0 := 12) rfl rfl) rfl hl.1 rfl (Nat.le_of_ble_eq_true rfl) dX5_isCheaper_17 ⟨(Nat.le_of_ble_eq_true rfl), (Nat.le_of_ble_eq_true rfl)⟩ (fun r_17 _ H locs hr_17 hP hD hS => ?_)
  subst hr_17
  have hP : va_P D vwCl (YW ct a y (KR a b rs R)) H := hP
  have hD : va_D A (YW ct a y (KR a b rs R)) := hD
  refine lv_fstore (lv' := [(5, .float ((t_toll y (x) (f)))), (4, .float ((t_toll y (x) (k)))), (0, .ref (b 3)), (1, .int (nI (x))), (2, .int (nI (k))), (3, .int (nI (f)))]) hx hb dX5_isCheaper_20 hl (by decide) rfl (fun ls hl => ?_)
  refine lv_fload hx hb dX5_isCheaper_22 (lv_at hl 1 rfl) ?_
  refine lv_fload hx hb dX5_isCheaper_24 (lv_at hl 0 rfl) ?_
  refine lv_fcmp hx hb dX5_isCheaper_26 ?_
  refine lv_if_eq (tgt := 44) hx hb dX5_isCheaper_27 (by decide) (fun c27_1 => ?_) (fun c27_1 => ?_)
  · skip
    refine lv_aload_n hx hb dX5_isCheaper_44 rfl (lv_at hl 2 rfl) ?_
    refine va_get (ci := 4) (v := .ref (a 0)) hx hb hts h_X5 hown hK hP 15 rfl rfl 0 (by decide) f9 (fun _ h9 => h9) rfl dX5_isCheaper_45 ?_
    refine va_get (ci := 8) (v := .ref (a 9)) hx hb hts h_X9 hown hK hP 0 rfl rfl 11 (by decide) f69 (fun _ h9 => h9) rfl dX5_isCheaper_48 ?_
    refine lv_iload_n hx hb dX5_isCheaper_51 rfl (lv_at hl 4 rfl) ?_
    refine zIald (n := 5) (f := y_mi y) (i := k) hx hb hK hP 9 rfl (by omega) (by decide) dX5_isCheaper_52 ?_
    refine lv_aload_n hx hb dX5_isCheaper_53 rfl (lv_at hl 2 rfl) ?_
    refine va_get (ci := 4) (v := .ref (a 0)) hx hb hts h_X5 hown hK hP 15 rfl rfl 0 (by decide) f9 (fun _ h9 => h9) rfl dX5_isCheaper_54 ?_
    refine va_get (ci := 8) (v := .ref (a 9)) hx hb hts h_X9 hown hK hP 0 rfl rfl 11 (by decide) f69 (fun _ h9 => h9) rfl dX5_isCheaper_57 ?_
    refine lv_iload_n hx hb dX5_isCheaper_60 rfl (lv_at hl 5 rfl) ?_
    refine zIald (n := 5) (f := y_mi y) (i := f) hx hb hK hP 9 rfl (by omega) (by decide) dX5_isCheaper_61 ?_
    refine lv_icmp_ge (tgt := 69) hx hb dX5_isCheaper_62 (by decide) (fun c62_2 => ?_) (fun c62_2 => ?_)
    · skip
      refine lv_iconst (v := nI (0)) hx hb dX5_isCheaper_69 (by decide) ?_
      exact zZret () (by decide) hx hb hr hlocks hK hP hD hS dX5_isCheaper_70 (show nI (0) = bI (p_btC y x k f) from (by simp only [bI, p_btC, p_eql, eq_true c27_1, c62_2, p_in, p_worn, p_wi, p_creak, p_le0, p_lt1, not_true_eq_false, not_false_eq_true, if_true, if_false, and_true, true_and, and_false, false_and, or_true, true_or, or_false, false_or, and_self, or_self, iff_true, true_iff, iff_false, false_iff, decide_eq_true_eq, decide_true, decide_false, Int32.add_zero, Nat.add_zero, ne_eq, Bool.false_eq_true, eq_self]))
    · skip
      refine lv_iconst (v := nI (1)) hx hb dX5_isCheaper_65 (by decide) ?_
      refine lv_goto (tgt := 70) hx hb dX5_isCheaper_66 (by decide) ?_
      exact zZret () (by decide) hx hb hr hlocks hK hP hD hS dX5_isCheaper_70 (show nI (1) = bI (p_btC y x k f) from (by simp only [bI, p_btC, p_eql, eq_true c27_1, c62_2, p_in, p_worn, p_wi, p_creak, p_le0, p_lt1, not_true_eq_false, not_false_eq_true, if_true, if_false, and_true, true_and, and_false, false_and, or_true, true_or, or_false, false_or, and_self, or_self, iff_true, true_iff, iff_false, false_iff, decide_eq_true_eq, decide_true, decide_false, Int32.add_zero, Nat.add_zero, ne_eq, Bool.false_eq_true, eq_self]))
  · skip
    refine lv_fload hx hb dX5_isCheaper_30 (lv_at hl 1 rfl) ?_
    refine lv_fload hx hb dX5_isCheaper_32 (lv_at hl 0 rfl) ?_
    refine lv_fcmp hx hb dX5_isCheaper_34 ?_
    refine lv_if_ge (tgt := 42) hx hb dX5_isCheaper_35 (by decide) (fun c35_3 => ?_) (fun c35_3 => ?_)
    · skip
      refine lv_iconst (v := nI (0)) hx hb dX5_isCheaper_42 (by decide) ?_
      exact zZret () (by decide) hx hb hr hlocks hK hP hD hS dX5_isCheaper_43 (show nI (0) = bI (p_btC y x k f) from (by simp only [bI, p_btC, p_eql, c27_1, c35_3, p_in, p_worn, p_wi, p_creak, p_le0, p_lt1, not_true_eq_false, not_false_eq_true, if_true, if_false, and_true, true_and, and_false, false_and, or_true, true_or, or_false, false_or, and_self, or_self, iff_true, true_iff, iff_false, false_iff, decide_eq_true_eq, decide_true, decide_false, Int32.add_zero, Nat.add_zero, ne_eq, Bool.false_eq_true, eq_self]))
    · skip
      refine lv_iconst (v := nI (1)) hx hb dX5_isCheaper_38 (by decide) ?_
      refine lv_goto (tgt := 43) hx hb dX5_isCheaper_39 (by decide) ?_
      exact zZret () (by decide) hx hb hr hlocks hK hP hD hS dX5_isCheaper_43 (show nI (1) = bI (p_btC y x k f) from (by simp only [bI, p_btC, p_eql, c27_1, c35_3, p_in, p_worn, p_wi, p_creak, p_le0, p_lt1, not_true_eq_false, not_false_eq_true, if_true, if_false, and_true, true_and, and_false, false_and, or_true, true_or, or_false, false_or, and_self, or_self, iff_true, true_iff, iff_false, false_iff, decide_eq_true_eq, decide_true, decide_false, Int32.add_zero, Nat.add_zero, ne_eq, Bool.false_eq_true, eq_self]))
abbrev rmX5_cheapestRoad : Room := { frames := 3, cells := 0, slots := 0, locals := 71 }
theorem in_X5_cheapestRoad_X5 : ∀ w ∈ u_ws RX5 TX5 2, w ∈ wsX5_cheapestRoad := by decide +kernel
theorem in_X5_cheapestRoad_X9 : ∀ w ∈ u_ws RX9 TX9 16, w ∈ wsX5_cheapestRoad := by decide +kernel
set_option maxHeartbeats 4000000 in
set_option maxRecDepth 100000 in
theorem kX5_cheapestRoad {D : va_G} {ct : Nat → ClassId} {l : Launch} (a : Nat → Nat) (y : YS) (b : Nat → Nat) (rs : RS) (R : va_W) (x : Nat) (hy : yI y) (hx4 : x < y_cn y) : MI D ct l yX5_cheapestRoad wsX5_cheapestRoad rmX5_cheapestRoad (YW ct a y (KR a b rs R)) [.ref (b 3), .int (nI (x))] (fun r0 (_ : Unit) => r0 = t_chC y x) (fun _ : Unit => YW ct a y (KR a b rs R)) := by
  refine MIof (cc := cX5_cheapestRoad) (maxL := 4) (ret := (some .int)) (by decide) rfl (Nat.le_of_ble_eq_true rfl) ?_
  intro p e s m args below meth c A H locs F hP hK hD hS hA ls hl
  obtain ⟨hx, hb, hr, hlocks, hml, hown, hts, hin⟩ := F
  have hl : lv_has ls 4 [(0, .ref (b 3)), (1, .int (nI (x)))] := hl
  have hkd : ∀ j9, j9 < y_n y → y_kd y j9 = nI 0 ∨ y_kd y j9 = nI 1 := fun j9 hj9 => (hy.2.2.2.1 j9 hj9).1
  have hn : y_n y ≤ 12 := hy.1
  have hcn : y_cn y ≤ 4 := hy.2.1
  have hrn : y_rn y ≤ 5 := hy.2.2.1
  have h_X5 := in_X5_cheapestRoad_X5
  have h_X9 := in_X5_cheapestRoad_X9
  have f9 := hts (.fieldLink RX5 9 "CartArguments$Orders" "yard" "LCartArguments$Yard;") (by decide +kernel)
  have f55 := hts (.fieldLink RX5 55 "CartArguments$Yard" "roads" "I") (by decide +kernel)
  refine lv_aload_n hx hb dX5_cheapestRoad_0 rfl (lv_at hl 0 rfl) ?_
  refine va_get (ci := 4) (v := .ref (a 0)) hx hb hts h_X5 hown hK hP 15 rfl rfl 0 (by decide) f9 (fun _ h9 => h9) rfl dX5_cheapestRoad_1 ?_
  refine lv_iload_n hx hb dX5_cheapestRoad_4 rfl (lv_at hl 1 rfl) ?_
  refine lv_bipush (v := nI (6)) hx hb dX5_cheapestRoad_5 (by decide) ?_
  refine zVI [.int (nI (x)), .int (nI (6))] [] (kX9_thingAt (a) (y) (KR a b rs R) (nI (x)) (nI (6)) (show y_n y ≤ 12 from by omega)) hx hb hml hown hts (cwV 2 hts gX5_cheapestRoad_X9_thingAt rfl rfl rfl (by decide +kernel) ⟨(Nat.le_of_ble_eq_true rfl), (Nat.le_of_ble_eq_true rfl)⟩) hK hP hD hS hA (va_recv hK hP (ci := 8) (q0 := 0) rfl rfl) rfl hl.1 rfl (Nat.le_of_ble_eq_true rfl) dX5_cheapestRoad_7 ⟨(Nat.le_of_ble_eq_true rfl), (Nat.le_of_ble_eq_true rfl)⟩ (fun r_7 _ H locs hr_7 hP hD hS => ?_)
  subst hr_7
  have hP : va_P D vwCl (YW ct a y (KR a b rs R)) H := hP
  have hD : va_D A (YW ct a y (KR a b rs R)) := hD
  refine lv_bipush (v := (-4)) hx hb dX5_cheapestRoad_10 (by decide) ?_
  refine lv_icmp_ne (tgt := 18) hx hb dX5_cheapestRoad_12 (by decide) (fun c12_1 => ?_) (fun c12_1 => ?_)
  · skip
    refine lv_bipush (v := (-4)) hx hb dX5_cheapestRoad_18 (by decide) ?_
    refine lv_istore_n (lv' := [(2, .int ((-4))), (0, .ref (b 3)), (1, .int (nI (x)))]) hx hb dX5_cheapestRoad_20 rfl hl (by decide) rfl (fun ls hl => ?_)
    refine lv_iconst (v := nI (0)) hx hb dX5_cheapestRoad_21 (by decide) ?_
    refine lv_istore_n (lv' := [(3, .int (nI (0))), (2, .int ((-4))), (0, .ref (b 3)), (1, .int (nI (x)))]) hx hb dX5_cheapestRoad_22 rfl hl (by decide) rfl (fun ls hl => ?_)
    have lp23 : ∀ (fu : Nat) (k : Nat) (oo : Option Nat) (H : Heap) (locs : List Loc) (ls : Array Slot), (k ≤ y_rn y) → (∀ f, oo = some f → f < k) → (oo = chC y x k) → y_rn y - k < fu → va_P D vwCl (YW ct a y (KR a b rs R)) H → va_D A (YW ct a y (KR a b rs R)) → va_S A s.heap H locs → lv_has ls 4 [(0, .ref (b 3)), (1, .int (nI (x))), (2, .int (foI oo)), (3, .int (nI (k)))] → W p l e rmX5_cheapestRoad s m args below meth c H locs 0 0 (MQ below (va_Qi (fun r0 (_ : Unit) => r0 = t_chC y x) (zB D ct A (fun _ : Unit => YW ct a y (KR a b rs R))) A) args s rmX5_cheapestRoad.cells rmX5_cheapestRoad.slots A) (F0 m 23 ls []) := by
      intro fu
      induction fu with
      | zero => intro k oo H locs ls hk hof hacc hfu; exact absurd hfu (Nat.not_lt_zero _)
      | succ fu ih23 =>
        intro k oo H locs ls hk hof hacc hfu hP hD hS hl
        refine lv_iload_n hx hb dX5_cheapestRoad_23 rfl (lv_at hl 3 rfl) ?_
        refine lv_aload_n hx hb dX5_cheapestRoad_24 rfl (lv_at hl 0 rfl) ?_
        refine va_get (ci := 4) (v := .ref (a 0)) hx hb hts h_X5 hown hK hP 15 rfl rfl 0 (by decide) f9 (fun _ h9 => h9) rfl dX5_cheapestRoad_25 ?_
        refine va_get (ci := 8) (v := .int (nI (y_rn y))) hx hb hts h_X9 hown hK hP 0 rfl rfl 9 (by decide) f55 (fun _ h9 => h9) rfl dX5_cheapestRoad_28 ?_
        refine zN_icmp_ge (tgt := 70) hx hb (by omega) (by omega) dX5_cheapestRoad_31 (by decide) (fun c31_2 => ?_) (fun c31_2 => ?_)
        · skip
          refine lv_iload_n hx hb dX5_cheapestRoad_70 rfl (lv_at hl 2 rfl) ?_
          exact zIret () hx hb hr hlocks hK hP hD hS dX5_cheapestRoad_71 (show foI oo = t_chC y x from (by obtain rfl : k = y_rn y := (by omega); simp only [hacc, t_chC, c12_1, c31_2, p_in, p_worn, p_wi, p_creak, p_le0, p_lt1, not_true_eq_false, not_false_eq_true, if_true, if_false, and_true, true_and, and_false, false_and, or_true, true_or, or_false, false_or, and_self, or_self, iff_true, true_iff, iff_false, false_iff, decide_eq_true_eq, decide_true, decide_false, Int32.add_zero, Nat.add_zero, ne_eq, Bool.false_eq_true, eq_self]))
        · skip
          refine lv_aload_n hx hb dX5_cheapestRoad_34 rfl (lv_at hl 0 rfl) ?_
          refine va_get (ci := 4) (v := .ref (a 0)) hx hb hts h_X5 hown hK hP 15 rfl rfl 0 (by decide) f9 (fun _ h9 => h9) rfl dX5_cheapestRoad_35 ?_
          refine lv_iload_n hx hb dX5_cheapestRoad_38 rfl (lv_at hl 1 rfl) ?_
          refine lv_iload_n hx hb dX5_cheapestRoad_39 rfl (lv_at hl 3 rfl) ?_
          refine zVI [.int (nI (x)), .int (nI (k))] [] (kX9_isWithinLimit (a) (y) (KR a b rs R) (nI (x)) (k) (show y_n y ≤ 12 from by omega) (show (k) < 5 from by omega)) hx hb hml hown hts (cwV 2 hts gX5_cheapestRoad_X9_isWithinLimit rfl rfl rfl (by decide +kernel) ⟨(Nat.le_of_ble_eq_true rfl), (Nat.le_of_ble_eq_true rfl)⟩) hK hP hD hS hA (va_recv hK hP (ci := 8) (q0 := 0) rfl rfl) rfl hl.1 rfl (Nat.le_of_ble_eq_true rfl) dX5_cheapestRoad_40 ⟨(Nat.le_of_ble_eq_true rfl), (Nat.le_of_ble_eq_true rfl)⟩ (fun r_40 _ H locs hr_40 hP hD hS => ?_)
          subst hr_40
          have hP : va_P D vwCl (YW ct a y (KR a b rs R)) H := hP
          have hD : va_D A (YW ct a y (KR a b rs R)) := hD
          refine zB_if_eq (tgt := 64) hx hb dX5_cheapestRoad_43 (by decide) (fun c43_3 => ?_) (fun c43_3 => ?_)
          · skip
            refine lv_iinc (v := nI ((k + 1))) (lv' := [(3, .int (nI ((k + 1)))), (0, .ref (b 3)), (1, .int (nI (x))), (2, .int (foI oo))]) hx hb dX5_cheapestRoad_64 hl (k := 3) rfl (zInc _) (by decide) rfl (fun ls hl => ?_)
            refine lv_goto (tgt := 23) hx hb dX5_cheapestRoad_67 (by decide) ?_
            exact ih23 ((k + 1)) (oo) H locs ls (by omega) (fun f h => Nat.lt_succ_of_lt (hof f h)) (by simp only [chC, ← hacc, c12_1, c31_2, c43_3, p_in, p_worn, p_wi, p_creak, p_le0, p_lt1, not_true_eq_false, not_false_eq_true, if_true, if_false, and_true, true_and, and_false, false_and, or_true, true_or, or_false, false_or, and_self, or_self, iff_true, true_iff, iff_false, false_iff, decide_eq_true_eq, decide_true, decide_false, Int32.add_zero, Nat.add_zero, ne_eq, Bool.false_eq_true, eq_self]) (by omega) hP hD hS (lv_sub hl [1, 2, 3, 0] rfl)
          · skip
            rcases oo with _ | ff
            · skip
              have hl : lv_has ls 4 [(0, .ref (b 3)), (1, .int (nI (x))), (2, .int ((-4))), (3, .int (nI (k)))] := hl
              refine lv_iload_n hx hb dX5_cheapestRoad_46 rfl (lv_at hl 2 rfl) ?_
              refine lv_bipush (v := (-4)) hx hb dX5_cheapestRoad_47 (by decide) ?_
              refine lv_icmp_eq (tgt := 62) hx hb dX5_cheapestRoad_49 (by decide) (fun c9 => ?_) (fun c9 => absurd rfl c9)
              refine lv_iload_n hx hb dX5_cheapestRoad_62 rfl (lv_at hl 3 rfl) ?_
              refine lv_istore_n (lv' := [(2, .int (nI (k))), (0, .ref (b 3)), (1, .int (nI (x))), (3, .int (nI (k)))]) hx hb dX5_cheapestRoad_63 rfl hl (by decide) rfl (fun ls hl => ?_)
              refine lv_iinc (v := nI ((k + 1))) (lv' := [(3, .int (nI ((k + 1)))), (2, .int (nI (k))), (0, .ref (b 3)), (1, .int (nI (x)))]) hx hb dX5_cheapestRoad_64 hl (k := 3) rfl (zInc _) (by decide) rfl (fun ls hl => ?_)
              refine lv_goto (tgt := 23) hx hb dX5_cheapestRoad_67 (by decide) ?_
              exact ih23 ((k + 1)) (some k) H locs ls (by omega) (fun f h => by cases h; omega) (by simp only [chC, ← hacc, c12_1, c31_2, c43_3, p_in, p_worn, p_wi, p_creak, p_le0, p_lt1, not_true_eq_false, not_false_eq_true, if_true, if_false, and_true, true_and, and_false, false_and, or_true, true_or, or_false, false_or, and_self, or_self, iff_true, true_iff, iff_false, false_iff, decide_eq_true_eq, decide_true, decide_false, Int32.add_zero, Nat.add_zero, ne_eq, Bool.false_eq_true, eq_self]) (by omega) hP hD hS (lv_sub hl [2, 3, 1, 0] rfl)
            · skip
              have hl : lv_has ls 4 [(0, .ref (b 3)), (1, .int (nI (x))), (2, .int (nI (ff))), (3, .int (nI (k)))] := hl
              have hff : ff < k := hof ff rfl
              refine lv_iload_n hx hb dX5_cheapestRoad_46 rfl (lv_at hl 2 rfl) ?_
              refine lv_bipush (v := (-4)) hx hb dX5_cheapestRoad_47 (by decide) ?_
              refine lv_icmp_eq (tgt := 62) hx hb dX5_cheapestRoad_49 (by decide) (fun c49_5 => ?_) (fun c49_5 => ?_)
              · skip
                exact absurd c49_5 (nI_ne4 (by omega))
              · skip
                refine lv_aload_n hx hb dX5_cheapestRoad_52 rfl (lv_at hl 0 rfl) ?_
                refine lv_iload_n hx hb dX5_cheapestRoad_53 rfl (lv_at hl 1 rfl) ?_
                refine lv_iload_n hx hb dX5_cheapestRoad_54 rfl (lv_at hl 3 rfl) ?_
                refine lv_iload_n hx hb dX5_cheapestRoad_55 rfl (lv_at hl 2 rfl) ?_
                refine zVI [.int (nI (x)), .int (nI (k)), .int (nI (ff))] [] (kX5_isCheaper (a) (y) (b) (rs) (R) (x) (k) (ff) (show yI y from hy) (show (x) < y_cn y from by omega) (show (k) < y_rn y from (show k < y_rn y from by omega)) (show (ff) < y_rn y from (show ff < y_rn y from by omega))) hx hb hml hown hts (cwV 3 hts gX5_cheapestRoad_X5_isCheaper rfl rfl rfl (by decide +kernel) ⟨(Nat.le_of_ble_eq_true rfl), (Nat.le_of_ble_eq_true rfl)⟩) hK hP hD hS hA (va_recv hK hP (ci := 4) (q0 := 15) rfl rfl) rfl hl.1 rfl (Nat.le_of_ble_eq_true rfl) dX5_cheapestRoad_56 ⟨(Nat.le_of_ble_eq_true rfl), (Nat.le_of_ble_eq_true rfl)⟩ (fun r_56 _ H locs hr_56 hP hD hS => ?_)
                subst hr_56
                have hP : va_P D vwCl (YW ct a y (KR a b rs R)) H := hP
                have hD : va_D A (YW ct a y (KR a b rs R)) := hD
                refine zB_if_eq (tgt := 64) hx hb dX5_cheapestRoad_59 (by decide) (fun c59_6 => ?_) (fun c59_6 => ?_)
                · skip
                  refine lv_iinc (v := nI ((k + 1))) (lv' := [(3, .int (nI ((k + 1)))), (0, .ref (b 3)), (1, .int (nI (x))), (2, .int (nI (ff)))]) hx hb dX5_cheapestRoad_64 hl (k := 3) rfl (zInc _) (by decide) rfl (fun ls hl => ?_)
                  refine lv_goto (tgt := 23) hx hb dX5_cheapestRoad_67 (by decide) ?_
                  exact ih23 ((k + 1)) (some ff) H locs ls (by omega) (fun f h => by cases h; omega) (by simp only [chC, ← hacc, c12_1, c31_2, c43_3, c49_5, c59_6, p_in, p_worn, p_wi, p_creak, p_le0, p_lt1, not_true_eq_false, not_false_eq_true, if_true, if_false, and_true, true_and, and_false, false_and, or_true, true_or, or_false, false_or, and_self, or_self, iff_true, true_iff, iff_false, false_iff, decide_eq_true_eq, decide_true, decide_false, Int32.add_zero, Nat.add_zero, ne_eq, Bool.false_eq_true, eq_self]) (by omega) hP hD hS (lv_sub hl [1, 2, 3, 0] rfl)
                · skip
                  refine lv_iload_n hx hb dX5_cheapestRoad_62 rfl (lv_at hl 3 rfl) ?_
                  refine lv_istore_n (lv' := [(2, .int (nI (k))), (0, .ref (b 3)), (1, .int (nI (x))), (3, .int (nI (k)))]) hx hb dX5_cheapestRoad_63 rfl hl (by decide) rfl (fun ls hl => ?_)
                  refine lv_iinc (v := nI ((k + 1))) (lv' := [(3, .int (nI ((k + 1)))), (2, .int (nI (k))), (0, .ref (b 3)), (1, .int (nI (x)))]) hx hb dX5_cheapestRoad_64 hl (k := 3) rfl (zInc _) (by decide) rfl (fun ls hl => ?_)
                  refine lv_goto (tgt := 23) hx hb dX5_cheapestRoad_67 (by decide) ?_
                  exact ih23 ((k + 1)) (some k) H locs ls (by omega) (fun f h => by cases h; omega) (by simp only [chC, ← hacc, c12_1, c31_2, c43_3, c49_5, c59_6, p_in, p_worn, p_wi, p_creak, p_le0, p_lt1, not_true_eq_false, not_false_eq_true, if_true, if_false, and_true, true_and, and_false, false_and, or_true, true_or, or_false, false_or, and_self, or_self, iff_true, true_iff, iff_false, false_iff, decide_eq_true_eq, decide_true, decide_false, Int32.add_zero, Nat.add_zero, ne_eq, Bool.false_eq_true, eq_self]) (by omega) hP hD hS (lv_sub hl [2, 3, 1, 0] rfl)
    exact lp23 ((y_rn y - (0)) + 1) (0) (none) H locs ls (by omega) (fun f h => nomatch h) rfl (Nat.lt_succ_self _) hP hD hS (lv_sub hl [2, 3, 1, 0] rfl)
  · skip
    refine lv_bipush (v := (-4)) hx hb dX5_cheapestRoad_15 (by decide) ?_
    exact zIret () hx hb hr hlocks hK hP hD hS dX5_cheapestRoad_17 (show (-4) = t_chC y x from (by simp only [t_chC, eq_true c12_1, p_in, p_worn, p_wi, p_creak, p_le0, p_lt1, not_true_eq_false, not_false_eq_true, if_true, if_false, and_true, true_and, and_false, false_and, or_true, true_or, or_false, false_or, and_self, or_self, iff_true, true_iff, iff_false, false_iff, decide_eq_true_eq, decide_true, decide_false, Int32.add_zero, Nat.add_zero, ne_eq, Bool.false_eq_true, eq_self]))
abbrev rmX9_copyFrom : Room := { frames := 1, cells := 0, slots := 0, locals := 40 }
theorem in_X9_copyFrom_X9 : ∀ w ∈ u_ws RX9 TX9 16, w ∈ wsX9_copyFrom := by decide +kernel
set_option maxHeartbeats 4000000 in
set_option maxRecDepth 100000 in
theorem kX9_copyFrom {D : va_G} {ct : Nat → ClassId} {l : Launch} (a : Nat → Nat) (y : YS) (a2 : Nat → Nat) (y2 : YS) (R : va_W)  : MV D ct l yX9_copyFrom wsX9_copyFrom rmX9_copyFrom (YW ct a y (YW ct a2 y2 R)) [.ref (a 0), .ref (a2 0)] (fun _ : Unit => True) (fun _ : Unit => YW ct a y2 (YW ct a2 y2 R)) := by
  refine MVof (cc := cX9_copyFrom) (maxL := 2) (ret := none) (by decide) rfl (Nat.le_of_ble_eq_true rfl) ?_
  intro p e s m args below meth c A H locs F hP hK hD hS hA ls hl
  obtain ⟨hx, hb, hr, hlocks, hml, hown, hts, hin⟩ := F
  have hl : lv_has ls 2 [(0, .ref (a 0)), (1, .ref (a2 0))] := hl
  have h_X9 := in_X9_copyFrom_X9
  have f9 := hts (.fieldLink RX9 9 "CartArguments$Yard" "kinds" "[I") (by decide +kernel)
  have f15 := hts (.fieldLink RX9 15 "CartArguments$Yard" "weights" "[I") (by decide +kernel)
  have f18 := hts (.fieldLink RX9 18 "CartArguments$Yard" "cartsUnder" "[I") (by decide +kernel)
  have f21 := hts (.fieldLink RX9 21 "CartArguments$Yard" "places" "[I") (by decide +kernel)
  have f24 := hts (.fieldLink RX9 24 "CartArguments$Yard" "strengths" "[I") (by decide +kernel)
  have f27 := hts (.fieldLink RX9 27 "CartArguments$Yard" "wears" "[F") (by decide +kernel)
  have f31 := hts (.fieldLink RX9 31 "CartArguments$Yard" "cartTrips" "[I") (by decide +kernel)
  have f34 := hts (.fieldLink RX9 34 "CartArguments$Yard" "limits" "[I") (by decide +kernel)
  have f37 := hts (.fieldLink RX9 37 "CartArguments$Yard" "miles" "[I") (by decide +kernel)
  have f40 := hts (.fieldLink RX9 40 "CartArguments$Yard" "rates" "[I") (by decide +kernel)
  have f43 := hts (.fieldLink RX9 43 "CartArguments$Yard" "roadTrips" "[I") (by decide +kernel)
  have f46 := hts (.fieldLink RX9 46 "CartArguments$Yard" "things" "I") (by decide +kernel)
  have f50 := hts (.fieldLink RX9 50 "CartArguments$Yard" "carts" "I") (by decide +kernel)
  have f53 := hts (.fieldLink RX9 53 "CartArguments$Yard" "roads" "I") (by decide +kernel)
  have f56 := hts (.fieldLink RX9 56 "CartArguments$Yard" "tollsPaid" "F") (by decide +kernel)
  have f60 := hts (.fieldLink RX9 60 "CartArguments$Yard" "milesMade" "I") (by decide +kernel)
  refine lv_aload_n hx hb dX9_copyFrom_0 rfl (lv_at hl 0 rfl) ?_
  refine lv_aload_n hx hb dX9_copyFrom_1 rfl (lv_at hl 1 rfl) ?_
  refine va_get (ci := 8) (v := .int (nI (y_n y2))) hx hb hts h_X9 hown hK hP 12 rfl rfl 0 (by decide) f46 (fun _ h9 => h9) rfl dX9_copyFrom_2 ?_
  refine va_put (ci := 8) (v := .int (nI (y_n y2))) (ty := .int) hx hb hts h_X9 tyX9 tyX9_ok nmX9 hown hK hP hD hS 0 rfl rfl 0 (by decide) f46 (fun _ h9 => h9) rfl (by decide +kernel) rfl rfl (Nat.le_of_ble_eq_true rfl) dX9_copyFrom_5 (fun H locs hP hD hS => ?_)
  have hP : va_P D vwCl (YW ct a (y_n y2, y_kd y, y_w y, y_cu y, y_pl y, y_cn y, y_st y, y_wr y, y_tr y, y_rn y, y_li y, y_mi y, y_ra y, y_rt y, y_tl y, y_mm y) (YW ct a2 y2 R)) H := hP
  have hD : va_D A (YW ct a (y_n y2, y_kd y, y_w y, y_cu y, y_pl y, y_cn y, y_st y, y_wr y, y_tr y, y_rn y, y_li y, y_mi y, y_ra y, y_rt y, y_tl y, y_mm y) (YW ct a2 y2 R)) := hD
  refine lv_aload_n hx hb dX9_copyFrom_8 rfl (lv_at hl 1 rfl) ?_
  refine va_get (ci := 8) (v := .ref (a2 1)) hx hb hts h_X9 hown hK hP 12 rfl rfl 1 (by decide) f9 (fun _ h9 => h9) rfl dX9_copyFrom_9 ?_
  refine lv_iconst (v := nI (0)) hx hb dX9_copyFrom_12 (by decide) ?_
  refine lv_aload_n hx hb dX9_copyFrom_13 rfl (lv_at hl 0 rfl) ?_
  refine va_get (ci := 8) (v := .ref (a 1)) hx hb hts h_X9 hown hK hP 0 rfl rfl 1 (by decide) f9 (fun _ h9 => h9) rfl dX9_copyFrom_14 ?_
  refine lv_iconst (v := nI (0)) hx hb dX9_copyFrom_17 (by decide) ?_
  refine lv_bipush (v := nI (12)) hx hb dX9_copyFrom_18 (by decide) ?_
  refine zCopyI (N := 12) (f := y_kd y2) (g := y_kd y) hx hb (hml.trans hl.1.symm) hown (hts (.methodLink RX9 63 arraycopyName) (by decide +kernel)) (hts (.native arraycopyName) (by decide +kernel)) (hts (.static arraycopyName) (by decide +kernel)) (hts (.initialized "java/lang/System") (by decide +kernel)) hK hP hD hS 13 1 rfl rfl (by decide) (Nat.le_of_ble_eq_true rfl) (Nat.le_of_ble_eq_true rfl) dX9_copyFrom_20 (fun H locs hP hD hS => ?_)
  have hP : va_P D vwCl (YW ct a (y_n y2, y_kd y2, y_w y, y_cu y, y_pl y, y_cn y, y_st y, y_wr y, y_tr y, y_rn y, y_li y, y_mi y, y_ra y, y_rt y, y_tl y, y_mm y) (YW ct a2 y2 R)) H := hP
  have hD : va_D A (YW ct a (y_n y2, y_kd y2, y_w y, y_cu y, y_pl y, y_cn y, y_st y, y_wr y, y_tr y, y_rn y, y_li y, y_mi y, y_ra y, y_rt y, y_tl y, y_mm y) (YW ct a2 y2 R)) := hD
  refine lv_aload_n hx hb dX9_copyFrom_23 rfl (lv_at hl 1 rfl) ?_
  refine va_get (ci := 8) (v := .ref (a2 2)) hx hb hts h_X9 hown hK hP 12 rfl rfl 2 (by decide) f15 (fun _ h9 => h9) rfl dX9_copyFrom_24 ?_
  refine lv_iconst (v := nI (0)) hx hb dX9_copyFrom_27 (by decide) ?_
  refine lv_aload_n hx hb dX9_copyFrom_28 rfl (lv_at hl 0 rfl) ?_
  refine va_get (ci := 8) (v := .ref (a 2)) hx hb hts h_X9 hown hK hP 0 rfl rfl 2 (by decide) f15 (fun _ h9 => h9) rfl dX9_copyFrom_29 ?_
  refine lv_iconst (v := nI (0)) hx hb dX9_copyFrom_32 (by decide) ?_
  refine lv_bipush (v := nI (12)) hx hb dX9_copyFrom_33 (by decide) ?_
  refine zCopyI (N := 12) (f := y_w y2) (g := y_w y) hx hb (hml.trans hl.1.symm) hown (hts (.methodLink RX9 63 arraycopyName) (by decide +kernel)) (hts (.native arraycopyName) (by decide +kernel)) (hts (.static arraycopyName) (by decide +kernel)) (hts (.initialized "java/lang/System") (by decide +kernel)) hK hP hD hS 14 2 rfl rfl (by decide) (Nat.le_of_ble_eq_true rfl) (Nat.le_of_ble_eq_true rfl) dX9_copyFrom_35 (fun H locs hP hD hS => ?_)
  have hP : va_P D vwCl (YW ct a (y_n y2, y_kd y2, y_w y2, y_cu y, y_pl y, y_cn y, y_st y, y_wr y, y_tr y, y_rn y, y_li y, y_mi y, y_ra y, y_rt y, y_tl y, y_mm y) (YW ct a2 y2 R)) H := hP
  have hD : va_D A (YW ct a (y_n y2, y_kd y2, y_w y2, y_cu y, y_pl y, y_cn y, y_st y, y_wr y, y_tr y, y_rn y, y_li y, y_mi y, y_ra y, y_rt y, y_tl y, y_mm y) (YW ct a2 y2 R)) := hD
  refine lv_aload_n hx hb dX9_copyFrom_38 rfl (lv_at hl 1 rfl) ?_
  refine va_get (ci := 8) (v := .ref (a2 3)) hx hb hts h_X9 hown hK hP 12 rfl rfl 3 (by decide) f18 (fun _ h9 => h9) rfl dX9_copyFrom_39 ?_
  refine lv_iconst (v := nI (0)) hx hb dX9_copyFrom_42 (by decide) ?_
  refine lv_aload_n hx hb dX9_copyFrom_43 rfl (lv_at hl 0 rfl) ?_
  refine va_get (ci := 8) (v := .ref (a 3)) hx hb hts h_X9 hown hK hP 0 rfl rfl 3 (by decide) f18 (fun _ h9 => h9) rfl dX9_copyFrom_44 ?_
  refine lv_iconst (v := nI (0)) hx hb dX9_copyFrom_47 (by decide) ?_
  refine lv_bipush (v := nI (12)) hx hb dX9_copyFrom_48 (by decide) ?_
  refine zCopyI (N := 12) (f := y_cu y2) (g := y_cu y) hx hb (hml.trans hl.1.symm) hown (hts (.methodLink RX9 63 arraycopyName) (by decide +kernel)) (hts (.native arraycopyName) (by decide +kernel)) (hts (.static arraycopyName) (by decide +kernel)) (hts (.initialized "java/lang/System") (by decide +kernel)) hK hP hD hS 15 3 rfl rfl (by decide) (Nat.le_of_ble_eq_true rfl) (Nat.le_of_ble_eq_true rfl) dX9_copyFrom_50 (fun H locs hP hD hS => ?_)
  have hP : va_P D vwCl (YW ct a (y_n y2, y_kd y2, y_w y2, y_cu y2, y_pl y, y_cn y, y_st y, y_wr y, y_tr y, y_rn y, y_li y, y_mi y, y_ra y, y_rt y, y_tl y, y_mm y) (YW ct a2 y2 R)) H := hP
  have hD : va_D A (YW ct a (y_n y2, y_kd y2, y_w y2, y_cu y2, y_pl y, y_cn y, y_st y, y_wr y, y_tr y, y_rn y, y_li y, y_mi y, y_ra y, y_rt y, y_tl y, y_mm y) (YW ct a2 y2 R)) := hD
  refine lv_aload_n hx hb dX9_copyFrom_53 rfl (lv_at hl 1 rfl) ?_
  refine va_get (ci := 8) (v := .ref (a2 4)) hx hb hts h_X9 hown hK hP 12 rfl rfl 4 (by decide) f21 (fun _ h9 => h9) rfl dX9_copyFrom_54 ?_
  refine lv_iconst (v := nI (0)) hx hb dX9_copyFrom_57 (by decide) ?_
  refine lv_aload_n hx hb dX9_copyFrom_58 rfl (lv_at hl 0 rfl) ?_
  refine va_get (ci := 8) (v := .ref (a 4)) hx hb hts h_X9 hown hK hP 0 rfl rfl 4 (by decide) f21 (fun _ h9 => h9) rfl dX9_copyFrom_59 ?_
  refine lv_iconst (v := nI (0)) hx hb dX9_copyFrom_62 (by decide) ?_
  refine lv_bipush (v := nI (12)) hx hb dX9_copyFrom_63 (by decide) ?_
  refine zCopyI (N := 12) (f := y_pl y2) (g := y_pl y) hx hb (hml.trans hl.1.symm) hown (hts (.methodLink RX9 63 arraycopyName) (by decide +kernel)) (hts (.native arraycopyName) (by decide +kernel)) (hts (.static arraycopyName) (by decide +kernel)) (hts (.initialized "java/lang/System") (by decide +kernel)) hK hP hD hS 16 4 rfl rfl (by decide) (Nat.le_of_ble_eq_true rfl) (Nat.le_of_ble_eq_true rfl) dX9_copyFrom_65 (fun H locs hP hD hS => ?_)
  have hP : va_P D vwCl (YW ct a (y_n y2, y_kd y2, y_w y2, y_cu y2, y_pl y2, y_cn y, y_st y, y_wr y, y_tr y, y_rn y, y_li y, y_mi y, y_ra y, y_rt y, y_tl y, y_mm y) (YW ct a2 y2 R)) H := hP
  have hD : va_D A (YW ct a (y_n y2, y_kd y2, y_w y2, y_cu y2, y_pl y2, y_cn y, y_st y, y_wr y, y_tr y, y_rn y, y_li y, y_mi y, y_ra y, y_rt y, y_tl y, y_mm y) (YW ct a2 y2 R)) := hD
  refine lv_aload_n hx hb dX9_copyFrom_68 rfl (lv_at hl 0 rfl) ?_
  refine lv_aload_n hx hb dX9_copyFrom_69 rfl (lv_at hl 1 rfl) ?_
  refine va_get (ci := 8) (v := .int (nI (y_cn y2))) hx hb hts h_X9 hown hK hP 12 rfl rfl 5 (by decide) f50 (fun _ h9 => h9) rfl dX9_copyFrom_70 ?_
  refine va_put (ci := 8) (v := .int (nI (y_cn y2))) (ty := .int) hx hb hts h_X9 tyX9 tyX9_ok nmX9 hown hK hP hD hS 0 rfl rfl 5 (by decide) f50 (fun _ h9 => h9) rfl (by decide +kernel) rfl rfl (Nat.le_of_ble_eq_true rfl) dX9_copyFrom_73 (fun H locs hP hD hS => ?_)
  have hP : va_P D vwCl (YW ct a (y_n y2, y_kd y2, y_w y2, y_cu y2, y_pl y2, y_cn y2, y_st y, y_wr y, y_tr y, y_rn y, y_li y, y_mi y, y_ra y, y_rt y, y_tl y, y_mm y) (YW ct a2 y2 R)) H := hP
  have hD : va_D A (YW ct a (y_n y2, y_kd y2, y_w y2, y_cu y2, y_pl y2, y_cn y2, y_st y, y_wr y, y_tr y, y_rn y, y_li y, y_mi y, y_ra y, y_rt y, y_tl y, y_mm y) (YW ct a2 y2 R)) := hD
  refine lv_aload_n hx hb dX9_copyFrom_76 rfl (lv_at hl 1 rfl) ?_
  refine va_get (ci := 8) (v := .ref (a2 5)) hx hb hts h_X9 hown hK hP 12 rfl rfl 6 (by decide) f24 (fun _ h9 => h9) rfl dX9_copyFrom_77 ?_
  refine lv_iconst (v := nI (0)) hx hb dX9_copyFrom_80 (by decide) ?_
  refine lv_aload_n hx hb dX9_copyFrom_81 rfl (lv_at hl 0 rfl) ?_
  refine va_get (ci := 8) (v := .ref (a 5)) hx hb hts h_X9 hown hK hP 0 rfl rfl 6 (by decide) f24 (fun _ h9 => h9) rfl dX9_copyFrom_82 ?_
  refine lv_iconst (v := nI (0)) hx hb dX9_copyFrom_85 (by decide) ?_
  refine lv_iconst (v := nI (4)) hx hb dX9_copyFrom_86 (by decide) ?_
  refine zCopyI (N := 4) (f := y_st y2) (g := y_st y) hx hb (hml.trans hl.1.symm) hown (hts (.methodLink RX9 63 arraycopyName) (by decide +kernel)) (hts (.native arraycopyName) (by decide +kernel)) (hts (.static arraycopyName) (by decide +kernel)) (hts (.initialized "java/lang/System") (by decide +kernel)) hK hP hD hS 17 5 rfl rfl (by decide) (Nat.le_of_ble_eq_true rfl) (Nat.le_of_ble_eq_true rfl) dX9_copyFrom_87 (fun H locs hP hD hS => ?_)
  have hP : va_P D vwCl (YW ct a (y_n y2, y_kd y2, y_w y2, y_cu y2, y_pl y2, y_cn y2, y_st y2, y_wr y, y_tr y, y_rn y, y_li y, y_mi y, y_ra y, y_rt y, y_tl y, y_mm y) (YW ct a2 y2 R)) H := hP
  have hD : va_D A (YW ct a (y_n y2, y_kd y2, y_w y2, y_cu y2, y_pl y2, y_cn y2, y_st y2, y_wr y, y_tr y, y_rn y, y_li y, y_mi y, y_ra y, y_rt y, y_tl y, y_mm y) (YW ct a2 y2 R)) := hD
  refine lv_aload_n hx hb dX9_copyFrom_90 rfl (lv_at hl 1 rfl) ?_
  refine va_get (ci := 8) (v := .ref (a2 6)) hx hb hts h_X9 hown hK hP 12 rfl rfl 7 (by decide) f27 (fun _ h9 => h9) rfl dX9_copyFrom_91 ?_
  refine lv_iconst (v := nI (0)) hx hb dX9_copyFrom_94 (by decide) ?_
  refine lv_aload_n hx hb dX9_copyFrom_95 rfl (lv_at hl 0 rfl) ?_
  refine va_get (ci := 8) (v := .ref (a 6)) hx hb hts h_X9 hown hK hP 0 rfl rfl 7 (by decide) f27 (fun _ h9 => h9) rfl dX9_copyFrom_96 ?_
  refine lv_iconst (v := nI (0)) hx hb dX9_copyFrom_99 (by decide) ?_
  refine lv_bipush (v := nI (8)) hx hb dX9_copyFrom_100 (by decide) ?_
  refine zCopyF (N := 8) (f := y_wr y2) (g := y_wr y) hx hb (hml.trans hl.1.symm) hown (hts (.methodLink RX9 63 arraycopyName) (by decide +kernel)) (hts (.native arraycopyName) (by decide +kernel)) (hts (.static arraycopyName) (by decide +kernel)) (hts (.initialized "java/lang/System") (by decide +kernel)) hK hP hD hS 18 6 rfl rfl (by decide) (Nat.le_of_ble_eq_true rfl) (Nat.le_of_ble_eq_true rfl) dX9_copyFrom_102 (fun H locs hP hD hS => ?_)
  have hP : va_P D vwCl (YW ct a (y_n y2, y_kd y2, y_w y2, y_cu y2, y_pl y2, y_cn y2, y_st y2, y_wr y2, y_tr y, y_rn y, y_li y, y_mi y, y_ra y, y_rt y, y_tl y, y_mm y) (YW ct a2 y2 R)) H := hP
  have hD : va_D A (YW ct a (y_n y2, y_kd y2, y_w y2, y_cu y2, y_pl y2, y_cn y2, y_st y2, y_wr y2, y_tr y, y_rn y, y_li y, y_mi y, y_ra y, y_rt y, y_tl y, y_mm y) (YW ct a2 y2 R)) := hD
  refine lv_aload_n hx hb dX9_copyFrom_105 rfl (lv_at hl 1 rfl) ?_
  refine va_get (ci := 8) (v := .ref (a2 7)) hx hb hts h_X9 hown hK hP 12 rfl rfl 8 (by decide) f31 (fun _ h9 => h9) rfl dX9_copyFrom_106 ?_
  refine lv_iconst (v := nI (0)) hx hb dX9_copyFrom_109 (by decide) ?_
  refine lv_aload_n hx hb dX9_copyFrom_110 rfl (lv_at hl 0 rfl) ?_
  refine va_get (ci := 8) (v := .ref (a 7)) hx hb hts h_X9 hown hK hP 0 rfl rfl 8 (by decide) f31 (fun _ h9 => h9) rfl dX9_copyFrom_111 ?_
  refine lv_iconst (v := nI (0)) hx hb dX9_copyFrom_114 (by decide) ?_
  refine lv_iconst (v := nI (4)) hx hb dX9_copyFrom_115 (by decide) ?_
  refine zCopyI (N := 4) (f := y_tr y2) (g := y_tr y) hx hb (hml.trans hl.1.symm) hown (hts (.methodLink RX9 63 arraycopyName) (by decide +kernel)) (hts (.native arraycopyName) (by decide +kernel)) (hts (.static arraycopyName) (by decide +kernel)) (hts (.initialized "java/lang/System") (by decide +kernel)) hK hP hD hS 19 7 rfl rfl (by decide) (Nat.le_of_ble_eq_true rfl) (Nat.le_of_ble_eq_true rfl) dX9_copyFrom_116 (fun H locs hP hD hS => ?_)
  have hP : va_P D vwCl (YW ct a (y_n y2, y_kd y2, y_w y2, y_cu y2, y_pl y2, y_cn y2, y_st y2, y_wr y2, y_tr y2, y_rn y, y_li y, y_mi y, y_ra y, y_rt y, y_tl y, y_mm y) (YW ct a2 y2 R)) H := hP
  have hD : va_D A (YW ct a (y_n y2, y_kd y2, y_w y2, y_cu y2, y_pl y2, y_cn y2, y_st y2, y_wr y2, y_tr y2, y_rn y, y_li y, y_mi y, y_ra y, y_rt y, y_tl y, y_mm y) (YW ct a2 y2 R)) := hD
  refine lv_aload_n hx hb dX9_copyFrom_119 rfl (lv_at hl 0 rfl) ?_
  refine lv_aload_n hx hb dX9_copyFrom_120 rfl (lv_at hl 1 rfl) ?_
  refine va_get (ci := 8) (v := .int (nI (y_rn y2))) hx hb hts h_X9 hown hK hP 12 rfl rfl 9 (by decide) f53 (fun _ h9 => h9) rfl dX9_copyFrom_121 ?_
  refine va_put (ci := 8) (v := .int (nI (y_rn y2))) (ty := .int) hx hb hts h_X9 tyX9 tyX9_ok nmX9 hown hK hP hD hS 0 rfl rfl 9 (by decide) f53 (fun _ h9 => h9) rfl (by decide +kernel) rfl rfl (Nat.le_of_ble_eq_true rfl) dX9_copyFrom_124 (fun H locs hP hD hS => ?_)
  have hP : va_P D vwCl (YW ct a (y_n y2, y_kd y2, y_w y2, y_cu y2, y_pl y2, y_cn y2, y_st y2, y_wr y2, y_tr y2, y_rn y2, y_li y, y_mi y, y_ra y, y_rt y, y_tl y, y_mm y) (YW ct a2 y2 R)) H := hP
  have hD : va_D A (YW ct a (y_n y2, y_kd y2, y_w y2, y_cu y2, y_pl y2, y_cn y2, y_st y2, y_wr y2, y_tr y2, y_rn y2, y_li y, y_mi y, y_ra y, y_rt y, y_tl y, y_mm y) (YW ct a2 y2 R)) := hD
  refine lv_aload_n hx hb dX9_copyFrom_127 rfl (lv_at hl 1 rfl) ?_
  refine va_get (ci := 8) (v := .ref (a2 8)) hx hb hts h_X9 hown hK hP 12 rfl rfl 10 (by decide) f34 (fun _ h9 => h9) rfl dX9_copyFrom_128 ?_
  refine lv_iconst (v := nI (0)) hx hb dX9_copyFrom_131 (by decide) ?_
  refine lv_aload_n hx hb dX9_copyFrom_132 rfl (lv_at hl 0 rfl) ?_
  refine va_get (ci := 8) (v := .ref (a 8)) hx hb hts h_X9 hown hK hP 0 rfl rfl 10 (by decide) f34 (fun _ h9 => h9) rfl dX9_copyFrom_133 ?_
  refine lv_iconst (v := nI (0)) hx hb dX9_copyFrom_136 (by decide) ?_
  refine lv_iconst (v := nI (5)) hx hb dX9_copyFrom_137 (by decide) ?_
  refine zCopyI (N := 5) (f := y_li y2) (g := y_li y) hx hb (hml.trans hl.1.symm) hown (hts (.methodLink RX9 63 arraycopyName) (by decide +kernel)) (hts (.native arraycopyName) (by decide +kernel)) (hts (.static arraycopyName) (by decide +kernel)) (hts (.initialized "java/lang/System") (by decide +kernel)) hK hP hD hS 20 8 rfl rfl (by decide) (Nat.le_of_ble_eq_true rfl) (Nat.le_of_ble_eq_true rfl) dX9_copyFrom_138 (fun H locs hP hD hS => ?_)
  have hP : va_P D vwCl (YW ct a (y_n y2, y_kd y2, y_w y2, y_cu y2, y_pl y2, y_cn y2, y_st y2, y_wr y2, y_tr y2, y_rn y2, y_li y2, y_mi y, y_ra y, y_rt y, y_tl y, y_mm y) (YW ct a2 y2 R)) H := hP
  have hD : va_D A (YW ct a (y_n y2, y_kd y2, y_w y2, y_cu y2, y_pl y2, y_cn y2, y_st y2, y_wr y2, y_tr y2, y_rn y2, y_li y2, y_mi y, y_ra y, y_rt y, y_tl y, y_mm y) (YW ct a2 y2 R)) := hD
  refine lv_aload_n hx hb dX9_copyFrom_141 rfl (lv_at hl 1 rfl) ?_
  refine va_get (ci := 8) (v := .ref (a2 9)) hx hb hts h_X9 hown hK hP 12 rfl rfl 11 (by decide) f37 (fun _ h9 => h9) rfl dX9_copyFrom_142 ?_
  refine lv_iconst (v := nI (0)) hx hb dX9_copyFrom_145 (by decide) ?_
  refine lv_aload_n hx hb dX9_copyFrom_146 rfl (lv_at hl 0 rfl) ?_
  refine va_get (ci := 8) (v := .ref (a 9)) hx hb hts h_X9 hown hK hP 0 rfl rfl 11 (by decide) f37 (fun _ h9 => h9) rfl dX9_copyFrom_147 ?_
  refine lv_iconst (v := nI (0)) hx hb dX9_copyFrom_150 (by decide) ?_
  refine lv_iconst (v := nI (5)) hx hb dX9_copyFrom_151 (by decide) ?_
  refine zCopyI (N := 5) (f := y_mi y2) (g := y_mi y) hx hb (hml.trans hl.1.symm) hown (hts (.methodLink RX9 63 arraycopyName) (by decide +kernel)) (hts (.native arraycopyName) (by decide +kernel)) (hts (.static arraycopyName) (by decide +kernel)) (hts (.initialized "java/lang/System") (by decide +kernel)) hK hP hD hS 21 9 rfl rfl (by decide) (Nat.le_of_ble_eq_true rfl) (Nat.le_of_ble_eq_true rfl) dX9_copyFrom_152 (fun H locs hP hD hS => ?_)
  have hP : va_P D vwCl (YW ct a (y_n y2, y_kd y2, y_w y2, y_cu y2, y_pl y2, y_cn y2, y_st y2, y_wr y2, y_tr y2, y_rn y2, y_li y2, y_mi y2, y_ra y, y_rt y, y_tl y, y_mm y) (YW ct a2 y2 R)) H := hP
  have hD : va_D A (YW ct a (y_n y2, y_kd y2, y_w y2, y_cu y2, y_pl y2, y_cn y2, y_st y2, y_wr y2, y_tr y2, y_rn y2, y_li y2, y_mi y2, y_ra y, y_rt y, y_tl y, y_mm y) (YW ct a2 y2 R)) := hD
  refine lv_aload_n hx hb dX9_copyFrom_155 rfl (lv_at hl 1 rfl) ?_
  refine va_get (ci := 8) (v := .ref (a2 10)) hx hb hts h_X9 hown hK hP 12 rfl rfl 12 (by decide) f40 (fun _ h9 => h9) rfl dX9_copyFrom_156 ?_
  refine lv_iconst (v := nI (0)) hx hb dX9_copyFrom_159 (by decide) ?_
  refine lv_aload_n hx hb dX9_copyFrom_160 rfl (lv_at hl 0 rfl) ?_
  refine va_get (ci := 8) (v := .ref (a 10)) hx hb hts h_X9 hown hK hP 0 rfl rfl 12 (by decide) f40 (fun _ h9 => h9) rfl dX9_copyFrom_161 ?_
  refine lv_iconst (v := nI (0)) hx hb dX9_copyFrom_164 (by decide) ?_
  refine lv_iconst (v := nI (5)) hx hb dX9_copyFrom_165 (by decide) ?_
  refine zCopyI (N := 5) (f := y_ra y2) (g := y_ra y) hx hb (hml.trans hl.1.symm) hown (hts (.methodLink RX9 63 arraycopyName) (by decide +kernel)) (hts (.native arraycopyName) (by decide +kernel)) (hts (.static arraycopyName) (by decide +kernel)) (hts (.initialized "java/lang/System") (by decide +kernel)) hK hP hD hS 22 10 rfl rfl (by decide) (Nat.le_of_ble_eq_true rfl) (Nat.le_of_ble_eq_true rfl) dX9_copyFrom_166 (fun H locs hP hD hS => ?_)
  have hP : va_P D vwCl (YW ct a (y_n y2, y_kd y2, y_w y2, y_cu y2, y_pl y2, y_cn y2, y_st y2, y_wr y2, y_tr y2, y_rn y2, y_li y2, y_mi y2, y_ra y2, y_rt y, y_tl y, y_mm y) (YW ct a2 y2 R)) H := hP
  have hD : va_D A (YW ct a (y_n y2, y_kd y2, y_w y2, y_cu y2, y_pl y2, y_cn y2, y_st y2, y_wr y2, y_tr y2, y_rn y2, y_li y2, y_mi y2, y_ra y2, y_rt y, y_tl y, y_mm y) (YW ct a2 y2 R)) := hD
  refine lv_aload_n hx hb dX9_copyFrom_169 rfl (lv_at hl 1 rfl) ?_
  refine va_get (ci := 8) (v := .ref (a2 11)) hx hb hts h_X9 hown hK hP 12 rfl rfl 13 (by decide) f43 (fun _ h9 => h9) rfl dX9_copyFrom_170 ?_
  refine lv_iconst (v := nI (0)) hx hb dX9_copyFrom_173 (by decide) ?_
  refine lv_aload_n hx hb dX9_copyFrom_174 rfl (lv_at hl 0 rfl) ?_
  refine va_get (ci := 8) (v := .ref (a 11)) hx hb hts h_X9 hown hK hP 0 rfl rfl 13 (by decide) f43 (fun _ h9 => h9) rfl dX9_copyFrom_175 ?_
  refine lv_iconst (v := nI (0)) hx hb dX9_copyFrom_178 (by decide) ?_
  refine lv_iconst (v := nI (5)) hx hb dX9_copyFrom_179 (by decide) ?_
  refine zCopyI (N := 5) (f := y_rt y2) (g := y_rt y) hx hb (hml.trans hl.1.symm) hown (hts (.methodLink RX9 63 arraycopyName) (by decide +kernel)) (hts (.native arraycopyName) (by decide +kernel)) (hts (.static arraycopyName) (by decide +kernel)) (hts (.initialized "java/lang/System") (by decide +kernel)) hK hP hD hS 23 11 rfl rfl (by decide) (Nat.le_of_ble_eq_true rfl) (Nat.le_of_ble_eq_true rfl) dX9_copyFrom_180 (fun H locs hP hD hS => ?_)
  have hP : va_P D vwCl (YW ct a (y_n y2, y_kd y2, y_w y2, y_cu y2, y_pl y2, y_cn y2, y_st y2, y_wr y2, y_tr y2, y_rn y2, y_li y2, y_mi y2, y_ra y2, y_rt y2, y_tl y, y_mm y) (YW ct a2 y2 R)) H := hP
  have hD : va_D A (YW ct a (y_n y2, y_kd y2, y_w y2, y_cu y2, y_pl y2, y_cn y2, y_st y2, y_wr y2, y_tr y2, y_rn y2, y_li y2, y_mi y2, y_ra y2, y_rt y2, y_tl y, y_mm y) (YW ct a2 y2 R)) := hD
  refine lv_aload_n hx hb dX9_copyFrom_183 rfl (lv_at hl 0 rfl) ?_
  refine lv_aload_n hx hb dX9_copyFrom_184 rfl (lv_at hl 1 rfl) ?_
  refine va_get (ci := 8) (v := .float (y_tl y2)) hx hb hts h_X9 hown hK hP 12 rfl rfl 14 (by decide) f56 (fun _ h9 => h9) rfl dX9_copyFrom_185 ?_
  refine va_put (ci := 8) (v := .float (y_tl y2)) (ty := .float) hx hb hts h_X9 tyX9 tyX9_ok nmX9 hown hK hP hD hS 0 rfl rfl 14 (by decide) f56 (fun _ h9 => h9) rfl (by decide +kernel) rfl rfl (Nat.le_of_ble_eq_true rfl) dX9_copyFrom_188 (fun H locs hP hD hS => ?_)
  have hP : va_P D vwCl (YW ct a (y_n y2, y_kd y2, y_w y2, y_cu y2, y_pl y2, y_cn y2, y_st y2, y_wr y2, y_tr y2, y_rn y2, y_li y2, y_mi y2, y_ra y2, y_rt y2, y_tl y2, y_mm y) (YW ct a2 y2 R)) H := hP
  have hD : va_D A (YW ct a (y_n y2, y_kd y2, y_w y2, y_cu y2, y_pl y2, y_cn y2, y_st y2, y_wr y2, y_tr y2, y_rn y2, y_li y2, y_mi y2, y_ra y2, y_rt y2, y_tl y2, y_mm y) (YW ct a2 y2 R)) := hD
  refine lv_aload_n hx hb dX9_copyFrom_191 rfl (lv_at hl 0 rfl) ?_
  refine lv_aload_n hx hb dX9_copyFrom_192 rfl (lv_at hl 1 rfl) ?_
  refine va_get (ci := 8) (v := .int (y_mm y2)) hx hb hts h_X9 hown hK hP 12 rfl rfl 15 (by decide) f60 (fun _ h9 => h9) rfl dX9_copyFrom_193 ?_
  refine va_put (ci := 8) (v := .int (y_mm y2)) (ty := .int) hx hb hts h_X9 tyX9 tyX9_ok nmX9 hown hK hP hD hS 0 rfl rfl 15 (by decide) f60 (fun _ h9 => h9) rfl (by decide +kernel) rfl rfl (Nat.le_of_ble_eq_true rfl) dX9_copyFrom_196 (fun H locs hP hD hS => ?_)
  have hP : va_P D vwCl (YW ct a (y_n y2, y_kd y2, y_w y2, y_cu y2, y_pl y2, y_cn y2, y_st y2, y_wr y2, y_tr y2, y_rn y2, y_li y2, y_mi y2, y_ra y2, y_rt y2, y_tl y2, y_mm y2) (YW ct a2 y2 R)) H := hP
  have hD : va_D A (YW ct a (y_n y2, y_kd y2, y_w y2, y_cu y2, y_pl y2, y_cn y2, y_st y2, y_wr y2, y_tr y2, y_rn y2, y_li y2, y_mi y2, y_ra y2, y_rt y2, y_tl y2, y_mm y2) (YW ct a2 y2 R)) := hD
  exact zVret () hx hb hr hlocks hK hP hD hS dX9_copyFrom_199 trivial
abbrev rmX3_begin : Room := { frames := 2, cells := 0, slots := 0, locals := 61 }
theorem in_X3_begin_X3 : ∀ w ∈ u_ws RX3 TX3 3, w ∈ wsX3_begin := by decide +kernel
set_option maxHeartbeats 4000000 in
set_option maxRecDepth 100000 in
theorem kX3_begin {D : va_G} {ct : Nat → ClassId} {l : Launch} (a : Nat → Nat) (y : YS) (h : Nat → Nat) (ha : Nat → Nat → Nat) (hz : HS) (R : va_W)  (hn8 : hz.1 ≤ 8) : MV D ct l yX3_begin wsX3_begin rmX3_begin (YW ct a y (HW ct h ha hz R)) [.ref (h 0), .ref (a 0)] (fun _ : Unit => True) (fun _ : Unit => YW ct a y (HW ct h ha (hz.1, hz.2.1, (upS hz.2.2 hz.1 y)) R)) := by
  refine MVof (cc := cX3_begin) (maxL := 2) (ret := none) (by decide) rfl (Nat.le_of_ble_eq_true rfl) ?_
  intro p e s m args below meth c A H locs F hP hK hD hS hA ls hl
  obtain ⟨hx, hb, hr, hlocks, hml, hown, hts, hin⟩ := F
  have hl : lv_has ls 2 [(0, .ref (h 0)), (1, .ref (a 0))] := hl
  have h_X3 := in_X3_begin_X3
  have f11 := hts (.fieldLink RX3 11 "CartArguments$History" "slots" "[LCartArguments$Yard;") (by decide +kernel)
  have f18 := hts (.fieldLink RX3 18 "CartArguments$History" "next" "I") (by decide +kernel)
  refine lv_aload_n hx hb dX3_begin_0 rfl (lv_at hl 0 rfl) ?_
  refine va_get (ci := 2) (v := .ref (h 1)) hx hb hts h_X3 hown hK hP 12 rfl rfl 0 (by decide) f11 (fun _ h9 => h9) rfl dX3_begin_1 ?_
  refine lv_aload_n hx hb dX3_begin_4 rfl (lv_at hl 0 rfl) ?_
  refine va_get (ci := 2) (v := .int (nI (hz.1))) hx hb hts h_X3 hown hK hP 12 rfl rfl 1 (by decide) f18 (fun _ h9 => h9) rfl dX3_begin_5 ?_
  refine zQld (f := fun i => some ((ha i) 0)) (i := hz.1) (b := (ha (hz.1)) 0) hx hb hK hP 13 rfl (by omega) (by decide) rfl dX3_begin_8 ?_
  refine lv_aload_n hx hb dX3_begin_9 rfl (lv_at hl 1 rfl) ?_
  have hP : va_P D vwCl (YW ct (ha (hz.1)) (hz.2.2 (hz.1)) (YW ct a y (HX ct h ha (hz.1) hz R))) H := zPp ((List.Perm.append_left (YW ct a y []) (HW_out (i := (hz.1)) (by omega))).trans (zMv1 (YW ct a y []) (YW ct (ha (hz.1)) (hz.2.2 (hz.1)) []) _)) hP
  have hD : va_D A (YW ct (ha (hz.1)) (hz.2.2 (hz.1)) (YW ct a y (HX ct h ha (hz.1) hz R))) := zDp ((List.Perm.append_left (YW ct a y []) (HW_out (i := (hz.1)) (by omega))).trans (zMv1 (YW ct a y []) (YW ct (ha (hz.1)) (hz.2.2 (hz.1)) []) _)) hD
  refine zVV [.ref (a 0)] [] (kX9_copyFrom ((ha (hz.1))) ((hz.2.2 (hz.1))) (a) (y) (HX ct h ha (hz.1) hz R)) hx hb hml hown hts (cwV 1 hts gX3_begin_X9_copyFrom rfl rfl rfl (by decide +kernel) ⟨(Nat.le_of_ble_eq_true rfl), (Nat.le_of_ble_eq_true rfl)⟩) hK hP hD hS hA (va_recv hK hP (ci := 8) (q0 := 0) rfl rfl) rfl hl.1 rfl (Nat.le_of_ble_eq_true rfl) dX3_begin_10 ⟨(Nat.le_of_ble_eq_true rfl), (Nat.le_of_ble_eq_true rfl)⟩ (fun _ H locs hr_10 hP hD hS => ?_)
  have hP : va_P D vwCl (YW ct (ha (hz.1)) y (YW ct a y (HX ct h ha (hz.1) hz R))) H := hP
  have hD : va_D A (YW ct (ha (hz.1)) y (YW ct a y (HX ct h ha (hz.1) hz R))) := hD
  have hP : va_P D vwCl (YW ct a y (HW ct h ha (hz.1, hz.2.1, (upS hz.2.2 (hz.1) y)) R)) H := zPp ((zMv1 (YW ct (ha (hz.1)) y []) (YW ct a y []) _).trans (List.Perm.append_left (YW ct a y []) (HW_in (i := (hz.1)) (by omega)))) hP
  have hD : va_D A (YW ct a y (HW ct h ha (hz.1, hz.2.1, (upS hz.2.2 (hz.1) y)) R)) := zDp ((zMv1 (YW ct (ha (hz.1)) y []) (YW ct a y []) _).trans (List.Perm.append_left (YW ct a y []) (HW_in (i := (hz.1)) (by omega)))) hD
  exact zVret () hx hb hr hlocks hK hP hD hS dX3_begin_13 trivial
abbrev rmX3_settle : Room := { frames := 1, cells := 0, slots := 0, locals := 30 }
theorem in_X3_settle_X3 : ∀ w ∈ u_ws RX3 TX3 3, w ∈ wsX3_settle := by decide +kernel
set_option maxHeartbeats 4000000 in
set_option maxRecDepth 100000 in
theorem kX3_settle {D : va_G} {ct : Nat → ClassId} {l : Launch} (h : Nat → Nat) (ha : Nat → Nat → Nat) (hz : HS) (R : va_W) (x1 : Int32) (hn8 : hz.1 ≤ 8) (hc8 : hz.2.1 ≤ 8) : MI D ct l yX3_settle wsX3_settle rmX3_settle (HW ct h ha hz R) [.ref (h 0), .int (x1)] (fun r0 (_ : Unit) => r0 = (F_set hz x1).1) (fun _ : Unit => HW ct h ha ((F_set hz x1).2) R) := by
  refine MIof (cc := cX3_settle) (maxL := 2) (ret := (some .int)) (by decide) rfl (Nat.le_of_ble_eq_true rfl) ?_
  intro p e s m args below meth c A H locs F hP hK hD hS hA ls hl
  obtain ⟨hx, hb, hr, hlocks, hml, hown, hts, hin⟩ := F
  have hl : lv_has ls 2 [(0, .ref (h 0)), (1, .int (x1))] := hl
  have h_X3 := in_X3_settle_X3
  have f18 := hts (.fieldLink RX3 18 "CartArguments$History" "next" "I") (by decide +kernel)
  have f26 := hts (.fieldLink RX3 26 "CartArguments$History" "count" "I") (by decide +kernel)
  refine lv_iload_n hx hb dX3_settle_0 rfl (lv_at hl 1 rfl) ?_
  refine lv_if_lt (tgt := 42) hx hb dX3_settle_1 (by decide) (fun c1_1 => ?_) (fun c1_1 => ?_)
  · skip
    refine lv_iload_n hx hb dX3_settle_42 rfl (lv_at hl 1 rfl) ?_
    have e9 : F_set hz x1 = (x1, hz) := (by simp only [F_set, c1_1, p_in, p_worn, p_wi, p_creak, p_le0, p_lt1, not_true_eq_false, not_false_eq_true, if_true, if_false, and_true, true_and, and_false, false_and, or_true, true_or, or_false, false_or, and_self, or_self, iff_true, true_iff, iff_false, false_iff, decide_eq_true_eq, decide_true, decide_false, Int32.add_zero, Nat.add_zero, ne_eq, Bool.false_eq_true, eq_self])
    exact zIret () hx hb hr hlocks hK (by show va_P D vwCl (HW ct h ha ((F_set hz x1).2) R) H; rw [e9]; exact hP) (by show va_D A (HW ct h ha ((F_set hz x1).2) R); rw [e9]; exact hD) hS dX3_settle_43 (show x1 = (F_set hz x1).1 from (by rw [e9]))
  · skip
    refine lv_aload_n hx hb dX3_settle_4 rfl (lv_at hl 0 rfl) ?_
    refine lv_aload_n hx hb dX3_settle_5 rfl (lv_at hl 0 rfl) ?_
    refine va_get (ci := 2) (v := .int (nI (hz.1))) hx hb hts h_X3 hown hK hP 0 rfl rfl 1 (by decide) f18 (fun _ h9 => h9) rfl dX3_settle_6 ?_
    refine lv_bipush (v := nI (8)) hx hb dX3_settle_9 (by decide) ?_
    refine zN_icmp_ge (tgt := 23) hx hb (by omega) (by omega) dX3_settle_11 (by decide) (fun c11_2 => ?_) (fun c11_2 => ?_)
    · skip
      refine lv_iconst (v := nI (0)) hx hb dX3_settle_23 (by decide) ?_
      refine va_put (ci := 2) (v := .int (nI (0))) (ty := .int) hx hb hts h_X3 tyX3 tyX3_ok nmX3 hown hK hP hD hS 0 rfl rfl 1 (by decide) f18 (fun _ h9 => h9) rfl (by decide +kernel) rfl rfl (Nat.le_of_ble_eq_true rfl) dX3_settle_24 (fun H locs hP hD hS => ?_)
      have hP : va_P D vwCl (HW ct h ha (0, hz.2.1, hz.2.2) R) H := hP
      have hD : va_D A (HW ct h ha (0, hz.2.1, hz.2.2) R) := hD
      refine lv_aload_n hx hb dX3_settle_27 rfl (lv_at hl 0 rfl) ?_
      refine lv_aload_n hx hb dX3_settle_28 rfl (lv_at hl 0 rfl) ?_
      refine va_get (ci := 2) (v := .int (nI (hz.2.1))) hx hb hts h_X3 hown hK hP 0 rfl rfl 2 (by decide) f26 (fun _ h9 => h9) rfl dX3_settle_29 ?_
      refine lv_iconst (v := nI (1)) hx hb dX3_settle_32 (by decide) ?_
      refine zNadd hx hb dX3_settle_33 ?_
      refine lv_bipush (v := nI (8)) hx hb dX3_settle_34 (by decide) ?_
      refine va_mmin hx hb (hml.trans hl.1.symm) hown (hts (.methodLink RX3 29 Lib.Math.min.name) (by decide +kernel)) (hts (.static Lib.Math.min.name) (by decide +kernel)) (hts (.initialized "java/lang/Math") (by decide +kernel)) (hts (.code Lib.Math.min.name Lib.Math.min.code 2 (some .int)) (by decide +kernel)) (Nat.le_of_ble_eq_true rfl) (Nat.le_of_ble_eq_true rfl) (Nat.le_of_ble_eq_true rfl) (Nat.le_of_ble_eq_true rfl) dX3_settle_36 ?_
      refine zTop (y := nI (if hz.2.1 < 8 then hz.2.1 + 1 else 8)) (min_c8 hc8) ?_
      refine va_put (ci := 2) (v := .int (nI (if hz.2.1 < 8 then hz.2.1 + 1 else 8))) (ty := .int) hx hb hts h_X3 tyX3 tyX3_ok nmX3 hown hK hP hD hS 0 rfl rfl 2 (by decide) f26 (fun _ h9 => h9) rfl (by decide +kernel) rfl rfl (Nat.le_of_ble_eq_true rfl) dX3_settle_39 (fun H locs hP hD hS => ?_)
      have hP : va_P D vwCl (HW ct h ha (0, if hz.2.1 < 8 then hz.2.1 + 1 else 8, hz.2.2) R) H := hP
      have hD : va_D A (HW ct h ha (0, if hz.2.1 < 8 then hz.2.1 + 1 else 8, hz.2.2) R) := hD
      refine lv_iload_n hx hb dX3_settle_42 rfl (lv_at hl 1 rfl) ?_
      have e9 : F_set hz x1 = (x1, (0, if hz.2.1 < 8 then hz.2.1 + 1 else 8, hz.2.2)) := (by simp only [F_set, c1_1, c11_2, p_in, p_worn, p_wi, p_creak, p_le0, p_lt1, not_true_eq_false, not_false_eq_true, if_true, if_false, and_true, true_and, and_false, false_and, or_true, true_or, or_false, false_or, and_self, or_self, iff_true, true_iff, iff_false, false_iff, decide_eq_true_eq, decide_true, decide_false, Int32.add_zero, Nat.add_zero, ne_eq, Bool.false_eq_true, eq_self])
      exact zIret () hx hb hr hlocks hK (by show va_P D vwCl (HW ct h ha ((F_set hz x1).2) R) H; rw [e9]; exact hP) (by show va_D A (HW ct h ha ((F_set hz x1).2) R); rw [e9]; exact hD) hS dX3_settle_43 (show x1 = (F_set hz x1).1 from (by rw [e9]))
    · skip
      refine lv_aload_n hx hb dX3_settle_14 rfl (lv_at hl 0 rfl) ?_
      refine va_get (ci := 2) (v := .int (nI (hz.1))) hx hb hts h_X3 hown hK hP 0 rfl rfl 1 (by decide) f18 (fun _ h9 => h9) rfl dX3_settle_15 ?_
      refine lv_iconst (v := nI (1)) hx hb dX3_settle_18 (by decide) ?_
      refine zNadd hx hb dX3_settle_19 ?_
      refine lv_goto (tgt := 24) hx hb dX3_settle_20 (by decide) ?_
      refine va_put (ci := 2) (v := .int (nI ((hz.1 + 1)))) (ty := .int) hx hb hts h_X3 tyX3 tyX3_ok nmX3 hown hK hP hD hS 0 rfl rfl 1 (by decide) f18 (fun _ h9 => h9) rfl (by decide +kernel) rfl rfl (Nat.le_of_ble_eq_true rfl) dX3_settle_24 (fun H locs hP hD hS => ?_)
      have hP : va_P D vwCl (HW ct h ha ((hz.1 + 1), hz.2.1, hz.2.2) R) H := hP
      have hD : va_D A (HW ct h ha ((hz.1 + 1), hz.2.1, hz.2.2) R) := hD
      refine lv_aload_n hx hb dX3_settle_27 rfl (lv_at hl 0 rfl) ?_
      refine lv_aload_n hx hb dX3_settle_28 rfl (lv_at hl 0 rfl) ?_
      refine va_get (ci := 2) (v := .int (nI (hz.2.1))) hx hb hts h_X3 hown hK hP 0 rfl rfl 2 (by decide) f26 (fun _ h9 => h9) rfl dX3_settle_29 ?_
      refine lv_iconst (v := nI (1)) hx hb dX3_settle_32 (by decide) ?_
      refine zNadd hx hb dX3_settle_33 ?_
      refine lv_bipush (v := nI (8)) hx hb dX3_settle_34 (by decide) ?_
      refine va_mmin hx hb (hml.trans hl.1.symm) hown (hts (.methodLink RX3 29 Lib.Math.min.name) (by decide +kernel)) (hts (.static Lib.Math.min.name) (by decide +kernel)) (hts (.initialized "java/lang/Math") (by decide +kernel)) (hts (.code Lib.Math.min.name Lib.Math.min.code 2 (some .int)) (by decide +kernel)) (Nat.le_of_ble_eq_true rfl) (Nat.le_of_ble_eq_true rfl) (Nat.le_of_ble_eq_true rfl) (Nat.le_of_ble_eq_true rfl) dX3_settle_36 ?_
      refine zTop (y := nI (if hz.2.1 < 8 then hz.2.1 + 1 else 8)) (min_c8 hc8) ?_
      refine va_put (ci := 2) (v := .int (nI (if hz.2.1 < 8 then hz.2.1 + 1 else 8))) (ty := .int) hx hb hts h_X3 tyX3 tyX3_ok nmX3 hown hK hP hD hS 0 rfl rfl 2 (by decide) f26 (fun _ h9 => h9) rfl (by decide +kernel) rfl rfl (Nat.le_of_ble_eq_true rfl) dX3_settle_39 (fun H locs hP hD hS => ?_)
      have hP : va_P D vwCl (HW ct h ha ((hz.1 + 1), if hz.2.1 < 8 then hz.2.1 + 1 else 8, hz.2.2) R) H := hP
      have hD : va_D A (HW ct h ha ((hz.1 + 1), if hz.2.1 < 8 then hz.2.1 + 1 else 8, hz.2.2) R) := hD
      refine lv_iload_n hx hb dX3_settle_42 rfl (lv_at hl 1 rfl) ?_
      have e9 : F_set hz x1 = (x1, ((hz.1 + 1), if hz.2.1 < 8 then hz.2.1 + 1 else 8, hz.2.2)) := (by simp only [F_set, c1_1, c11_2, p_in, p_worn, p_wi, p_creak, p_le0, p_lt1, not_true_eq_false, not_false_eq_true, if_true, if_false, and_true, true_and, and_false, false_and, or_true, true_or, or_false, false_or, and_self, or_self, iff_true, true_iff, iff_false, false_iff, decide_eq_true_eq, decide_true, decide_false, Int32.add_zero, Nat.add_zero, ne_eq, Bool.false_eq_true, eq_self])
      exact zIret () hx hb hr hlocks hK (by show va_P D vwCl (HW ct h ha ((F_set hz x1).2) R) H; rw [e9]; exact hP) (by show va_D A (HW ct h ha ((F_set hz x1).2) R); rw [e9]; exact hD) hS dX3_settle_43 (show x1 = (F_set hz x1).1 from (by rw [e9]))
