/-! THE CLASS: texts carried out; is all well -/
abbrev rmJx29ce0_ordinal_8abf5 : Room := { frames := 0, cells := 0, slots := 0, locals := 0 }
set_option maxHeartbeats 4000000 in
set_option maxRecDepth 100000 in
theorem kJx29ce0_ordinal_8abf5 {D : va_G} {g : XG} {ct : Nat → ClassId} {l : Launch}  (R : va_W) (zi : Nat) (hi : zi < 9) : MX D ct g l yJx29ce0_ordinal_8abf5 wsJx29ce0_ordinal_8abf5 rmJx29ce0_ordinal_8abf5 (R) [.ref (xE g zi)] (QI D ct (fun r0 (_ : Unit) => r0 = nI (zi)) (fun _ : Unit => R)) := by
  refine MXof (cc := cJx29ce0_ordinal_8abf5) (maxL := 1) (ret := (some .int)) (by decide) rfl (Nat.le_of_ble_eq_true rfl) ?_
  intro p e s m args below meth c A H locs F hP hK hD hS hA hX ls hl
  obtain ⟨hx, hb, hr, hlocks, hml, hown, hts, hin⟩ := F
  have hl : lv_has ls 1 [(0, .ref (xE g zi))] := hl
  refine lv_aload_n hx hb dJx29ce0_ordinal_8abf5_0 rfl (lv_at hl 0 rfl) ?_
  refine vk_getf (v := .int (nI (zi))) hx hb (hX.cmd (i := zi) hi).2.2 hS hown (hts (.fieldLink RJx29ce0 7 "java/lang/Enum" "ordinal" "I") (by decide +kernel)) (fun _ h => h) dJx29ce0_ordinal_8abf5_1 ?_
  exact zIret () hx hb hr hlocks hK hP hD hS dJx29ce0_ordinal_8abf5_4 (show nI (zi) = nI (zi) from rfl)
abbrev rmX10_carryOut : Room := { frames := 5, cells := 0, slots := 0, locals := 108 }
theorem in_X10_carryOut_X10 : ∀ w ∈ u_ws RX10 TX10 12, w ∈ wsX10_carryOut := by decide +kernel
set_option maxHeartbeats 4000000 in
set_option maxRecDepth 100000 in
theorem kX10_carryOut {D : va_G} {g : XG} {ct : Nat → ClassId} {l : Launch} (a : Nat → Nat) (y : YS) (b : Nat → Nat) (rs : RS) (d : Nat → Nat) (bz : BS) (i : Nat → Nat) (iv : IS) (lb : Nat → Nat) (lz : LST) (sa : Nat → Nat) (sy : YS) (x : Nat → Nat) (xv : Int32 × Int32) (h : Nat → Nat) (ha : Nat → Nat → Nat) (hz : HS) (R : va_W) (x1 : Int32) (x2 : Int32) (x3 : Int32) (cm : Nat) (hy : yI y) (hf : yF y) (hcm : cm < 9) : MX D ct g l yX10_carryOut wsX10_carryOut rmX10_carryOut (YW ct a y (KR a b rs (BW ct a d bz (IW ct i (xE g) iv (LW ct lb lz (YW ct sa sy (XO x a sa h b d i lb xv (HW ct h ha hz R)))))))) [.ref (x 0), .ref (xE g cm), .int (x1), .int (x2), .int (x3)] (QI D ct (fun r0 (_ : Unit) => r0 = (f_cmd cm y rs x1 x2 x3).1) (fun _ : Unit => YW ct a ((f_cmd cm y rs x1 x2 x3).2.1) (KR a b ((f_cmd cm y rs x1 x2 x3).2.2) (BW ct a d bz (IW ct i (xE g) iv (LW ct lb lz (YW ct sa sy (XO x a sa h b d i lb xv (HW ct h ha hz R))))))))) := by
  refine MXof (cc := cX10_carryOut) (maxL := 5) (ret := (some .int)) (by decide) rfl (Nat.le_of_ble_eq_true rfl) ?_
  intro p e s m args below meth c A H locs F hP hK hD hS hA hX ls hl
  obtain ⟨hx, hb, hr, hlocks, hml, hown, hts, hin⟩ := F
  have hl : lv_has ls 5 [(0, .ref (x 0)), (1, .ref (xE g cm)), (2, .int (x1)), (3, .int (x2)), (4, .int (x3))] := hl
  have hkd : ∀ j9, j9 < y_n y → y_kd y j9 = nI 0 ∨ y_kd y j9 = nI 1 := fun j9 hj9 => (hy.2.2.2.1 j9 hj9).1
  have hn : y_n y ≤ 12 := hy.1
  have hcn : y_cn y ≤ 4 := hy.2.1
  have hrn : y_rn y ≤ 5 := hy.2.2.1
  have h_X10 := in_X10_carryOut_X10
  have f51 := hts (.fieldLink RX10 51 "CartArguments" "works" "LCartArguments$Works;") (by decide +kernel)
  refine va_gets (v := .ref (xS g)) hx hb hX.g6 hS hown (hts (.fieldLink RX10 171 "CartArguments$1" "$SwitchMap$CartArguments$Command" "[I") (by decide +kernel)) (fun _ h => h) dX10_carryOut_0 ?_
  refine lv_aload_n hx hb dX10_carryOut_3 rfl (lv_at hl 1 rfl) ?_
  refine zUIX [] [.ref (xS g)] (kJx29ce0_ordinal_8abf5 (YW ct a y (KR a b rs (BW ct a d bz (IW ct i (xE g) iv (LW ct lb lz (YW ct sa sy (XO x a sa h b d i lb xv (HW ct h ha hz R)))))))) (cm) (show (cm) < 9 from hcm)) hx hb hml hown hts (va_cwU 0 hts gX10_carryOut_Jx29ce0_ordinal_8abf5_u176X2 rfl rfl rfl rfl (by decide +kernel) ⟨(Nat.le_of_ble_eq_true rfl), (Nat.le_of_ble_eq_true rfl)⟩) hK hP hD hS hA hX (zOrec (hX.cmd (i := cm) hcm).1 hS) rfl hl.1 rfl (Nat.le_of_ble_eq_true rfl) dX10_carryOut_4 ⟨(Nat.le_of_ble_eq_true rfl), (Nat.le_of_ble_eq_true rfl)⟩ (fun r_4 _ H locs hr_4 hP hD hS => ?_)
  subst hr_4
  have hP : va_P D vwCl (YW ct a y (KR a b rs (BW ct a d bz (IW ct i (xE g) iv (LW ct lb lz (YW ct sa sy (XO x a sa h b d i lb xv (HW ct h ha hz R)))))))) H := hP
  have hD : va_D A (YW ct a y (KR a b rs (BW ct a d bz (IW ct i (xE g) iv (LW ct lb lz (YW ct sa sy (XO x a sa h b d i lb xv (HW ct h ha hz R)))))))) := hD
  refine va_ti (v := .int (nI ((cm) + 1))) hx hb hX.g7 hS (vp_in_nI (n := (cm)) (N := 9) hcm (by decide)) (by show Value.int (nI ((nI (cm)).toNatClampNeg + 1)) = _; rw [nI_clamp (by omega)]) dX10_carryOut_7 ?_
  rcases (show cm = 0 ∨ cm = 1 ∨ cm = 2 ∨ cm = 3 ∨ cm = 4 ∨ cm = 5 ∨ cm = 6 ∨ cm = 7 ∨ cm = 8 by omega) with rfl | rfl | rfl | rfl | rfl | rfl | rfl | rfl | rfl
  · skip
    refine zTop (y := nI 1) rfl ?_
    refine lv_tableIn (off := 52) (tgt := 60) hx hb dX10_carryOut_8 (by decide) (by decide) (by rfl) (by decide) ?_
    refine lv_aload_n hx hb dX10_carryOut_60 rfl (lv_at hl 0 rfl) ?_
    refine va_get (ci := 9) (v := .ref (b 2)) hx hb hts h_X10 hown hK hP 38 rfl rfl 6 (by decide) f51 (fun _ h9 => h9) rfl dX10_carryOut_61 ?_
    refine lv_iconst (v := nI (0)) hx hb dX10_carryOut_64 (by decide) ?_
    refine lv_iload_n hx hb dX10_carryOut_65 rfl (lv_at hl 2 rfl) ?_
    refine lv_bipush (v := nI (9)) hx hb dX10_carryOut_66 (by decide) ?_
    refine zVI [.int (nI (0)), .int (x1), .int (nI (9))] [] (kX8_addThing (a) (y) (b) (rs) (BW ct a d bz (IW ct i (xE g) iv (LW ct lb lz (YW ct sa sy (XO x a sa h b d i lb xv (HW ct h ha hz R)))))) (nI (0)) (x1) (nI (9)) (show y_n y ≤ 12 from by omega)) hx hb hml hown hts (cwV 3 hts gX10_carryOut_X8_addThing rfl rfl rfl (by decide +kernel) ⟨(Nat.le_of_ble_eq_true rfl), (Nat.le_of_ble_eq_true rfl)⟩) hK hP hD hS hA (va_recv hK hP (ci := 7) (q0 := 14) rfl rfl) rfl hl.1 rfl (Nat.le_of_ble_eq_true rfl) dX10_carryOut_68 ⟨(Nat.le_of_ble_eq_true rfl), (Nat.le_of_ble_eq_true rfl)⟩ (fun r_68 _ H locs hr_68 hP hD hS => ?_)
    subst hr_68
    have hP : va_P D vwCl (YW ct a (f_addT y rs (nI (0)) (x1) (nI (9))).2.1 (KR a b (f_addT y rs (nI (0)) (x1) (nI (9))).2.2 (BW ct a d bz (IW ct i (xE g) iv (LW ct lb lz (YW ct sa sy (XO x a sa h b d i lb xv (HW ct h ha hz R)))))))) H := hP
    have hD : va_D A (YW ct a (f_addT y rs (nI (0)) (x1) (nI (9))).2.1 (KR a b (f_addT y rs (nI (0)) (x1) (nI (9))).2.2 (BW ct a d bz (IW ct i (xE g) iv (LW ct lb lz (YW ct sa sy (XO x a sa h b d i lb xv (HW ct h ha hz R)))))))) := hD
    exact zIret () hx hb hr hlocks hK hP hD hS dX10_carryOut_71 (show ((f_addT y rs (nI (0)) (x1) (nI (9))).1) = (f_cmd 0 y rs x1 x2 x3).1 from rfl)
  · skip
    refine zTop (y := nI 2) rfl ?_
    refine lv_tableIn (off := 64) (tgt := 72) hx hb dX10_carryOut_8 (by decide) (by decide) (by rfl) (by decide) ?_
    refine lv_aload_n hx hb dX10_carryOut_72 rfl (lv_at hl 0 rfl) ?_
    refine va_get (ci := 9) (v := .ref (b 2)) hx hb hts h_X10 hown hK hP 38 rfl rfl 6 (by decide) f51 (fun _ h9 => h9) rfl dX10_carryOut_73 ?_
    refine lv_iconst (v := nI (1)) hx hb dX10_carryOut_76 (by decide) ?_
    refine lv_iload_n hx hb dX10_carryOut_77 rfl (lv_at hl 2 rfl) ?_
    refine lv_bipush (v := nI (54)) hx hb dX10_carryOut_78 (by decide) ?_
    refine zVI [.int (nI (1)), .int (x1), .int (nI (54))] [] (kX8_addThing (a) (y) (b) (rs) (BW ct a d bz (IW ct i (xE g) iv (LW ct lb lz (YW ct sa sy (XO x a sa h b d i lb xv (HW ct h ha hz R)))))) (nI (1)) (x1) (nI (54)) (show y_n y ≤ 12 from by omega)) hx hb hml hown hts (cwV 3 hts gX10_carryOut_X8_addThing rfl rfl rfl (by decide +kernel) ⟨(Nat.le_of_ble_eq_true rfl), (Nat.le_of_ble_eq_true rfl)⟩) hK hP hD hS hA (va_recv hK hP (ci := 7) (q0 := 14) rfl rfl) rfl hl.1 rfl (Nat.le_of_ble_eq_true rfl) dX10_carryOut_80 ⟨(Nat.le_of_ble_eq_true rfl), (Nat.le_of_ble_eq_true rfl)⟩ (fun r_80 _ H locs hr_80 hP hD hS => ?_)
    subst hr_80
    have hP : va_P D vwCl (YW ct a (f_addT y rs (nI (1)) (x1) (nI (54))).2.1 (KR a b (f_addT y rs (nI (1)) (x1) (nI (54))).2.2 (BW ct a d bz (IW ct i (xE g) iv (LW ct lb lz (YW ct sa sy (XO x a sa h b d i lb xv (HW ct h ha hz R)))))))) H := hP
    have hD : va_D A (YW ct a (f_addT y rs (nI (1)) (x1) (nI (54))).2.1 (KR a b (f_addT y rs (nI (1)) (x1) (nI (54))).2.2 (BW ct a d bz (IW ct i (xE g) iv (LW ct lb lz (YW ct sa sy (XO x a sa h b d i lb xv (HW ct h ha hz R)))))))) := hD
    exact zIret () hx hb hr hlocks hK hP hD hS dX10_carryOut_83 (show ((f_addT y rs (nI (1)) (x1) (nI (54))).1) = (f_cmd 1 y rs x1 x2 x3).1 from rfl)
  · skip
    refine zTop (y := nI 3) rfl ?_
    refine lv_tableIn (off := 76) (tgt := 84) hx hb dX10_carryOut_8 (by decide) (by decide) (by rfl) (by decide) ?_
    refine lv_aload_n hx hb dX10_carryOut_84 rfl (lv_at hl 0 rfl) ?_
    refine va_get (ci := 9) (v := .ref (b 2)) hx hb hts h_X10 hown hK hP 38 rfl rfl 6 (by decide) f51 (fun _ h9 => h9) rfl dX10_carryOut_85 ?_
    refine lv_iload_n hx hb dX10_carryOut_88 rfl (lv_at hl 2 rfl) ?_
    refine zVI [.int (x1)] [] (kX8_addCart (a) (y) (b) (rs) (BW ct a d bz (IW ct i (xE g) iv (LW ct lb lz (YW ct sa sy (XO x a sa h b d i lb xv (HW ct h ha hz R)))))) (x1) (show y_cn y ≤ 4 from by omega)) hx hb hml hown hts (cwV 1 hts gX10_carryOut_X8_addCart rfl rfl rfl (by decide +kernel) ⟨(Nat.le_of_ble_eq_true rfl), (Nat.le_of_ble_eq_true rfl)⟩) hK hP hD hS hA (va_recv hK hP (ci := 7) (q0 := 14) rfl rfl) rfl hl.1 rfl (Nat.le_of_ble_eq_true rfl) dX10_carryOut_89 ⟨(Nat.le_of_ble_eq_true rfl), (Nat.le_of_ble_eq_true rfl)⟩ (fun r_89 _ H locs hr_89 hP hD hS => ?_)
    subst hr_89
    have hP : va_P D vwCl (YW ct a (f_addC y rs (x1)).2.1 (KR a b (f_addC y rs (x1)).2.2 (BW ct a d bz (IW ct i (xE g) iv (LW ct lb lz (YW ct sa sy (XO x a sa h b d i lb xv (HW ct h ha hz R)))))))) H := hP
    have hD : va_D A (YW ct a (f_addC y rs (x1)).2.1 (KR a b (f_addC y rs (x1)).2.2 (BW ct a d bz (IW ct i (xE g) iv (LW ct lb lz (YW ct sa sy (XO x a sa h b d i lb xv (HW ct h ha hz R)))))))) := hD
    exact zIret () hx hb hr hlocks hK hP hD hS dX10_carryOut_92 (show ((f_addC y rs (x1)).1) = (f_cmd 2 y rs x1 x2 x3).1 from rfl)
  · skip
    refine zTop (y := nI 4) rfl ?_
    refine lv_tableIn (off := 85) (tgt := 93) hx hb dX10_carryOut_8 (by decide) (by decide) (by rfl) (by decide) ?_
    refine lv_aload_n hx hb dX10_carryOut_93 rfl (lv_at hl 0 rfl) ?_
    refine va_get (ci := 9) (v := .ref (b 2)) hx hb hts h_X10 hown hK hP 38 rfl rfl 6 (by decide) f51 (fun _ h9 => h9) rfl dX10_carryOut_94 ?_
    refine lv_iload_n hx hb dX10_carryOut_97 rfl (lv_at hl 2 rfl) ?_
    refine lv_iload_n hx hb dX10_carryOut_98 rfl (lv_at hl 3 rfl) ?_
    refine lv_iload hx hb dX10_carryOut_99 (lv_at hl 4 rfl) ?_
    refine zVI [.int (x1), .int (x2), .int (x3)] [] (kX8_addRoad (a) (y) (b) (rs) (BW ct a d bz (IW ct i (xE g) iv (LW ct lb lz (YW ct sa sy (XO x a sa h b d i lb xv (HW ct h ha hz R)))))) (x1) (x2) (x3) (show y_rn y ≤ 5 from by omega)) hx hb hml hown hts (cwV 3 hts gX10_carryOut_X8_addRoad rfl rfl rfl (by decide +kernel) ⟨(Nat.le_of_ble_eq_true rfl), (Nat.le_of_ble_eq_true rfl)⟩) hK hP hD hS hA (va_recv hK hP (ci := 7) (q0 := 14) rfl rfl) rfl hl.1 rfl (Nat.le_of_ble_eq_true rfl) dX10_carryOut_101 ⟨(Nat.le_of_ble_eq_true rfl), (Nat.le_of_ble_eq_true rfl)⟩ (fun r_101 _ H locs hr_101 hP hD hS => ?_)
    subst hr_101
    have hP : va_P D vwCl (YW ct a (f_addR y rs (x1) (x2) (x3)).2.1 (KR a b (f_addR y rs (x1) (x2) (x3)).2.2 (BW ct a d bz (IW ct i (xE g) iv (LW ct lb lz (YW ct sa sy (XO x a sa h b d i lb xv (HW ct h ha hz R)))))))) H := hP
    have hD : va_D A (YW ct a (f_addR y rs (x1) (x2) (x3)).2.1 (KR a b (f_addR y rs (x1) (x2) (x3)).2.2 (BW ct a d bz (IW ct i (xE g) iv (LW ct lb lz (YW ct sa sy (XO x a sa h b d i lb xv (HW ct h ha hz R)))))))) := hD
    exact zIret () hx hb hr hlocks hK hP hD hS dX10_carryOut_104 (show ((f_addR y rs (x1) (x2) (x3)).1) = (f_cmd 3 y rs x1 x2 x3).1 from rfl)
  · skip
    refine zTop (y := nI 5) rfl ?_
    refine lv_tableIn (off := 97) (tgt := 105) hx hb dX10_carryOut_8 (by decide) (by decide) (by rfl) (by decide) ?_
    refine lv_aload_n hx hb dX10_carryOut_105 rfl (lv_at hl 0 rfl) ?_
    refine va_get (ci := 9) (v := .ref (b 2)) hx hb hts h_X10 hown hK hP 38 rfl rfl 6 (by decide) f51 (fun _ h9 => h9) rfl dX10_carryOut_106 ?_
    refine lv_iload_n hx hb dX10_carryOut_109 rfl (lv_at hl 2 rfl) ?_
    refine lv_iload_n hx hb dX10_carryOut_110 rfl (lv_at hl 3 rfl) ?_
    refine lv_iload hx hb dX10_carryOut_111 (lv_at hl 4 rfl) ?_
    refine zVI [.int (x1), .int (x2), .int (x3)] [] (kX8_putOn (a) (y) (b) (rs) (BW ct a d bz (IW ct i (xE g) iv (LW ct lb lz (YW ct sa sy (XO x a sa h b d i lb xv (HW ct h ha hz R)))))) (x1) (x2) (x3) (show y_n y ≤ 12 from by omega)) hx hb hml hown hts (cwV 3 hts gX10_carryOut_X8_putOn rfl rfl rfl (by decide +kernel) ⟨(Nat.le_of_ble_eq_true rfl), (Nat.le_of_ble_eq_true rfl)⟩) hK hP hD hS hA (va_recv hK hP (ci := 7) (q0 := 14) rfl rfl) rfl hl.1 rfl (Nat.le_of_ble_eq_true rfl) dX10_carryOut_113 ⟨(Nat.le_of_ble_eq_true rfl), (Nat.le_of_ble_eq_true rfl)⟩ (fun r_113 _ H locs hr_113 hP hD hS => ?_)
    subst hr_113
    have hP : va_P D vwCl (YW ct a (f_put y rs (x1) (x2) (x3)).2.1 (KR a b (f_put y rs (x1) (x2) (x3)).2.2 (BW ct a d bz (IW ct i (xE g) iv (LW ct lb lz (YW ct sa sy (XO x a sa h b d i lb xv (HW ct h ha hz R)))))))) H := hP
    have hD : va_D A (YW ct a (f_put y rs (x1) (x2) (x3)).2.1 (KR a b (f_put y rs (x1) (x2) (x3)).2.2 (BW ct a d bz (IW ct i (xE g) iv (LW ct lb lz (YW ct sa sy (XO x a sa h b d i lb xv (HW ct h ha hz R)))))))) := hD
    exact zIret () hx hb hr hlocks hK hP hD hS dX10_carryOut_116 (show ((f_put y rs (x1) (x2) (x3)).1) = (f_cmd 4 y rs x1 x2 x3).1 from rfl)
  · skip
    refine zTop (y := nI 6) rfl ?_
    refine lv_tableIn (off := 109) (tgt := 117) hx hb dX10_carryOut_8 (by decide) (by decide) (by rfl) (by decide) ?_
    refine lv_aload_n hx hb dX10_carryOut_117 rfl (lv_at hl 0 rfl) ?_
    refine va_get (ci := 9) (v := .ref (b 2)) hx hb hts h_X10 hown hK hP 38 rfl rfl 6 (by decide) f51 (fun _ h9 => h9) rfl dX10_carryOut_118 ?_
    refine lv_iload_n hx hb dX10_carryOut_121 rfl (lv_at hl 2 rfl) ?_
    refine zVI [.int (x1)] [] (kX8_takeOff (a) (y) (b) (rs) (BW ct a d bz (IW ct i (xE g) iv (LW ct lb lz (YW ct sa sy (XO x a sa h b d i lb xv (HW ct h ha hz R)))))) (x1) (show y_n y ≤ 12 from by omega)) hx hb hml hown hts (cwV 1 hts gX10_carryOut_X8_takeOff rfl rfl rfl (by decide +kernel) ⟨(Nat.le_of_ble_eq_true rfl), (Nat.le_of_ble_eq_true rfl)⟩) hK hP hD hS hA (va_recv hK hP (ci := 7) (q0 := 14) rfl rfl) rfl hl.1 rfl (Nat.le_of_ble_eq_true rfl) dX10_carryOut_122 ⟨(Nat.le_of_ble_eq_true rfl), (Nat.le_of_ble_eq_true rfl)⟩ (fun r_122 _ H locs hr_122 hP hD hS => ?_)
    subst hr_122
    have hP : va_P D vwCl (YW ct a (f_off y rs (x1)).2.1 (KR a b (f_off y rs (x1)).2.2 (BW ct a d bz (IW ct i (xE g) iv (LW ct lb lz (YW ct sa sy (XO x a sa h b d i lb xv (HW ct h ha hz R)))))))) H := hP
    have hD : va_D A (YW ct a (f_off y rs (x1)).2.1 (KR a b (f_off y rs (x1)).2.2 (BW ct a d bz (IW ct i (xE g) iv (LW ct lb lz (YW ct sa sy (XO x a sa h b d i lb xv (HW ct h ha hz R)))))))) := hD
    exact zIret () hx hb hr hlocks hK hP hD hS dX10_carryOut_125 (show ((f_off y rs (x1)).1) = (f_cmd 5 y rs x1 x2 x3).1 from rfl)
  · skip
    refine zTop (y := nI 7) rfl ?_
    refine lv_tableIn (off := 118) (tgt := 126) hx hb dX10_carryOut_8 (by decide) (by decide) (by rfl) (by decide) ?_
    refine lv_aload_n hx hb dX10_carryOut_126 rfl (lv_at hl 0 rfl) ?_
    refine va_get (ci := 9) (v := .ref (b 2)) hx hb hts h_X10 hown hK hP 38 rfl rfl 6 (by decide) f51 (fun _ h9 => h9) rfl dX10_carryOut_127 ?_
    refine lv_iload_n hx hb dX10_carryOut_130 rfl (lv_at hl 2 rfl) ?_
    refine lv_iload_n hx hb dX10_carryOut_131 rfl (lv_at hl 3 rfl) ?_
    refine lv_iload hx hb dX10_carryOut_132 (lv_at hl 4 rfl) ?_
    refine zVI [.int (x1), .int (x2), .int (x3)] [] (kX8_exchange (a) (y) (b) (rs) (BW ct a d bz (IW ct i (xE g) iv (LW ct lb lz (YW ct sa sy (XO x a sa h b d i lb xv (HW ct h ha hz R)))))) (x1) (x2) (x3) (show y_n y ≤ 12 from by omega) (show ∀ j9, j9 < y_n y → y_kd y j9 = nI 0 ∨ y_kd y j9 = nI 1 from hkd)) hx hb hml hown hts (cwV 3 hts gX10_carryOut_X8_exchange rfl rfl rfl (by decide +kernel) ⟨(Nat.le_of_ble_eq_true rfl), (Nat.le_of_ble_eq_true rfl)⟩) hK hP hD hS hA (va_recv hK hP (ci := 7) (q0 := 14) rfl rfl) rfl hl.1 rfl (Nat.le_of_ble_eq_true rfl) dX10_carryOut_134 ⟨(Nat.le_of_ble_eq_true rfl), (Nat.le_of_ble_eq_true rfl)⟩ (fun r_134 _ H locs hr_134 hP hD hS => ?_)
    subst hr_134
    have hP : va_P D vwCl (YW ct a (f_swap y rs (x1) (x2) (x3)).2.1 (KR a b (f_swap y rs (x1) (x2) (x3)).2.2 (BW ct a d bz (IW ct i (xE g) iv (LW ct lb lz (YW ct sa sy (XO x a sa h b d i lb xv (HW ct h ha hz R)))))))) H := hP
    have hD : va_D A (YW ct a (f_swap y rs (x1) (x2) (x3)).2.1 (KR a b (f_swap y rs (x1) (x2) (x3)).2.2 (BW ct a d bz (IW ct i (xE g) iv (LW ct lb lz (YW ct sa sy (XO x a sa h b d i lb xv (HW ct h ha hz R)))))))) := hD
    exact zIret () hx hb hr hlocks hK hP hD hS dX10_carryOut_137 (show ((f_swap y rs (x1) (x2) (x3)).1) = (f_cmd 6 y rs x1 x2 x3).1 from rfl)
  · skip
    refine zTop (y := nI 8) rfl ?_
    refine lv_tableIn (off := 130) (tgt := 138) hx hb dX10_carryOut_8 (by decide) (by decide) (by rfl) (by decide) ?_
    refine lv_aload_n hx hb dX10_carryOut_138 rfl (lv_at hl 0 rfl) ?_
    refine va_get (ci := 9) (v := .ref (b 2)) hx hb hts h_X10 hown hK hP 38 rfl rfl 6 (by decide) f51 (fun _ h9 => h9) rfl dX10_carryOut_139 ?_
    refine lv_iload_n hx hb dX10_carryOut_142 rfl (lv_at hl 2 rfl) ?_
    refine lv_iload_n hx hb dX10_carryOut_143 rfl (lv_at hl 3 rfl) ?_
    refine zVI [.int (x1), .int (x2)] [] (kX8_drive (a) (y) (b) (rs) (BW ct a d bz (IW ct i (xE g) iv (LW ct lb lz (YW ct sa sy (XO x a sa h b d i lb xv (HW ct h ha hz R)))))) (x1) (x2) (show yI y from hy) (show yF y from hf)) hx hb hml hown hts (cwV 2 hts gX10_carryOut_X8_drive rfl rfl rfl (by decide +kernel) ⟨(Nat.le_of_ble_eq_true rfl), (Nat.le_of_ble_eq_true rfl)⟩) hK hP hD hS hA (va_recv hK hP (ci := 7) (q0 := 14) rfl rfl) rfl hl.1 rfl (Nat.le_of_ble_eq_true rfl) dX10_carryOut_144 ⟨(Nat.le_of_ble_eq_true rfl), (Nat.le_of_ble_eq_true rfl)⟩ (fun r_144 _ H locs hr_144 hP hD hS => ?_)
    subst hr_144
    have hP : va_P D vwCl (YW ct a (f_go y rs (x1) (x2)).2.1 (KR a b (f_go y rs (x1) (x2)).2.2 (BW ct a d bz (IW ct i (xE g) iv (LW ct lb lz (YW ct sa sy (XO x a sa h b d i lb xv (HW ct h ha hz R)))))))) H := hP
    have hD : va_D A (YW ct a (f_go y rs (x1) (x2)).2.1 (KR a b (f_go y rs (x1) (x2)).2.2 (BW ct a d bz (IW ct i (xE g) iv (LW ct lb lz (YW ct sa sy (XO x a sa h b d i lb xv (HW ct h ha hz R)))))))) := hD
    exact zIret () hx hb hr hlocks hK hP hD hS dX10_carryOut_147 (show ((f_go y rs (x1) (x2)).1) = (f_cmd 7 y rs x1 x2 x3).1 from rfl)
  · skip
    refine zTop (y := nI 9) rfl ?_
    refine lv_tableIn (off := 140) (tgt := 148) hx hb dX10_carryOut_8 (by decide) (by decide) (by rfl) (by decide) ?_
    refine lv_aload_n hx hb dX10_carryOut_148 rfl (lv_at hl 0 rfl) ?_
    refine va_get (ci := 9) (v := .ref (b 2)) hx hb hts h_X10 hown hK hP 38 rfl rfl 6 (by decide) f51 (fun _ h9 => h9) rfl dX10_carryOut_149 ?_
    refine lv_iload_n hx hb dX10_carryOut_152 rfl (lv_at hl 2 rfl) ?_
    refine zVI [.int (x1)] [] (kX8_greaseAxles (a) (y) (b) (rs) (BW ct a d bz (IW ct i (xE g) iv (LW ct lb lz (YW ct sa sy (XO x a sa h b d i lb xv (HW ct h ha hz R)))))) (x1) (show y_cn y ≤ 4 from by omega)) hx hb hml hown hts (cwV 1 hts gX10_carryOut_X8_greaseAxles rfl rfl rfl (by decide +kernel) ⟨(Nat.le_of_ble_eq_true rfl), (Nat.le_of_ble_eq_true rfl)⟩) hK hP hD hS hA (va_recv hK hP (ci := 7) (q0 := 14) rfl rfl) rfl hl.1 rfl (Nat.le_of_ble_eq_true rfl) dX10_carryOut_153 ⟨(Nat.le_of_ble_eq_true rfl), (Nat.le_of_ble_eq_true rfl)⟩ (fun r_153 _ H locs hr_153 hP hD hS => ?_)
    subst hr_153
    have hP : va_P D vwCl (YW ct a (f_grease y rs (x1)).2.1 (KR a b (f_grease y rs (x1)).2.2 (BW ct a d bz (IW ct i (xE g) iv (LW ct lb lz (YW ct sa sy (XO x a sa h b d i lb xv (HW ct h ha hz R)))))))) H := hP
    have hD : va_D A (YW ct a (f_grease y rs (x1)).2.1 (KR a b (f_grease y rs (x1)).2.2 (BW ct a d bz (IW ct i (xE g) iv (LW ct lb lz (YW ct sa sy (XO x a sa h b d i lb xv (HW ct h ha hz R)))))))) := hD
    exact zIret () hx hb hr hlocks hK hP hD hS dX10_carryOut_156 (show ((f_grease y rs (x1)).1) = (f_cmd 8 y rs x1 x2 x3).1 from rfl)
abbrev rmX10_carryOutAll : Room := { frames := 6, cells := 0, slots := 0, locals := 137 }
theorem in_X10_carryOutAll_X10 : ∀ w ∈ u_ws RX10 TX10 12, w ∈ wsX10_carryOutAll := by decide +kernel
theorem in_X10_carryOutAll_X4 : ∀ w ∈ u_ws RX4 TX4 5, w ∈ wsX10_carryOutAll := by decide +kernel
set_option maxHeartbeats 4000000 in
set_option maxRecDepth 100000 in
theorem kX10_carryOutAll {D : va_G} {g : XG} {ct : Nat → ClassId} {l : Launch} (a : Nat → Nat) (y : YS) (b : Nat → Nat) (rs : RS) (d : Nat → Nat) (bz : BS) (i : Nat → Nat) (iv : IS) (lb : Nat → Nat) (lz : LST) (sa : Nat → Nat) (sy : YS) (x : Nat → Nat) (xv : Int32 × Int32) (h : Nat → Nat) (ha : Nat → Nat → Nat) (hz : HS) (R : va_W) (J : YS → Prop) (hJ : J y) (hJi : ∀ y, J y → yI y ∧ yF y) (hJc : ∀ y rs c x1 x2 x3, J y → J (f_cmd c y rs x1 x2 x3).2.1) (hn8 : hz.1 ≤ 8) (hc8 : hz.2.1 ≤ 8) (hn60 : i_n iv ≤ 60) (hcm : i_cm iv < 9) : MX D ct g l yX10_carryOutAll wsX10_carryOutAll rmX10_carryOutAll (YW ct a y (KR a b rs (BW ct a d bz (IW ct i (xE g) iv (LW ct lb lz (YW ct sa sy (XO x a sa h b d i lb xv (HW ct h ha hz R)))))))) [.ref (x 0)] (QI D ct (fun r0 (_ : Unit) => r0 = (runA (hz.1, hz.2.1, (upS hz.2.2 hz.1 y)) 60 0 0 y rs iv).1) (fun _ : Unit => YW ct a ((runA (hz.1, hz.2.1, (upS hz.2.2 hz.1 y)) 60 0 0 y rs iv).2.1) (KR a b ((runA (hz.1, hz.2.1, (upS hz.2.2 hz.1 y)) 60 0 0 y rs iv).2.2.1) (BW ct a d bz (IW ct i (xE g) ((runA (hz.1, hz.2.1, (upS hz.2.2 hz.1 y)) 60 0 0 y rs iv).2.2.2.1) (LW ct lb lz (YW ct sa sy (XO x a sa h b d i lb xv (HW ct h ha ((runA (hz.1, hz.2.1, (upS hz.2.2 hz.1 y)) 60 0 0 y rs iv).2.2.2.2) R))))))))) := by
  refine MXof (cc := cX10_carryOutAll) (maxL := 4) (ret := (some .int)) (by decide) rfl (Nat.le_of_ble_eq_true rfl) ?_
  intro p e s m args below meth c A H locs F hP hK hD hS hA hX ls hl
  obtain ⟨hx, hb, hr, hlocks, hml, hown, hts, hin⟩ := F
  have hl : lv_has ls 4 [(0, .ref (x 0))] := hl
  have h_X10 := in_X10_carryOutAll_X10
  have h_X4 := in_X10_carryOutAll_X4
  have f10 := hts (.fieldLink RX10 10 "CartArguments" "yard" "LCartArguments$Yard;") (by decide +kernel)
  have f26 := hts (.fieldLink RX10 26 "CartArguments" "history" "LCartArguments$History;") (by decide +kernel)
  have f33 := hts (.fieldLink RX10 33 "CartArguments" "reasons" "LCartArguments$Reasons;") (by decide +kernel)
  have f74 := hts (.fieldLink RX10 74 "CartArguments" "input" "LCartArguments$Input;") (by decide +kernel)
  have f147 := hts (.fieldLink RX10 147 "CartArguments$Input" "command" "LCartArguments$Command;") (by decide +kernel)
  have f151 := hts (.fieldLink RX10 151 "CartArguments$Input" "numbers" "[I") (by decide +kernel)
  have f168 := hts (.fieldLink RX10 168 "CartArguments$Input" "stop" "I") (by decide +kernel)
  refine lv_aload_n hx hb dX10_carryOutAll_0 rfl (lv_at hl 0 rfl) ?_
  refine va_get (ci := 9) (v := .ref (h 0)) hx hb hts h_X10 hown hK hP 38 rfl rfl 3 (by decide) f26 (fun _ h9 => h9) rfl dX10_carryOutAll_1 ?_
  refine lv_aload_n hx hb dX10_carryOutAll_4 rfl (lv_at hl 0 rfl) ?_
  refine va_get (ci := 9) (v := .ref (a 0)) hx hb hts h_X10 hown hK hP 38 rfl rfl 0 (by decide) f10 (fun _ h9 => h9) rfl dX10_carryOutAll_5 ?_
  have hP : va_P D vwCl (YW ct a y (HW ct h ha hz (KR a b rs (BW ct a d bz (IW ct i (xE g) iv (LW ct lb lz (YW ct sa sy (XO x a sa h b d i lb xv R)))))))) H := zPp ((zF7 (YW ct a y []) (KR a b rs []) (BW ct a d bz []) (IW ct i (xE g) iv []) (LW ct lb lz []) (YW ct sa sy []) (XO x a sa h b d i lb xv []) (HWl ct h ha hz) (R)).trans (zMv1 (HWl ct h ha hz) (YW ct a y []) (KR a b rs (BW ct a d bz (IW ct i (xE g) iv (LW ct lb lz (YW ct sa sy (XO x a sa h b d i lb xv R)))))))) hP
  have hD : va_D A (YW ct a y (HW ct h ha hz (KR a b rs (BW ct a d bz (IW ct i (xE g) iv (LW ct lb lz (YW ct sa sy (XO x a sa h b d i lb xv R)))))))) := zDp ((zF7 (YW ct a y []) (KR a b rs []) (BW ct a d bz []) (IW ct i (xE g) iv []) (LW ct lb lz []) (YW ct sa sy []) (XO x a sa h b d i lb xv []) (HWl ct h ha hz) (R)).trans (zMv1 (HWl ct h ha hz) (YW ct a y []) (KR a b rs (BW ct a d bz (IW ct i (xE g) iv (LW ct lb lz (YW ct sa sy (XO x a sa h b d i lb xv R)))))))) hD
  refine zVV [.ref (a 0)] [] (kX3_begin (a) (y) (h) (ha) (hz) (KR a b rs (BW ct a d bz (IW ct i (xE g) iv (LW ct lb lz (YW ct sa sy (XO x a sa h b d i lb xv R)))))) (show hz.1 ≤ 8 from hn8)) hx hb hml hown hts (cwV 1 hts gX10_carryOutAll_X3_begin rfl rfl rfl (by decide +kernel) ⟨(Nat.le_of_ble_eq_true rfl), (Nat.le_of_ble_eq_true rfl)⟩) hK hP hD hS hA (va_recv hK hP (ci := 2) (q0 := 12) rfl rfl) rfl hl.1 rfl (Nat.le_of_ble_eq_true rfl) dX10_carryOutAll_8 ⟨(Nat.le_of_ble_eq_true rfl), (Nat.le_of_ble_eq_true rfl)⟩ (fun _ H locs hr_8 hP hD hS => ?_)
  have hP : va_P D vwCl (YW ct a y (HW ct h ha (hz.1, hz.2.1, (upS hz.2.2 hz.1 y)) (KR a b rs (BW ct a d bz (IW ct i (xE g) iv (LW ct lb lz (YW ct sa sy (XO x a sa h b d i lb xv R)))))))) H := hP
  have hD : va_D A (YW ct a y (HW ct h ha (hz.1, hz.2.1, (upS hz.2.2 hz.1 y)) (KR a b rs (BW ct a d bz (IW ct i (xE g) iv (LW ct lb lz (YW ct sa sy (XO x a sa h b d i lb xv R)))))))) := hD
  have hP : va_P D vwCl (YW ct a y (KR a b rs (BW ct a d bz (IW ct i (xE g) iv (LW ct lb lz (YW ct sa sy (XO x a sa h b d i lb xv (HW ct h ha (hz.1, hz.2.1, (upS hz.2.2 hz.1 y)) R)))))))) H := zPp ((zF7 (YW ct a y []) (KR a b rs []) (BW ct a d bz []) (IW ct i (xE g) iv []) (LW ct lb lz []) (YW ct sa sy []) (XO x a sa h b d i lb xv []) (HWl ct h ha (hz.1, hz.2.1, (upS hz.2.2 hz.1 y))) (R)).trans (zMv1 (HWl ct h ha (hz.1, hz.2.1, (upS hz.2.2 hz.1 y))) (YW ct a y []) (KR a b rs (BW ct a d bz (IW ct i (xE g) iv (LW ct lb lz (YW ct sa sy (XO x a sa h b d i lb xv R)))))))).symm hP
  have hD : va_D A (YW ct a y (KR a b rs (BW ct a d bz (IW ct i (xE g) iv (LW ct lb lz (YW ct sa sy (XO x a sa h b d i lb xv (HW ct h ha (hz.1, hz.2.1, (upS hz.2.2 hz.1 y)) R)))))))) := zDp ((zF7 (YW ct a y []) (KR a b rs []) (BW ct a d bz []) (IW ct i (xE g) iv []) (LW ct lb lz []) (YW ct sa sy []) (XO x a sa h b d i lb xv []) (HWl ct h ha (hz.1, hz.2.1, (upS hz.2.2 hz.1 y))) (R)).trans (zMv1 (HWl ct h ha (hz.1, hz.2.1, (upS hz.2.2 hz.1 y))) (YW ct a y []) (KR a b rs (BW ct a d bz (IW ct i (xE g) iv (LW ct lb lz (YW ct sa sy (XO x a sa h b d i lb xv R)))))))).symm hD
  refine lv_iconst (v := nI (0)) hx hb dX10_carryOutAll_11 (by decide) ?_
  refine lv_istore_n (lv' := [(1, .int (nI (0))), (0, .ref (x 0))]) hx hb dX10_carryOutAll_12 rfl hl (by decide) rfl (fun ls hl => ?_)
  refine lv_iconst (v := nI (0)) hx hb dX10_carryOutAll_13 (by decide) ?_
  refine lv_istore_n (lv' := [(2, .int (nI (0))), (1, .int (nI (0))), (0, .ref (x 0))]) hx hb dX10_carryOutAll_14 rfl hl (by decide) rfl (fun ls hl => ?_)
  have lp15 : ∀ (fu : Nat) (n9 : Nat) (p9 : Nat) (y1 : YS) (rs1 : RS) (v1 : IS) (H : Heap) (locs : List Loc) (ls : Array Slot), (n9 ≤ 60) → (p9 ≤ 100 + n9) → (i_n v1 = i_n iv) → (i_cm v1 < 9) → (J y1) → (runA (hz.1, hz.2.1, (upS hz.2.2 hz.1 y)) (60 - n9) p9 n9 y1 rs1 v1 = (runA (hz.1, hz.2.1, (upS hz.2.2 hz.1 y)) 60 0 0 y rs iv)) → 60 - n9 < fu → va_P D vwCl (YW ct a y1 (KR a b rs1 (BW ct a d bz (IW ct i (xE g) v1 (LW ct lb lz (YW ct sa sy (XO x a sa h b d i lb xv (HW ct h ha (hz.1, hz.2.1, (upS hz.2.2 hz.1 y)) R)))))))) H → va_D A (YW ct a y1 (KR a b rs1 (BW ct a d bz (IW ct i (xE g) v1 (LW ct lb lz (YW ct sa sy (XO x a sa h b d i lb xv (HW ct h ha (hz.1, hz.2.1, (upS hz.2.2 hz.1 y)) R)))))))) → va_S A s.heap H locs → lv_has ls 4 [(0, .ref (x 0)), (1, .int (nI (p9))), (2, .int (nI (n9)))] → W p l e rmX10_carryOutAll s m args below meth c H locs 0 0 (MQ below (va_Qi (fun r0 (_ : Unit) => r0 = (runA (hz.1, hz.2.1, (upS hz.2.2 hz.1 y)) 60 0 0 y rs iv).1) (zB D ct A (fun _ : Unit => YW ct a ((runA (hz.1, hz.2.1, (upS hz.2.2 hz.1 y)) 60 0 0 y rs iv).2.1) (KR a b ((runA (hz.1, hz.2.1, (upS hz.2.2 hz.1 y)) 60 0 0 y rs iv).2.2.1) (BW ct a d bz (IW ct i (xE g) ((runA (hz.1, hz.2.1, (upS hz.2.2 hz.1 y)) 60 0 0 y rs iv).2.2.2.1) (LW ct lb lz (YW ct sa sy (XO x a sa h b d i lb xv (HW ct h ha ((runA (hz.1, hz.2.1, (upS hz.2.2 hz.1 y)) 60 0 0 y rs iv).2.2.2.2) R))))))))) A) args s rmX10_carryOutAll.cells rmX10_carryOutAll.slots A) (F0 m 15 ls []) := by
    intro fu
    induction fu with
    | zero => intro n9 p9 y1 rs1 v1 H locs ls hj hp1 hn1 hc1 hJ1 htot hfu; exact absurd hfu (Nat.not_lt_zero _)
    | succ fu ih15 =>
      intro n9 p9 y1 rs1 v1 H locs ls hj hp1 hn1 hc1 hJ1 htot hfu hP hD hS hl
      refine lv_iload_n hx hb dX10_carryOutAll_15 rfl (lv_at hl 2 rfl) ?_
      refine lv_bipush (v := nI (60)) hx hb dX10_carryOutAll_16 (by decide) ?_
      refine zN_icmp_ge (tgt := 130) hx hb (by omega) (by omega) dX10_carryOutAll_18 (by decide) (fun c18_1 => ?_) (fun c18_1 => ?_)
      · skip
        refine lv_aload_n hx hb dX10_carryOutAll_130 rfl (lv_at hl 0 rfl) ?_
        refine va_get (ci := 9) (v := .ref (h 0)) hx hb hts h_X10 hown hK hP 38 rfl rfl 3 (by decide) f26 (fun _ h9 => h9) rfl dX10_carryOutAll_131 ?_
        refine lv_iload_n hx hb dX10_carryOutAll_134 rfl (lv_at hl 2 rfl) ?_
        have hP : va_P D vwCl (HW ct h ha (hz.1, hz.2.1, (upS hz.2.2 hz.1 y)) (YW ct a y1 (KR a b rs1 (BW ct a d bz (IW ct i (xE g) v1 (LW ct lb lz (YW ct sa sy (XO x a sa h b d i lb xv R)))))))) H := zPp (zF7 (YW ct a y1 []) (KR a b rs1 []) (BW ct a d bz []) (IW ct i (xE g) v1 []) (LW ct lb lz []) (YW ct sa sy []) (XO x a sa h b d i lb xv []) (HWl ct h ha (hz.1, hz.2.1, (upS hz.2.2 hz.1 y))) (R)) hP
        have hD : va_D A (HW ct h ha (hz.1, hz.2.1, (upS hz.2.2 hz.1 y)) (YW ct a y1 (KR a b rs1 (BW ct a d bz (IW ct i (xE g) v1 (LW ct lb lz (YW ct sa sy (XO x a sa h b d i lb xv R)))))))) := zDp (zF7 (YW ct a y1 []) (KR a b rs1 []) (BW ct a d bz []) (IW ct i (xE g) v1 []) (LW ct lb lz []) (YW ct sa sy []) (XO x a sa h b d i lb xv []) (HWl ct h ha (hz.1, hz.2.1, (upS hz.2.2 hz.1 y))) (R)) hD
        refine zVI [.int (nI (n9))] [] (kX3_settle (h) (ha) ((hz.1, hz.2.1, (upS hz.2.2 hz.1 y))) (YW ct a y1 (KR a b rs1 (BW ct a d bz (IW ct i (xE g) v1 (LW ct lb lz (YW ct sa sy (XO x a sa h b d i lb xv R))))))) (nI (n9)) (show hz.1 ≤ 8 from hn8) (show hz.2.1 ≤ 8 from hc8)) hx hb hml hown hts (cwV 1 hts gX10_carryOutAll_X3_settle rfl rfl rfl (by decide +kernel) ⟨(Nat.le_of_ble_eq_true rfl), (Nat.le_of_ble_eq_true rfl)⟩) hK hP hD hS hA (va_recv hK hP (ci := 2) (q0 := 0) rfl rfl) rfl hl.1 rfl (Nat.le_of_ble_eq_true rfl) dX10_carryOutAll_135 ⟨(Nat.le_of_ble_eq_true rfl), (Nat.le_of_ble_eq_true rfl)⟩ (fun r_135 _ H locs hr_135 hP hD hS => ?_)
        subst hr_135
        have hP : va_P D vwCl (HW ct h ha ((F_set (hz.1, hz.2.1, (upS hz.2.2 hz.1 y)) (nI (n9))).2) (YW ct a y1 (KR a b rs1 (BW ct a d bz (IW ct i (xE g) v1 (LW ct lb lz (YW ct sa sy (XO x a sa h b d i lb xv R)))))))) H := hP
        have hD : va_D A (HW ct h ha ((F_set (hz.1, hz.2.1, (upS hz.2.2 hz.1 y)) (nI (n9))).2) (YW ct a y1 (KR a b rs1 (BW ct a d bz (IW ct i (xE g) v1 (LW ct lb lz (YW ct sa sy (XO x a sa h b d i lb xv R)))))))) := hD
        have hP : va_P D vwCl (YW ct a y1 (KR a b rs1 (BW ct a d bz (IW ct i (xE g) v1 (LW ct lb lz (YW ct sa sy (XO x a sa h b d i lb xv (HW ct h ha ((F_set (hz.1, hz.2.1, (upS hz.2.2 hz.1 y)) (nI (n9))).2) R)))))))) H := zPp (zF7 (YW ct a y1 []) (KR a b rs1 []) (BW ct a d bz []) (IW ct i (xE g) v1 []) (LW ct lb lz []) (YW ct sa sy []) (XO x a sa h b d i lb xv []) (HWl ct h ha ((F_set (hz.1, hz.2.1, (upS hz.2.2 hz.1 y)) (nI (n9))).2)) (R)).symm hP
        have hD : va_D A (YW ct a y1 (KR a b rs1 (BW ct a d bz (IW ct i (xE g) v1 (LW ct lb lz (YW ct sa sy (XO x a sa h b d i lb xv (HW ct h ha ((F_set (hz.1, hz.2.1, (upS hz.2.2 hz.1 y)) (nI (n9))).2) R)))))))) := zDp (zF7 (YW ct a y1 []) (KR a b rs1 []) (BW ct a d bz []) (IW ct i (xE g) v1 []) (LW ct lb lz []) (YW ct sa sy []) (XO x a sa h b d i lb xv []) (HWl ct h ha ((F_set (hz.1, hz.2.1, (upS hz.2.2 hz.1 y)) (nI (n9))).2)) (R)).symm hD
        have e8 : (runA (hz.1, hz.2.1, (upS hz.2.2 hz.1 y)) 60 0 0 y rs iv) = (((F_set (hz.1, hz.2.1, (upS hz.2.2 hz.1 y)) (nI (n9))).1), y1, rs1, v1, ((F_set (hz.1, hz.2.1, (upS hz.2.2 hz.1 y)) (nI (n9))).2)) := by rw [← htot, show 60 - n9 = 0 from by omega, runA]
        have hP : va_P D vwCl (YW ct a ((runA (hz.1, hz.2.1, (upS hz.2.2 hz.1 y)) 60 0 0 y rs iv).2.1) (KR a b ((runA (hz.1, hz.2.1, (upS hz.2.2 hz.1 y)) 60 0 0 y rs iv).2.2.1) (BW ct a d bz (IW ct i (xE g) ((runA (hz.1, hz.2.1, (upS hz.2.2 hz.1 y)) 60 0 0 y rs iv).2.2.2.1) (LW ct lb lz (YW ct sa sy (XO x a sa h b d i lb xv (HW ct h ha ((runA (hz.1, hz.2.1, (upS hz.2.2 hz.1 y)) 60 0 0 y rs iv).2.2.2.2) R)))))))) H := by rw [e8]; exact hP
        have hD : va_D A (YW ct a ((runA (hz.1, hz.2.1, (upS hz.2.2 hz.1 y)) 60 0 0 y rs iv).2.1) (KR a b ((runA (hz.1, hz.2.1, (upS hz.2.2 hz.1 y)) 60 0 0 y rs iv).2.2.1) (BW ct a d bz (IW ct i (xE g) ((runA (hz.1, hz.2.1, (upS hz.2.2 hz.1 y)) 60 0 0 y rs iv).2.2.2.1) (LW ct lb lz (YW ct sa sy (XO x a sa h b d i lb xv (HW ct h ha ((runA (hz.1, hz.2.1, (upS hz.2.2 hz.1 y)) 60 0 0 y rs iv).2.2.2.2) R)))))))) := by rw [e8]; exact hD
        exact zIret () hx hb hr hlocks hK hP hD hS dX10_carryOutAll_138 (show ((F_set (hz.1, hz.2.1, (upS hz.2.2 hz.1 y)) (nI (n9))).1) = (runA (hz.1, hz.2.1, (upS hz.2.2 hz.1 y)) 60 0 0 y rs iv).1 from (by rw [e8]))
      · skip
        have hg := tkQ_g v1 (pos := p9) (B := 200) (by omega) (by omega)
        have hjj := hJi y1 hJ1
        have hb9 : i_st (tkQ v1 p9).2 ≤ 100 + n9 := (tkQ_g v1 (pos := p9) (B := 100 + n9) (by omega) (by omega)).2.2.2.1
        refine lv_aload_n hx hb dX10_carryOutAll_21 rfl (lv_at hl 0 rfl) ?_
        refine va_get (ci := 9) (v := .ref (i 0)) hx hb hts h_X10 hown hK hP 38 rfl rfl 9 (by decide) f74 (fun _ h9 => h9) rfl dX10_carryOutAll_22 ?_
        refine lv_iload_n hx hb dX10_carryOutAll_25 rfl (lv_at hl 1 rfl) ?_
        have hP : va_P D vwCl (IW ct i (xE g) v1 (YW ct a y1 (KR a b rs1 (BW ct a d bz (LW ct lb lz (YW ct sa sy (XO x a sa h b d i lb xv (HW ct h ha (hz.1, hz.2.1, (upS hz.2.2 hz.1 y)) R)))))))) H := zPp (zF3 (YW ct a y1 []) (KR a b rs1 []) (BW ct a d bz []) (IW ct i (xE g) v1 []) (LW ct lb lz (YW ct sa sy (XO x a sa h b d i lb xv (HW ct h ha (hz.1, hz.2.1, (upS hz.2.2 hz.1 y)) R))))) hP
        have hD : va_D A (IW ct i (xE g) v1 (YW ct a y1 (KR a b rs1 (BW ct a d bz (LW ct lb lz (YW ct sa sy (XO x a sa h b d i lb xv (HW ct h ha (hz.1, hz.2.1, (upS hz.2.2 hz.1 y)) R)))))))) := zDp (zF3 (YW ct a y1 []) (KR a b rs1 []) (BW ct a d bz []) (IW ct i (xE g) v1 []) (LW ct lb lz (YW ct sa sy (XO x a sa h b d i lb xv (HW ct h ha (hz.1, hz.2.1, (upS hz.2.2 hz.1 y)) R))))) hD
        refine zVIX [.int (nI (p9))] [] (kX4_takeCommand (i) (v1) (YW ct a y1 (KR a b rs1 (BW ct a d bz (LW ct lb lz (YW ct sa sy (XO x a sa h b d i lb xv (HW ct h ha (hz.1, hz.2.1, (upS hz.2.2 hz.1 y)) R))))))) (p9) (show i_n v1 ≤ 60 from (by omega)) (show (p9) ≤ 1000 from (by omega))) hx hb hml hown hts (cwV 1 hts gX10_carryOutAll_X4_takeCommand rfl rfl rfl (by decide +kernel) ⟨(Nat.le_of_ble_eq_true rfl), (Nat.le_of_ble_eq_true rfl)⟩) hK hP hD hS hA hX (va_recv hK hP (ci := 3) (q0 := 0) rfl rfl) rfl hl.1 rfl (Nat.le_of_ble_eq_true rfl) dX10_carryOutAll_26 ⟨(Nat.le_of_ble_eq_true rfl), (Nat.le_of_ble_eq_true rfl)⟩ (fun r_26 _ H locs hr_26 hP hD hS => ?_)
        subst hr_26
        have hP : va_P D vwCl (IW ct i (xE g) ((tkQ v1 (p9)).2) (YW ct a y1 (KR a b rs1 (BW ct a d bz (LW ct lb lz (YW ct sa sy (XO x a sa h b d i lb xv (HW ct h ha (hz.1, hz.2.1, (upS hz.2.2 hz.1 y)) R)))))))) H := hP
        have hD : va_D A (IW ct i (xE g) ((tkQ v1 (p9)).2) (YW ct a y1 (KR a b rs1 (BW ct a d bz (LW ct lb lz (YW ct sa sy (XO x a sa h b d i lb xv (HW ct h ha (hz.1, hz.2.1, (upS hz.2.2 hz.1 y)) R)))))))) := hD
        have hP : va_P D vwCl (YW ct a y1 (KR a b rs1 (BW ct a d bz (IW ct i (xE g) ((tkQ v1 (p9)).2) (LW ct lb lz (YW ct sa sy (XO x a sa h b d i lb xv (HW ct h ha (hz.1, hz.2.1, (upS hz.2.2 hz.1 y)) R)))))))) H := zPp (zF3 (YW ct a y1 []) (KR a b rs1 []) (BW ct a d bz []) (IW ct i (xE g) ((tkQ v1 (p9)).2) []) (LW ct lb lz (YW ct sa sy (XO x a sa h b d i lb xv (HW ct h ha (hz.1, hz.2.1, (upS hz.2.2 hz.1 y)) R))))).symm hP
        have hD : va_D A (YW ct a y1 (KR a b rs1 (BW ct a d bz (IW ct i (xE g) ((tkQ v1 (p9)).2) (LW ct lb lz (YW ct sa sy (XO x a sa h b d i lb xv (HW ct h ha (hz.1, hz.2.1, (upS hz.2.2 hz.1 y)) R)))))))) := zDp (zF3 (YW ct a y1 []) (KR a b rs1 []) (BW ct a d bz []) (IW ct i (xE g) ((tkQ v1 (p9)).2) []) (LW ct lb lz (YW ct sa sy (XO x a sa h b d i lb xv (HW ct h ha (hz.1, hz.2.1, (upS hz.2.2 hz.1 y)) R))))).symm hD
        refine zB_if_eq (tgt := 130) hx hb dX10_carryOutAll_29 (by decide) (fun c29_2 => ?_) (fun c29_2 => ?_)
        · skip
          refine lv_aload_n hx hb dX10_carryOutAll_130 rfl (lv_at hl 0 rfl) ?_
          refine va_get (ci := 9) (v := .ref (h 0)) hx hb hts h_X10 hown hK hP 38 rfl rfl 3 (by decide) f26 (fun _ h9 => h9) rfl dX10_carryOutAll_131 ?_
          refine lv_iload_n hx hb dX10_carryOutAll_134 rfl (lv_at hl 2 rfl) ?_
          have hP : va_P D vwCl (HW ct h ha (hz.1, hz.2.1, (upS hz.2.2 hz.1 y)) (YW ct a y1 (KR a b rs1 (BW ct a d bz (IW ct i (xE g) ((tkQ v1 (p9)).2) (LW ct lb lz (YW ct sa sy (XO x a sa h b d i lb xv R)))))))) H := zPp (zF7 (YW ct a y1 []) (KR a b rs1 []) (BW ct a d bz []) (IW ct i (xE g) ((tkQ v1 (p9)).2) []) (LW ct lb lz []) (YW ct sa sy []) (XO x a sa h b d i lb xv []) (HWl ct h ha (hz.1, hz.2.1, (upS hz.2.2 hz.1 y))) (R)) hP
          have hD : va_D A (HW ct h ha (hz.1, hz.2.1, (upS hz.2.2 hz.1 y)) (YW ct a y1 (KR a b rs1 (BW ct a d bz (IW ct i (xE g) ((tkQ v1 (p9)).2) (LW ct lb lz (YW ct sa sy (XO x a sa h b d i lb xv R)))))))) := zDp (zF7 (YW ct a y1 []) (KR a b rs1 []) (BW ct a d bz []) (IW ct i (xE g) ((tkQ v1 (p9)).2) []) (LW ct lb lz []) (YW ct sa sy []) (XO x a sa h b d i lb xv []) (HWl ct h ha (hz.1, hz.2.1, (upS hz.2.2 hz.1 y))) (R)) hD
          refine zVI [.int (nI (n9))] [] (kX3_settle (h) (ha) ((hz.1, hz.2.1, (upS hz.2.2 hz.1 y))) (YW ct a y1 (KR a b rs1 (BW ct a d bz (IW ct i (xE g) ((tkQ v1 (p9)).2) (LW ct lb lz (YW ct sa sy (XO x a sa h b d i lb xv R))))))) (nI (n9)) (show hz.1 ≤ 8 from hn8) (show hz.2.1 ≤ 8 from hc8)) hx hb hml hown hts (cwV 1 hts gX10_carryOutAll_X3_settle rfl rfl rfl (by decide +kernel) ⟨(Nat.le_of_ble_eq_true rfl), (Nat.le_of_ble_eq_true rfl)⟩) hK hP hD hS hA (va_recv hK hP (ci := 2) (q0 := 0) rfl rfl) rfl hl.1 rfl (Nat.le_of_ble_eq_true rfl) dX10_carryOutAll_135 ⟨(Nat.le_of_ble_eq_true rfl), (Nat.le_of_ble_eq_true rfl)⟩ (fun r_135 _ H locs hr_135 hP hD hS => ?_)
          subst hr_135
          have hP : va_P D vwCl (HW ct h ha ((F_set (hz.1, hz.2.1, (upS hz.2.2 hz.1 y)) (nI (n9))).2) (YW ct a y1 (KR a b rs1 (BW ct a d bz (IW ct i (xE g) ((tkQ v1 (p9)).2) (LW ct lb lz (YW ct sa sy (XO x a sa h b d i lb xv R)))))))) H := hP
          have hD : va_D A (HW ct h ha ((F_set (hz.1, hz.2.1, (upS hz.2.2 hz.1 y)) (nI (n9))).2) (YW ct a y1 (KR a b rs1 (BW ct a d bz (IW ct i (xE g) ((tkQ v1 (p9)).2) (LW ct lb lz (YW ct sa sy (XO x a sa h b d i lb xv R)))))))) := hD
          have hP : va_P D vwCl (YW ct a y1 (KR a b rs1 (BW ct a d bz (IW ct i (xE g) ((tkQ v1 (p9)).2) (LW ct lb lz (YW ct sa sy (XO x a sa h b d i lb xv (HW ct h ha ((F_set (hz.1, hz.2.1, (upS hz.2.2 hz.1 y)) (nI (n9))).2) R)))))))) H := zPp (zF7 (YW ct a y1 []) (KR a b rs1 []) (BW ct a d bz []) (IW ct i (xE g) ((tkQ v1 (p9)).2) []) (LW ct lb lz []) (YW ct sa sy []) (XO x a sa h b d i lb xv []) (HWl ct h ha ((F_set (hz.1, hz.2.1, (upS hz.2.2 hz.1 y)) (nI (n9))).2)) (R)).symm hP
          have hD : va_D A (YW ct a y1 (KR a b rs1 (BW ct a d bz (IW ct i (xE g) ((tkQ v1 (p9)).2) (LW ct lb lz (YW ct sa sy (XO x a sa h b d i lb xv (HW ct h ha ((F_set (hz.1, hz.2.1, (upS hz.2.2 hz.1 y)) (nI (n9))).2) R)))))))) := zDp (zF7 (YW ct a y1 []) (KR a b rs1 []) (BW ct a d bz []) (IW ct i (xE g) ((tkQ v1 (p9)).2) []) (LW ct lb lz []) (YW ct sa sy []) (XO x a sa h b d i lb xv []) (HWl ct h ha ((F_set (hz.1, hz.2.1, (upS hz.2.2 hz.1 y)) (nI (n9))).2)) (R)).symm hD
          have e8 : (runA (hz.1, hz.2.1, (upS hz.2.2 hz.1 y)) 60 0 0 y rs iv) = (((F_set (hz.1, hz.2.1, (upS hz.2.2 hz.1 y)) (nI (n9))).1), y1, rs1, ((tkQ v1 (p9)).2), ((F_set (hz.1, hz.2.1, (upS hz.2.2 hz.1 y)) (nI (n9))).2)) := by rw [← htot, runA_n (by omega) c29_2]
          have hP : va_P D vwCl (YW ct a ((runA (hz.1, hz.2.1, (upS hz.2.2 hz.1 y)) 60 0 0 y rs iv).2.1) (KR a b ((runA (hz.1, hz.2.1, (upS hz.2.2 hz.1 y)) 60 0 0 y rs iv).2.2.1) (BW ct a d bz (IW ct i (xE g) ((runA (hz.1, hz.2.1, (upS hz.2.2 hz.1 y)) 60 0 0 y rs iv).2.2.2.1) (LW ct lb lz (YW ct sa sy (XO x a sa h b d i lb xv (HW ct h ha ((runA (hz.1, hz.2.1, (upS hz.2.2 hz.1 y)) 60 0 0 y rs iv).2.2.2.2) R)))))))) H := by rw [e8]; exact hP
          have hD : va_D A (YW ct a ((runA (hz.1, hz.2.1, (upS hz.2.2 hz.1 y)) 60 0 0 y rs iv).2.1) (KR a b ((runA (hz.1, hz.2.1, (upS hz.2.2 hz.1 y)) 60 0 0 y rs iv).2.2.1) (BW ct a d bz (IW ct i (xE g) ((runA (hz.1, hz.2.1, (upS hz.2.2 hz.1 y)) 60 0 0 y rs iv).2.2.2.1) (LW ct lb lz (YW ct sa sy (XO x a sa h b d i lb xv (HW ct h ha ((runA (hz.1, hz.2.1, (upS hz.2.2 hz.1 y)) 60 0 0 y rs iv).2.2.2.2) R)))))))) := by rw [e8]; exact hD
          exact zIret () hx hb hr hlocks hK hP hD hS dX10_carryOutAll_138 (show ((F_set (hz.1, hz.2.1, (upS hz.2.2 hz.1 y)) (nI (n9))).1) = (runA (hz.1, hz.2.1, (upS hz.2.2 hz.1 y)) 60 0 0 y rs iv).1 from (by rw [e8]))
        · skip
          refine lv_aload_n hx hb dX10_carryOutAll_32 rfl (lv_at hl 0 rfl) ?_
          refine lv_aload_n hx hb dX10_carryOutAll_33 rfl (lv_at hl 0 rfl) ?_
          refine va_get (ci := 9) (v := .ref (i 0)) hx hb hts h_X10 hown hK hP 38 rfl rfl 9 (by decide) f74 (fun _ h9 => h9) rfl dX10_carryOutAll_34 ?_
          refine va_get (ci := 3) (v := .ref (xE g (i_cm ((tkQ v1 (p9)).2)))) hx hb hts h_X4 hown hK hP 21 rfl rfl 2 (by decide) f147 (fun _ h9 => h9) rfl dX10_carryOutAll_37 ?_
          refine lv_aload_n hx hb dX10_carryOutAll_40 rfl (lv_at hl 0 rfl) ?_
          refine va_get (ci := 9) (v := .ref (i 0)) hx hb hts h_X10 hown hK hP 38 rfl rfl 9 (by decide) f74 (fun _ h9 => h9) rfl dX10_carryOutAll_41 ?_
          refine va_get (ci := 3) (v := .ref (i 2)) hx hb hts h_X4 hown hK hP 21 rfl rfl 3 (by decide) f151 (fun _ h9 => h9) rfl dX10_carryOutAll_44 ?_
          refine lv_iconst (v := nI (0)) hx hb dX10_carryOutAll_47 (by decide) ?_
          refine zIald (n := 3) (f := i_nu ((tkQ v1 (p9)).2)) (i := 0) hx hb hK hP 23 rfl (by omega) (by decide) dX10_carryOutAll_48 ?_
          refine lv_aload_n hx hb dX10_carryOutAll_49 rfl (lv_at hl 0 rfl) ?_
          refine va_get (ci := 9) (v := .ref (i 0)) hx hb hts h_X10 hown hK hP 38 rfl rfl 9 (by decide) f74 (fun _ h9 => h9) rfl dX10_carryOutAll_50 ?_
          refine va_get (ci := 3) (v := .ref (i 2)) hx hb hts h_X4 hown hK hP 21 rfl rfl 3 (by decide) f151 (fun _ h9 => h9) rfl dX10_carryOutAll_53 ?_
          refine lv_iconst (v := nI (1)) hx hb dX10_carryOutAll_56 (by decide) ?_
          refine zIald (n := 3) (f := i_nu ((tkQ v1 (p9)).2)) (i := 1) hx hb hK hP 23 rfl (by omega) (by decide) dX10_carryOutAll_57 ?_
          refine lv_aload_n hx hb dX10_carryOutAll_58 rfl (lv_at hl 0 rfl) ?_
          refine va_get (ci := 9) (v := .ref (i 0)) hx hb hts h_X10 hown hK hP 38 rfl rfl 9 (by decide) f74 (fun _ h9 => h9) rfl dX10_carryOutAll_59 ?_
          refine va_get (ci := 3) (v := .ref (i 2)) hx hb hts h_X4 hown hK hP 21 rfl rfl 3 (by decide) f151 (fun _ h9 => h9) rfl dX10_carryOutAll_62 ?_
          refine lv_iconst (v := nI (2)) hx hb dX10_carryOutAll_65 (by decide) ?_
          refine zIald (n := 3) (f := i_nu ((tkQ v1 (p9)).2)) (i := 2) hx hb hK hP 23 rfl (by omega) (by decide) dX10_carryOutAll_66 ?_
          refine zVIX [.ref (xE g (i_cm ((tkQ v1 (p9)).2))), .int ((i_nu ((tkQ v1 (p9)).2) (0))), .int ((i_nu ((tkQ v1 (p9)).2) (1))), .int ((i_nu ((tkQ v1 (p9)).2) (2)))] [] (kX10_carryOut (a) (y1) (b) (rs1) (d) (bz) (i) (((tkQ v1 (p9)).2)) (lb) (lz) (sa) (sy) (x) (xv) (h) (ha) ((hz.1, hz.2.1, (upS hz.2.2 hz.1 y))) (R) ((i_nu ((tkQ v1 (p9)).2) (0))) ((i_nu ((tkQ v1 (p9)).2) (1))) ((i_nu ((tkQ v1 (p9)).2) (2))) (i_cm (tkQ v1 p9).2) (show yI y1 from hjj.1) (show yF y1 from hjj.2) (show (i_cm (tkQ v1 p9).2) < 9 from hg.2.2.2.2 hc1)) hx hb hml hown hts (cwV 4 hts gX10_carryOutAll_X10_carryOut rfl rfl rfl (by decide +kernel) ⟨(Nat.le_of_ble_eq_true rfl), (Nat.le_of_ble_eq_true rfl)⟩) hK hP hD hS hA hX (va_recv hK hP (ci := 9) (q0 := 38) rfl rfl) rfl hl.1 rfl (Nat.le_of_ble_eq_true rfl) dX10_carryOutAll_67 ⟨(Nat.le_of_ble_eq_true rfl), (Nat.le_of_ble_eq_true rfl)⟩ (fun r_67 _ H locs hr_67 hP hD hS => ?_)
          subst hr_67
          have hP : va_P D vwCl (YW ct a ((f_cmd (i_cm (tkQ v1 p9).2) y1 rs1 ((i_nu ((tkQ v1 (p9)).2) (0))) ((i_nu ((tkQ v1 (p9)).2) (1))) ((i_nu ((tkQ v1 (p9)).2) (2)))).2.1) (KR a b ((f_cmd (i_cm (tkQ v1 p9).2) y1 rs1 ((i_nu ((tkQ v1 (p9)).2) (0))) ((i_nu ((tkQ v1 (p9)).2) (1))) ((i_nu ((tkQ v1 (p9)).2) (2)))).2.2) (BW ct a d bz (IW ct i (xE g) ((tkQ v1 (p9)).2) (LW ct lb lz (YW ct sa sy (XO x a sa h b d i lb xv (HW ct h ha (hz.1, hz.2.1, (upS hz.2.2 hz.1 y)) R)))))))) H := hP
          have hD : va_D A (YW ct a ((f_cmd (i_cm (tkQ v1 p9).2) y1 rs1 ((i_nu ((tkQ v1 (p9)).2) (0))) ((i_nu ((tkQ v1 (p9)).2) (1))) ((i_nu ((tkQ v1 (p9)).2) (2)))).2.1) (KR a b ((f_cmd (i_cm (tkQ v1 p9).2) y1 rs1 ((i_nu ((tkQ v1 (p9)).2) (0))) ((i_nu ((tkQ v1 (p9)).2) (1))) ((i_nu ((tkQ v1 (p9)).2) (2)))).2.2) (BW ct a d bz (IW ct i (xE g) ((tkQ v1 (p9)).2) (LW ct lb lz (YW ct sa sy (XO x a sa h b d i lb xv (HW ct h ha (hz.1, hz.2.1, (upS hz.2.2 hz.1 y)) R)))))))) := hD
          refine lv_istore_n (lv' := [(3, .int (((f_cmd (i_cm (tkQ v1 p9).2) y1 rs1 ((i_nu ((tkQ v1 (p9)).2) (0))) ((i_nu ((tkQ v1 (p9)).2) (1))) ((i_nu ((tkQ v1 (p9)).2) (2)))).1))), (0, .ref (x 0)), (1, .int (nI (p9))), (2, .int (nI (n9)))]) hx hb dX10_carryOutAll_70 rfl hl (by decide) rfl (fun ls hl => ?_)
          refine lv_iload_n hx hb dX10_carryOutAll_71 rfl (lv_at hl 0 rfl) ?_
          refine lv_if_ge (tgt := 114) hx hb dX10_carryOutAll_72 (by decide) (fun c72_3 => ?_) (fun c72_3 => ?_)
          · skip
            refine lv_aload_n hx hb dX10_carryOutAll_114 rfl (lv_at hl 1 rfl) ?_
            refine va_get (ci := 9) (v := .ref (i 0)) hx hb hts h_X10 hown hK hP 38 rfl rfl 9 (by decide) f74 (fun _ h9 => h9) rfl dX10_carryOutAll_115 ?_
            refine va_get (ci := 3) (v := .int (nI (i_st ((tkQ v1 (p9)).2)))) hx hb hts h_X4 hown hK hP 21 rfl rfl 4 (by decide) f168 (fun _ h9 => h9) rfl dX10_carryOutAll_118 ?_
            refine lv_iconst (v := nI (1)) hx hb dX10_carryOutAll_121 (by decide) ?_
            refine zNadd hx hb dX10_carryOutAll_122 ?_
            refine lv_istore_n (lv' := [(1, .int (nI ((i_st ((tkQ v1 (p9)).2) + 1)))), (3, .int (((f_cmd (i_cm (tkQ v1 p9).2) y1 rs1 ((i_nu ((tkQ v1 (p9)).2) (0))) ((i_nu ((tkQ v1 (p9)).2) (1))) ((i_nu ((tkQ v1 (p9)).2) (2)))).1))), (0, .ref (x 0)), (2, .int (nI (n9)))]) hx hb dX10_carryOutAll_123 rfl hl (by decide) rfl (fun ls hl => ?_)
            refine lv_iinc (v := nI ((n9 + 1))) (lv' := [(2, .int (nI ((n9 + 1)))), (1, .int (nI ((i_st ((tkQ v1 (p9)).2) + 1)))), (3, .int (((f_cmd (i_cm (tkQ v1 p9).2) y1 rs1 ((i_nu ((tkQ v1 (p9)).2) (0))) ((i_nu ((tkQ v1 (p9)).2) (1))) ((i_nu ((tkQ v1 (p9)).2) (2)))).1))), (0, .ref (x 0))]) hx hb dX10_carryOutAll_124 hl (k := 3) rfl (zInc _) (by decide) rfl (fun ls hl => ?_)
            refine lv_goto (tgt := 15) hx hb dX10_carryOutAll_127 (by decide) ?_
            exact ih15 ((n9 + 1)) ((i_st ((tkQ v1 (p9)).2) + 1)) (((f_cmd (i_cm (tkQ v1 p9).2) y1 rs1 ((i_nu ((tkQ v1 (p9)).2) (0))) ((i_nu ((tkQ v1 (p9)).2) (1))) ((i_nu ((tkQ v1 (p9)).2) (2)))).2.1)) (((f_cmd (i_cm (tkQ v1 p9).2) y1 rs1 ((i_nu ((tkQ v1 (p9)).2) (0))) ((i_nu ((tkQ v1 (p9)).2) (1))) ((i_nu ((tkQ v1 (p9)).2) (2)))).2.2)) (((tkQ v1 (p9)).2)) H locs ls (by omega) (show i_st (tkQ v1 p9).2 + 1 ≤ 100 + (n9 + 1) from by omega) (hg.2.1.trans hn1) (hg.2.2.2.2 hc1) (hJc _ _ _ _ _ _ hJ1) ((runA_s (r := 60 - n9) (by omega) c29_2 (Int32.not_lt.mpr c72_3)).symm.trans htot) (by omega) hP hD hS (lv_sub hl [3, 1, 0] rfl)
          · skip
            refine lv_aload_n hx hb dX10_carryOutAll_75 rfl (lv_at hl 1 rfl) ?_
            refine va_get (ci := 9) (v := .ref (h 0)) hx hb hts h_X10 hown hK hP 38 rfl rfl 3 (by decide) f26 (fun _ h9 => h9) rfl dX10_carryOutAll_76 ?_
            refine lv_aload_n hx hb dX10_carryOutAll_79 rfl (lv_at hl 1 rfl) ?_
            refine va_get (ci := 9) (v := .ref (a 0)) hx hb hts h_X10 hown hK hP 38 rfl rfl 0 (by decide) f10 (fun _ h9 => h9) rfl dX10_carryOutAll_80 ?_
            have hP : va_P D vwCl (YW ct a ((f_cmd (i_cm (tkQ v1 p9).2) y1 rs1 ((i_nu ((tkQ v1 (p9)).2) (0))) ((i_nu ((tkQ v1 (p9)).2) (1))) ((i_nu ((tkQ v1 (p9)).2) (2)))).2.1) (HW ct h ha (hz.1, hz.2.1, (upS hz.2.2 hz.1 y)) (KR a b ((f_cmd (i_cm (tkQ v1 p9).2) y1 rs1 ((i_nu ((tkQ v1 (p9)).2) (0))) ((i_nu ((tkQ v1 (p9)).2) (1))) ((i_nu ((tkQ v1 (p9)).2) (2)))).2.2) (BW ct a d bz (IW ct i (xE g) ((tkQ v1 (p9)).2) (LW ct lb lz (YW ct sa sy (XO x a sa h b d i lb xv R)))))))) H := zPp ((zF7 (YW ct a ((f_cmd (i_cm (tkQ v1 p9).2) y1 rs1 ((i_nu ((tkQ v1 (p9)).2) (0))) ((i_nu ((tkQ v1 (p9)).2) (1))) ((i_nu ((tkQ v1 (p9)).2) (2)))).2.1) []) (KR a b ((f_cmd (i_cm (tkQ v1 p9).2) y1 rs1 ((i_nu ((tkQ v1 (p9)).2) (0))) ((i_nu ((tkQ v1 (p9)).2) (1))) ((i_nu ((tkQ v1 (p9)).2) (2)))).2.2) []) (BW ct a d bz []) (IW ct i (xE g) ((tkQ v1 (p9)).2) []) (LW ct lb lz []) (YW ct sa sy []) (XO x a sa h b d i lb xv []) (HWl ct h ha (hz.1, hz.2.1, (upS hz.2.2 hz.1 y))) (R)).trans (zMv1 (HWl ct h ha (hz.1, hz.2.1, (upS hz.2.2 hz.1 y))) (YW ct a ((f_cmd (i_cm (tkQ v1 p9).2) y1 rs1 ((i_nu ((tkQ v1 (p9)).2) (0))) ((i_nu ((tkQ v1 (p9)).2) (1))) ((i_nu ((tkQ v1 (p9)).2) (2)))).2.1) []) (KR a b ((f_cmd (i_cm (tkQ v1 p9).2) y1 rs1 ((i_nu ((tkQ v1 (p9)).2) (0))) ((i_nu ((tkQ v1 (p9)).2) (1))) ((i_nu ((tkQ v1 (p9)).2) (2)))).2.2) (BW ct a d bz (IW ct i (xE g) ((tkQ v1 (p9)).2) (LW ct lb lz (YW ct sa sy (XO x a sa h b d i lb xv R)))))))) hP
            have hD : va_D A (YW ct a ((f_cmd (i_cm (tkQ v1 p9).2) y1 rs1 ((i_nu ((tkQ v1 (p9)).2) (0))) ((i_nu ((tkQ v1 (p9)).2) (1))) ((i_nu ((tkQ v1 (p9)).2) (2)))).2.1) (HW ct h ha (hz.1, hz.2.1, (upS hz.2.2 hz.1 y)) (KR a b ((f_cmd (i_cm (tkQ v1 p9).2) y1 rs1 ((i_nu ((tkQ v1 (p9)).2) (0))) ((i_nu ((tkQ v1 (p9)).2) (1))) ((i_nu ((tkQ v1 (p9)).2) (2)))).2.2) (BW ct a d bz (IW ct i (xE g) ((tkQ v1 (p9)).2) (LW ct lb lz (YW ct sa sy (XO x a sa h b d i lb xv R)))))))) := zDp ((zF7 (YW ct a ((f_cmd (i_cm (tkQ v1 p9).2) y1 rs1 ((i_nu ((tkQ v1 (p9)).2) (0))) ((i_nu ((tkQ v1 (p9)).2) (1))) ((i_nu ((tkQ v1 (p9)).2) (2)))).2.1) []) (KR a b ((f_cmd (i_cm (tkQ v1 p9).2) y1 rs1 ((i_nu ((tkQ v1 (p9)).2) (0))) ((i_nu ((tkQ v1 (p9)).2) (1))) ((i_nu ((tkQ v1 (p9)).2) (2)))).2.2) []) (BW ct a d bz []) (IW ct i (xE g) ((tkQ v1 (p9)).2) []) (LW ct lb lz []) (YW ct sa sy []) (XO x a sa h b d i lb xv []) (HWl ct h ha (hz.1, hz.2.1, (upS hz.2.2 hz.1 y))) (R)).trans (zMv1 (HWl ct h ha (hz.1, hz.2.1, (upS hz.2.2 hz.1 y))) (YW ct a ((f_cmd (i_cm (tkQ v1 p9).2) y1 rs1 ((i_nu ((tkQ v1 (p9)).2) (0))) ((i_nu ((tkQ v1 (p9)).2) (1))) ((i_nu ((tkQ v1 (p9)).2) (2)))).2.1) []) (KR a b ((f_cmd (i_cm (tkQ v1 p9).2) y1 rs1 ((i_nu ((tkQ v1 (p9)).2) (0))) ((i_nu ((tkQ v1 (p9)).2) (1))) ((i_nu ((tkQ v1 (p9)).2) (2)))).2.2) (BW ct a d bz (IW ct i (xE g) ((tkQ v1 (p9)).2) (LW ct lb lz (YW ct sa sy (XO x a sa h b d i lb xv R)))))))) hD
            refine zVV [.ref (a 0)] [] (kX3_takeBack (a) (((f_cmd (i_cm (tkQ v1 p9).2) y1 rs1 ((i_nu ((tkQ v1 (p9)).2) (0))) ((i_nu ((tkQ v1 (p9)).2) (1))) ((i_nu ((tkQ v1 (p9)).2) (2)))).2.1)) (h) (ha) ((hz.1, hz.2.1, (upS hz.2.2 hz.1 y))) (KR a b ((f_cmd (i_cm (tkQ v1 p9).2) y1 rs1 ((i_nu ((tkQ v1 (p9)).2) (0))) ((i_nu ((tkQ v1 (p9)).2) (1))) ((i_nu ((tkQ v1 (p9)).2) (2)))).2.2) (BW ct a d bz (IW ct i (xE g) ((tkQ v1 (p9)).2) (LW ct lb lz (YW ct sa sy (XO x a sa h b d i lb xv R)))))) (show hz.1 ≤ 8 from hn8)) hx hb hml hown hts (cwV 1 hts gX10_carryOutAll_X3_takeBack rfl rfl rfl (by decide +kernel) ⟨(Nat.le_of_ble_eq_true rfl), (Nat.le_of_ble_eq_true rfl)⟩) hK hP hD hS hA (va_recv hK hP (ci := 2) (q0 := 12) rfl rfl) rfl hl.1 rfl (Nat.le_of_ble_eq_true rfl) dX10_carryOutAll_83 ⟨(Nat.le_of_ble_eq_true rfl), (Nat.le_of_ble_eq_true rfl)⟩ (fun _ H locs hr_83 hP hD hS => ?_)
            have hP : va_P D vwCl (YW ct a ((hz.1, hz.2.1, (upS hz.2.2 hz.1 y)).2.2 ((hz.1, hz.2.1, (upS hz.2.2 hz.1 y)).1)) (HW ct h ha (hz.1, hz.2.1, (upS hz.2.2 hz.1 y)) (KR a b ((f_cmd (i_cm (tkQ v1 p9).2) y1 rs1 ((i_nu ((tkQ v1 (p9)).2) (0))) ((i_nu ((tkQ v1 (p9)).2) (1))) ((i_nu ((tkQ v1 (p9)).2) (2)))).2.2) (BW ct a d bz (IW ct i (xE g) ((tkQ v1 (p9)).2) (LW ct lb lz (YW ct sa sy (XO x a sa h b d i lb xv R)))))))) H := hP
            have hD : va_D A (YW ct a ((hz.1, hz.2.1, (upS hz.2.2 hz.1 y)).2.2 ((hz.1, hz.2.1, (upS hz.2.2 hz.1 y)).1)) (HW ct h ha (hz.1, hz.2.1, (upS hz.2.2 hz.1 y)) (KR a b ((f_cmd (i_cm (tkQ v1 p9).2) y1 rs1 ((i_nu ((tkQ v1 (p9)).2) (0))) ((i_nu ((tkQ v1 (p9)).2) (1))) ((i_nu ((tkQ v1 (p9)).2) (2)))).2.2) (BW ct a d bz (IW ct i (xE g) ((tkQ v1 (p9)).2) (LW ct lb lz (YW ct sa sy (XO x a sa h b d i lb xv R)))))))) := hD
            have hP : va_P D vwCl (YW ct a ((hz.1, hz.2.1, (upS hz.2.2 hz.1 y)).2.2 ((hz.1, hz.2.1, (upS hz.2.2 hz.1 y)).1)) (KR a b ((f_cmd (i_cm (tkQ v1 p9).2) y1 rs1 ((i_nu ((tkQ v1 (p9)).2) (0))) ((i_nu ((tkQ v1 (p9)).2) (1))) ((i_nu ((tkQ v1 (p9)).2) (2)))).2.2) (BW ct a d bz (IW ct i (xE g) ((tkQ v1 (p9)).2) (LW ct lb lz (YW ct sa sy (XO x a sa h b d i lb xv (HW ct h ha (hz.1, hz.2.1, (upS hz.2.2 hz.1 y)) R)))))))) H := zPp ((zF7 (YW ct a ((hz.1, hz.2.1, (upS hz.2.2 hz.1 y)).2.2 ((hz.1, hz.2.1, (upS hz.2.2 hz.1 y)).1)) []) (KR a b ((f_cmd (i_cm (tkQ v1 p9).2) y1 rs1 ((i_nu ((tkQ v1 (p9)).2) (0))) ((i_nu ((tkQ v1 (p9)).2) (1))) ((i_nu ((tkQ v1 (p9)).2) (2)))).2.2) []) (BW ct a d bz []) (IW ct i (xE g) ((tkQ v1 (p9)).2) []) (LW ct lb lz []) (YW ct sa sy []) (XO x a sa h b d i lb xv []) (HWl ct h ha (hz.1, hz.2.1, (upS hz.2.2 hz.1 y))) (R)).trans (zMv1 (HWl ct h ha (hz.1, hz.2.1, (upS hz.2.2 hz.1 y))) (YW ct a ((hz.1, hz.2.1, (upS hz.2.2 hz.1 y)).2.2 ((hz.1, hz.2.1, (upS hz.2.2 hz.1 y)).1)) []) (KR a b ((f_cmd (i_cm (tkQ v1 p9).2) y1 rs1 ((i_nu ((tkQ v1 (p9)).2) (0))) ((i_nu ((tkQ v1 (p9)).2) (1))) ((i_nu ((tkQ v1 (p9)).2) (2)))).2.2) (BW ct a d bz (IW ct i (xE g) ((tkQ v1 (p9)).2) (LW ct lb lz (YW ct sa sy (XO x a sa h b d i lb xv R)))))))).symm hP
            have hD : va_D A (YW ct a ((hz.1, hz.2.1, (upS hz.2.2 hz.1 y)).2.2 ((hz.1, hz.2.1, (upS hz.2.2 hz.1 y)).1)) (KR a b ((f_cmd (i_cm (tkQ v1 p9).2) y1 rs1 ((i_nu ((tkQ v1 (p9)).2) (0))) ((i_nu ((tkQ v1 (p9)).2) (1))) ((i_nu ((tkQ v1 (p9)).2) (2)))).2.2) (BW ct a d bz (IW ct i (xE g) ((tkQ v1 (p9)).2) (LW ct lb lz (YW ct sa sy (XO x a sa h b d i lb xv (HW ct h ha (hz.1, hz.2.1, (upS hz.2.2 hz.1 y)) R)))))))) := zDp ((zF7 (YW ct a ((hz.1, hz.2.1, (upS hz.2.2 hz.1 y)).2.2 ((hz.1, hz.2.1, (upS hz.2.2 hz.1 y)).1)) []) (KR a b ((f_cmd (i_cm (tkQ v1 p9).2) y1 rs1 ((i_nu ((tkQ v1 (p9)).2) (0))) ((i_nu ((tkQ v1 (p9)).2) (1))) ((i_nu ((tkQ v1 (p9)).2) (2)))).2.2) []) (BW ct a d bz []) (IW ct i (xE g) ((tkQ v1 (p9)).2) []) (LW ct lb lz []) (YW ct sa sy []) (XO x a sa h b d i lb xv []) (HWl ct h ha (hz.1, hz.2.1, (upS hz.2.2 hz.1 y))) (R)).trans (zMv1 (HWl ct h ha (hz.1, hz.2.1, (upS hz.2.2 hz.1 y))) (YW ct a ((hz.1, hz.2.1, (upS hz.2.2 hz.1 y)).2.2 ((hz.1, hz.2.1, (upS hz.2.2 hz.1 y)).1)) []) (KR a b ((f_cmd (i_cm (tkQ v1 p9).2) y1 rs1 ((i_nu ((tkQ v1 (p9)).2) (0))) ((i_nu ((tkQ v1 (p9)).2) (1))) ((i_nu ((tkQ v1 (p9)).2) (2)))).2.2) (BW ct a d bz (IW ct i (xE g) ((tkQ v1 (p9)).2) (LW ct lb lz (YW ct sa sy (XO x a sa h b d i lb xv R)))))))).symm hD
            refine lv_iload_n hx hb dX10_carryOutAll_86 rfl (lv_at hl 0 rfl) ?_
            refine lv_bipush (v := (-3)) hx hb dX10_carryOutAll_87 (by decide) ?_
            refine lv_icmp_ne (tgt := 103) hx hb dX10_carryOutAll_89 (by decide) (fun c89_4 => ?_) (fun c89_4 => ?_)
            · skip
              refine lv_aload_n hx hb dX10_carryOutAll_103 rfl (lv_at hl 1 rfl) ?_
              refine va_get (ci := 9) (v := .ref (b 1)) hx hb hts h_X10 hown hK hP 38 rfl rfl 4 (by decide) f33 (fun _ h9 => h9) rfl dX10_carryOutAll_104 ?_
              refine lv_bipush (v := nI (13)) hx hb dX10_carryOutAll_107 (by decide) ?_
              refine lv_iload_n hx hb dX10_carryOutAll_109 rfl (lv_at hl 3 rfl) ?_
              refine zVI [.int (nI (13)), .int (nI (n9))] [] (kX6_refuse (a) (((hz.1, hz.2.1, (upS hz.2.2 hz.1 y)).2.2 ((hz.1, hz.2.1, (upS hz.2.2 hz.1 y)).1))) (b) (((f_cmd (i_cm (tkQ v1 p9).2) y1 rs1 ((i_nu ((tkQ v1 (p9)).2) (0))) ((i_nu ((tkQ v1 (p9)).2) (1))) ((i_nu ((tkQ v1 (p9)).2) (2)))).2.2)) (BW ct a d bz (IW ct i (xE g) ((tkQ v1 (p9)).2) (LW ct lb lz (YW ct sa sy (XO x a sa h b d i lb xv (HW ct h ha (hz.1, hz.2.1, (upS hz.2.2 hz.1 y)) R)))))) (nI (13)) (nI (n9))) hx hb hml hown hts (cwV 2 hts gX10_carryOutAll_X6_refuse rfl rfl rfl (by decide +kernel) ⟨(Nat.le_of_ble_eq_true rfl), (Nat.le_of_ble_eq_true rfl)⟩) hK hP hD hS hA (va_recv hK hP (ci := 5) (q0 := 13) rfl rfl) rfl hl.1 rfl (Nat.le_of_ble_eq_true rfl) dX10_carryOutAll_110 ⟨(Nat.le_of_ble_eq_true rfl), (Nat.le_of_ble_eq_true rfl)⟩ (fun r_110 _ H locs hr_110 hP hD hS => ?_)
              subst hr_110
              have hP : va_P D vwCl (YW ct a ((hz.1, hz.2.1, (upS hz.2.2 hz.1 y)).2.2 ((hz.1, hz.2.1, (upS hz.2.2 hz.1 y)).1)) (KR a b ((nI (13)), (nI (n9)), (-4), (-4)) (BW ct a d bz (IW ct i (xE g) ((tkQ v1 (p9)).2) (LW ct lb lz (YW ct sa sy (XO x a sa h b d i lb xv (HW ct h ha (hz.1, hz.2.1, (upS hz.2.2 hz.1 y)) R)))))))) H := hP
              have hD : va_D A (YW ct a ((hz.1, hz.2.1, (upS hz.2.2 hz.1 y)).2.2 ((hz.1, hz.2.1, (upS hz.2.2 hz.1 y)).1)) (KR a b ((nI (13)), (nI (n9)), (-4), (-4)) (BW ct a d bz (IW ct i (xE g) ((tkQ v1 (p9)).2) (LW ct lb lz (YW ct sa sy (XO x a sa h b d i lb xv (HW ct h ha (hz.1, hz.2.1, (upS hz.2.2 hz.1 y)) R)))))))) := hD
              have e8 : (runA (hz.1, hz.2.1, (upS hz.2.2 hz.1 y)) 60 0 0 y rs iv) = ((-3), ((hz.1, hz.2.1, (upS hz.2.2 hz.1 y)).2.2 ((hz.1, hz.2.1, (upS hz.2.2 hz.1 y)).1)), ((nI (13)), (nI (n9)), (-4), (-4)), ((tkQ v1 (p9)).2), (hz.1, hz.2.1, (upS hz.2.2 hz.1 y))) := by rw [← htot, runA_f (by omega) c29_2 (Int32.not_le.mp c72_3) c89_4]
              have hP : va_P D vwCl (YW ct a ((runA (hz.1, hz.2.1, (upS hz.2.2 hz.1 y)) 60 0 0 y rs iv).2.1) (KR a b ((runA (hz.1, hz.2.1, (upS hz.2.2 hz.1 y)) 60 0 0 y rs iv).2.2.1) (BW ct a d bz (IW ct i (xE g) ((runA (hz.1, hz.2.1, (upS hz.2.2 hz.1 y)) 60 0 0 y rs iv).2.2.2.1) (LW ct lb lz (YW ct sa sy (XO x a sa h b d i lb xv (HW ct h ha ((runA (hz.1, hz.2.1, (upS hz.2.2 hz.1 y)) 60 0 0 y rs iv).2.2.2.2) R)))))))) H := by rw [e8]; exact hP
              have hD : va_D A (YW ct a ((runA (hz.1, hz.2.1, (upS hz.2.2 hz.1 y)) 60 0 0 y rs iv).2.1) (KR a b ((runA (hz.1, hz.2.1, (upS hz.2.2 hz.1 y)) 60 0 0 y rs iv).2.2.1) (BW ct a d bz (IW ct i (xE g) ((runA (hz.1, hz.2.1, (upS hz.2.2 hz.1 y)) 60 0 0 y rs iv).2.2.2.1) (LW ct lb lz (YW ct sa sy (XO x a sa h b d i lb xv (HW ct h ha ((runA (hz.1, hz.2.1, (upS hz.2.2 hz.1 y)) 60 0 0 y rs iv).2.2.2.2) R)))))))) := by rw [e8]; exact hD
              exact zIret () hx hb hr hlocks hK hP hD hS dX10_carryOutAll_113 (show (-3) = (runA (hz.1, hz.2.1, (upS hz.2.2 hz.1 y)) 60 0 0 y rs iv).1 from (by rw [e8]))
            · skip
              refine lv_aload_n hx hb dX10_carryOutAll_92 rfl (lv_at hl 1 rfl) ?_
              refine va_get (ci := 9) (v := .ref (b 1)) hx hb hts h_X10 hown hK hP 38 rfl rfl 4 (by decide) f33 (fun _ h9 => h9) rfl dX10_carryOutAll_93 ?_
              refine lv_iload_n hx hb dX10_carryOutAll_96 rfl (lv_at hl 3 rfl) ?_
              refine zVI [.int (nI (n9))] [] (kX6_refuseText (a) (((hz.1, hz.2.1, (upS hz.2.2 hz.1 y)).2.2 ((hz.1, hz.2.1, (upS hz.2.2 hz.1 y)).1))) (b) (((f_cmd (i_cm (tkQ v1 p9).2) y1 rs1 ((i_nu ((tkQ v1 (p9)).2) (0))) ((i_nu ((tkQ v1 (p9)).2) (1))) ((i_nu ((tkQ v1 (p9)).2) (2)))).2.2)) (BW ct a d bz (IW ct i (xE g) ((tkQ v1 (p9)).2) (LW ct lb lz (YW ct sa sy (XO x a sa h b d i lb xv (HW ct h ha (hz.1, hz.2.1, (upS hz.2.2 hz.1 y)) R)))))) (nI (n9))) hx hb hml hown hts (cwV 1 hts gX10_carryOutAll_X6_refuseText rfl rfl rfl (by decide +kernel) ⟨(Nat.le_of_ble_eq_true rfl), (Nat.le_of_ble_eq_true rfl)⟩) hK hP hD hS hA (va_recv hK hP (ci := 5) (q0 := 13) rfl rfl) rfl hl.1 rfl (Nat.le_of_ble_eq_true rfl) dX10_carryOutAll_97 ⟨(Nat.le_of_ble_eq_true rfl), (Nat.le_of_ble_eq_true rfl)⟩ (fun r_97 _ H locs hr_97 hP hD hS => ?_)
              subst hr_97
              have hP : va_P D vwCl (YW ct a ((hz.1, hz.2.1, (upS hz.2.2 hz.1 y)).2.2 ((hz.1, hz.2.1, (upS hz.2.2 hz.1 y)).1)) (KR a b ((nI (12)), (nI (n9)), (((f_cmd (i_cm (tkQ v1 p9).2) y1 rs1 ((i_nu ((tkQ v1 (p9)).2) (0))) ((i_nu ((tkQ v1 (p9)).2) (1))) ((i_nu ((tkQ v1 (p9)).2) (2)))).2.2).1), (((f_cmd (i_cm (tkQ v1 p9).2) y1 rs1 ((i_nu ((tkQ v1 (p9)).2) (0))) ((i_nu ((tkQ v1 (p9)).2) (1))) ((i_nu ((tkQ v1 (p9)).2) (2)))).2.2).2.1)) (BW ct a d bz (IW ct i (xE g) ((tkQ v1 (p9)).2) (LW ct lb lz (YW ct sa sy (XO x a sa h b d i lb xv (HW ct h ha (hz.1, hz.2.1, (upS hz.2.2 hz.1 y)) R)))))))) H := hP
              have hD : va_D A (YW ct a ((hz.1, hz.2.1, (upS hz.2.2 hz.1 y)).2.2 ((hz.1, hz.2.1, (upS hz.2.2 hz.1 y)).1)) (KR a b ((nI (12)), (nI (n9)), (((f_cmd (i_cm (tkQ v1 p9).2) y1 rs1 ((i_nu ((tkQ v1 (p9)).2) (0))) ((i_nu ((tkQ v1 (p9)).2) (1))) ((i_nu ((tkQ v1 (p9)).2) (2)))).2.2).1), (((f_cmd (i_cm (tkQ v1 p9).2) y1 rs1 ((i_nu ((tkQ v1 (p9)).2) (0))) ((i_nu ((tkQ v1 (p9)).2) (1))) ((i_nu ((tkQ v1 (p9)).2) (2)))).2.2).2.1)) (BW ct a d bz (IW ct i (xE g) ((tkQ v1 (p9)).2) (LW ct lb lz (YW ct sa sy (XO x a sa h b d i lb xv (HW ct h ha (hz.1, hz.2.1, (upS hz.2.2 hz.1 y)) R)))))))) := hD
              refine lv_goto (tgt := 113) hx hb dX10_carryOutAll_100 (by decide) ?_
              have e8 : (runA (hz.1, hz.2.1, (upS hz.2.2 hz.1 y)) 60 0 0 y rs iv) = ((-3), ((hz.1, hz.2.1, (upS hz.2.2 hz.1 y)).2.2 ((hz.1, hz.2.1, (upS hz.2.2 hz.1 y)).1)), ((nI (12)), (nI (n9)), (((f_cmd (i_cm (tkQ v1 p9).2) y1 rs1 ((i_nu ((tkQ v1 (p9)).2) (0))) ((i_nu ((tkQ v1 (p9)).2) (1))) ((i_nu ((tkQ v1 (p9)).2) (2)))).2.2).1), (((f_cmd (i_cm (tkQ v1 p9).2) y1 rs1 ((i_nu ((tkQ v1 (p9)).2) (0))) ((i_nu ((tkQ v1 (p9)).2) (1))) ((i_nu ((tkQ v1 (p9)).2) (2)))).2.2).2.1)), ((tkQ v1 (p9)).2), (hz.1, hz.2.1, (upS hz.2.2 hz.1 y))) := by rw [← htot, runA_3 (by omega) c29_2 (Int32.not_le.mp c72_3) c89_4]
              have hP : va_P D vwCl (YW ct a ((runA (hz.1, hz.2.1, (upS hz.2.2 hz.1 y)) 60 0 0 y rs iv).2.1) (KR a b ((runA (hz.1, hz.2.1, (upS hz.2.2 hz.1 y)) 60 0 0 y rs iv).2.2.1) (BW ct a d bz (IW ct i (xE g) ((runA (hz.1, hz.2.1, (upS hz.2.2 hz.1 y)) 60 0 0 y rs iv).2.2.2.1) (LW ct lb lz (YW ct sa sy (XO x a sa h b d i lb xv (HW ct h ha ((runA (hz.1, hz.2.1, (upS hz.2.2 hz.1 y)) 60 0 0 y rs iv).2.2.2.2) R)))))))) H := by rw [e8]; exact hP
              have hD : va_D A (YW ct a ((runA (hz.1, hz.2.1, (upS hz.2.2 hz.1 y)) 60 0 0 y rs iv).2.1) (KR a b ((runA (hz.1, hz.2.1, (upS hz.2.2 hz.1 y)) 60 0 0 y rs iv).2.2.1) (BW ct a d bz (IW ct i (xE g) ((runA (hz.1, hz.2.1, (upS hz.2.2 hz.1 y)) 60 0 0 y rs iv).2.2.2.1) (LW ct lb lz (YW ct sa sy (XO x a sa h b d i lb xv (HW ct h ha ((runA (hz.1, hz.2.1, (upS hz.2.2 hz.1 y)) 60 0 0 y rs iv).2.2.2.2) R)))))))) := by rw [e8]; exact hD
              exact zIret () hx hb hr hlocks hK hP hD hS dX10_carryOutAll_113 (show (-3) = (runA (hz.1, hz.2.1, (upS hz.2.2 hz.1 y)) 60 0 0 y rs iv).1 from (by rw [e8]))
  exact lp15 ((60 - (0)) + 1) (0) (0) (y) (rs) (iv) H locs ls (by omega) (by omega) rfl hcm hJ rfl (Nat.lt_succ_self _) hP hD hS (lv_sub hl [2, 1, 0] rfl)
abbrev rmX10_read : Room := { frames := 7, cells := 0, slots := 0, locals := 160 }
theorem in_X10_read_X10 : ∀ w ∈ u_ws RX10 TX10 12, w ∈ wsX10_read := by decide +kernel
set_option maxHeartbeats 4000000 in
set_option maxRecDepth 100000 in
theorem kX10_read {D : va_G} {g : XG} {ct : Nat → ClassId} {l : Launch} (a : Nat → Nat) (y : YS) (b : Nat → Nat) (rs : RS) (d : Nat → Nat) (bz : BS) (i : Nat → Nat) (iv : IS) (lb : Nat → Nat) (lz : LST) (sa : Nat → Nat) (sy : YS) (x : Nat → Nat) (xv : Int32 × Int32) (h : Nat → Nat) (ha : Nat → Nat → Nat) (hz : HS) (R : va_W) (J : YS → Prop) (hJ : J y) (hJi : ∀ y, J y → yI y ∧ yF y) (hJc : ∀ y rs c x1 x2 x3, J y → J (f_cmd c y rs x1 x2 x3).2.1) (hn8 : hz.1 ≤ 8) (hc8 : hz.2.1 ≤ 8) (hn60 : i_n iv ≤ 60) (hcm : i_cm iv < 9) (hfn : i_n (fnF 60 0 iv).2 ≤ 60) (hfc : i_cm (fnF 60 0 iv).2 < 9) : MX D ct g l yX10_read wsX10_read rmX10_read (YW ct a y (KR a b rs (BW ct a d bz (IW ct i (xE g) iv (LW ct lb lz (YW ct sa sy (XO x a sa h b d i lb xv (HW ct h ha hz R)))))))) [.ref (x 0)] (QI D ct (fun r0 (_ : Unit) => r0 = (F_rdC y rs iv hz xv.2).1) (fun _ : Unit => YW ct a ((F_rdC y rs iv hz xv.2).2.1) (KR a b ((F_rdC y rs iv hz xv.2).2.2.1) (BW ct a d bz (IW ct i (xE g) ((F_rdC y rs iv hz xv.2).2.2.2.1) (LW ct lb lz (YW ct sa sy (XO x a sa h b d i lb (xv.1, ((F_rdC y rs iv hz xv.2).2.2.2.2.2)) (HW ct h ha ((F_rdC y rs iv hz xv.2).2.2.2.2.1) R))))))))) := by
  refine MXof (cc := cX10_read) (maxL := 3) (ret := (some .int)) (by decide) rfl (Nat.le_of_ble_eq_true rfl) ?_
  intro p e s m args below meth c A H locs F hP hK hD hS hA hX ls hl
  obtain ⟨hx, hb, hr, hlocks, hml, hown, hts, hin⟩ := F
  have hl : lv_has ls 3 [(0, .ref (x 0))] := hl
  have h_X10 := in_X10_read_X10
  have f74 := hts (.fieldLink RX10 74 "CartArguments" "input" "LCartArguments$Input;") (by decide +kernel)
  have f78 := hts (.fieldLink RX10 78 "CartArguments" "latestFault" "I") (by decide +kernel)
  refine lv_aload_n hx hb dX10_read_0 rfl (lv_at hl 0 rfl) ?_
  refine va_get (ci := 9) (v := .ref (i 0)) hx hb hts h_X10 hown hK hP 38 rfl rfl 9 (by decide) f74 (fun _ h9 => h9) rfl dX10_read_1 ?_
  have hP : va_P D vwCl (IW ct i (xE g) iv (YW ct a y (KR a b rs (BW ct a d bz (LW ct lb lz (YW ct sa sy (XO x a sa h b d i lb xv (HW ct h ha hz R)))))))) H := zPp (zF3 (YW ct a y []) (KR a b rs []) (BW ct a d bz []) (IW ct i (xE g) iv []) (LW ct lb lz (YW ct sa sy (XO x a sa h b d i lb xv (HW ct h ha hz R))))) hP
  have hD : va_D A (IW ct i (xE g) iv (YW ct a y (KR a b rs (BW ct a d bz (LW ct lb lz (YW ct sa sy (XO x a sa h b d i lb xv (HW ct h ha hz R)))))))) := zDp (zF3 (YW ct a y []) (KR a b rs []) (BW ct a d bz []) (IW ct i (xE g) iv []) (LW ct lb lz (YW ct sa sy (XO x a sa h b d i lb xv (HW ct h ha hz R))))) hD
  refine zVIX [] [] (kX4_findFault (i) (iv) (YW ct a y (KR a b rs (BW ct a d bz (LW ct lb lz (YW ct sa sy (XO x a sa h b d i lb xv (HW ct h ha hz R))))))) (show i_n iv ≤ 60 from hn60)) hx hb hml hown hts (cwV 0 hts gX10_read_X4_findFault rfl rfl rfl (by decide +kernel) ⟨(Nat.le_of_ble_eq_true rfl), (Nat.le_of_ble_eq_true rfl)⟩) hK hP hD hS hA hX (va_recv hK hP (ci := 3) (q0 := 0) rfl rfl) rfl hl.1 rfl (Nat.le_of_ble_eq_true rfl) dX10_read_4 ⟨(Nat.le_of_ble_eq_true rfl), (Nat.le_of_ble_eq_true rfl)⟩ (fun r_4 _ H locs hr_4 hP hD hS => ?_)
  subst hr_4
  have hP : va_P D vwCl (IW ct i (xE g) ((fnF 60 0 iv).2) (YW ct a y (KR a b rs (BW ct a d bz (LW ct lb lz (YW ct sa sy (XO x a sa h b d i lb xv (HW ct h ha hz R)))))))) H := hP
  have hD : va_D A (IW ct i (xE g) ((fnF 60 0 iv).2) (YW ct a y (KR a b rs (BW ct a d bz (LW ct lb lz (YW ct sa sy (XO x a sa h b d i lb xv (HW ct h ha hz R)))))))) := hD
  have hP : va_P D vwCl (YW ct a y (KR a b rs (BW ct a d bz (IW ct i (xE g) ((fnF 60 0 iv).2) (LW ct lb lz (YW ct sa sy (XO x a sa h b d i lb xv (HW ct h ha hz R)))))))) H := zPp (zF3 (YW ct a y []) (KR a b rs []) (BW ct a d bz []) (IW ct i (xE g) ((fnF 60 0 iv).2) []) (LW ct lb lz (YW ct sa sy (XO x a sa h b d i lb xv (HW ct h ha hz R))))).symm hP
  have hD : va_D A (YW ct a y (KR a b rs (BW ct a d bz (IW ct i (xE g) ((fnF 60 0 iv).2) (LW ct lb lz (YW ct sa sy (XO x a sa h b d i lb xv (HW ct h ha hz R)))))))) := zDp (zF3 (YW ct a y []) (KR a b rs []) (BW ct a d bz []) (IW ct i (xE g) ((fnF 60 0 iv).2) []) (LW ct lb lz (YW ct sa sy (XO x a sa h b d i lb xv (HW ct h ha hz R))))).symm hD
  refine lv_istore_n (lv' := [(1, .int (((fnF 60 0 iv).1))), (0, .ref (x 0))]) hx hb dX10_read_7 rfl hl (by decide) rfl (fun ls hl => ?_)
  refine lv_bipush (v := (-2)) hx hb dX10_read_8 (by decide) ?_
  refine lv_istore_n (lv' := [(2, .int ((-2))), (1, .int (((fnF 60 0 iv).1))), (0, .ref (x 0))]) hx hb dX10_read_10 rfl hl (by decide) rfl (fun ls hl => ?_)
  refine lv_iload_n hx hb dX10_read_11 rfl (lv_at hl 1 rfl) ?_
  refine lv_iconst (v := (-1)) hx hb dX10_read_12 (by decide) ?_
  refine lv_icmp_ne (tgt := 24) hx hb dX10_read_13 (by decide) (fun c13_1 => ?_) (fun c13_1 => ?_)
  · skip
    refine lv_aload_n hx hb dX10_read_24 rfl (lv_at hl 2 rfl) ?_
    refine lv_iload_n hx hb dX10_read_25 rfl (lv_at hl 1 rfl) ?_
    refine va_put (ci := 9) (v := .int (((fnF 60 0 iv).1))) (ty := .int) hx hb hts h_X10 tyX10 tyX10_ok nmX10 hown hK hP hD hS 38 rfl rfl 10 (by decide) f78 (fun _ h9 => h9) rfl (by decide +kernel) rfl rfl (Nat.le_of_ble_eq_true rfl) dX10_read_26 (fun H locs hP hD hS => ?_)
    have hP : va_P D vwCl (YW ct a y (KR a b rs (BW ct a d bz (IW ct i (xE g) ((fnF 60 0 iv).2) (LW ct lb lz (YW ct sa sy (XO x a sa h b d i lb (xv.1, ((fnF 60 0 iv).1)) (HW ct h ha hz R)))))))) H := hP
    have hD : va_D A (YW ct a y (KR a b rs (BW ct a d bz (IW ct i (xE g) ((fnF 60 0 iv).2) (LW ct lb lz (YW ct sa sy (XO x a sa h b d i lb (xv.1, ((fnF 60 0 iv).1)) (HW ct h ha hz R)))))))) := hD
    refine lv_aload_n hx hb dX10_read_29 rfl (lv_at hl 2 rfl) ?_
    refine va_get (ci := 9) (v := .ref (i 0)) hx hb hts h_X10 hown hK hP 38 rfl rfl 9 (by decide) f74 (fun _ h9 => h9) rfl dX10_read_30 ?_
    have hP : va_P D vwCl (IW ct i (xE g) ((fnF 60 0 iv).2) (YW ct a y (KR a b rs (BW ct a d bz (LW ct lb lz (YW ct sa sy (XO x a sa h b d i lb (xv.1, ((fnF 60 0 iv).1)) (HW ct h ha hz R)))))))) H := zPp (zF3 (YW ct a y []) (KR a b rs []) (BW ct a d bz []) (IW ct i (xE g) ((fnF 60 0 iv).2) []) (LW ct lb lz (YW ct sa sy (XO x a sa h b d i lb (xv.1, ((fnF 60 0 iv).1)) (HW ct h ha hz R))))) hP
    have hD : va_D A (IW ct i (xE g) ((fnF 60 0 iv).2) (YW ct a y (KR a b rs (BW ct a d bz (LW ct lb lz (YW ct sa sy (XO x a sa h b d i lb (xv.1, ((fnF 60 0 iv).1)) (HW ct h ha hz R)))))))) := zDp (zF3 (YW ct a y []) (KR a b rs []) (BW ct a d bz []) (IW ct i (xE g) ((fnF 60 0 iv).2) []) (LW ct lb lz (YW ct sa sy (XO x a sa h b d i lb (xv.1, ((fnF 60 0 iv).1)) (HW ct h ha hz R))))) hD
    refine zVV [] [] (kX4_makeEmpty (i) ((xE g)) (((fnF 60 0 iv).2)) (YW ct a y (KR a b rs (BW ct a d bz (LW ct lb lz (YW ct sa sy (XO x a sa h b d i lb (xv.1, ((fnF 60 0 iv).1)) (HW ct h ha hz R)))))))) hx hb hml hown hts (cwV 0 hts gX10_read_X4_makeEmpty rfl rfl rfl (by decide +kernel) ⟨(Nat.le_of_ble_eq_true rfl), (Nat.le_of_ble_eq_true rfl)⟩) hK hP hD hS hA (va_recv hK hP (ci := 3) (q0 := 0) rfl rfl) rfl hl.1 rfl (Nat.le_of_ble_eq_true rfl) dX10_read_33 ⟨(Nat.le_of_ble_eq_true rfl), (Nat.le_of_ble_eq_true rfl)⟩ (fun _ H locs hr_33 hP hD hS => ?_)
    have hP : va_P D vwCl (IW ct i (xE g) ((i_sg ((fnF 60 0 iv).2)), 0, (i_cm ((fnF 60 0 iv).2)), (i_nu ((fnF 60 0 iv).2)), (i_st ((fnF 60 0 iv).2))) (YW ct a y (KR a b rs (BW ct a d bz (LW ct lb lz (YW ct sa sy (XO x a sa h b d i lb (xv.1, ((fnF 60 0 iv).1)) (HW ct h ha hz R)))))))) H := hP
    have hD : va_D A (IW ct i (xE g) ((i_sg ((fnF 60 0 iv).2)), 0, (i_cm ((fnF 60 0 iv).2)), (i_nu ((fnF 60 0 iv).2)), (i_st ((fnF 60 0 iv).2))) (YW ct a y (KR a b rs (BW ct a d bz (LW ct lb lz (YW ct sa sy (XO x a sa h b d i lb (xv.1, ((fnF 60 0 iv).1)) (HW ct h ha hz R)))))))) := hD
    have hP : va_P D vwCl (YW ct a y (KR a b rs (BW ct a d bz (IW ct i (xE g) ((i_sg ((fnF 60 0 iv).2)), 0, (i_cm ((fnF 60 0 iv).2)), (i_nu ((fnF 60 0 iv).2)), (i_st ((fnF 60 0 iv).2))) (LW ct lb lz (YW ct sa sy (XO x a sa h b d i lb (xv.1, ((fnF 60 0 iv).1)) (HW ct h ha hz R)))))))) H := zPp (zF3 (YW ct a y []) (KR a b rs []) (BW ct a d bz []) (IW ct i (xE g) ((i_sg ((fnF 60 0 iv).2)), 0, (i_cm ((fnF 60 0 iv).2)), (i_nu ((fnF 60 0 iv).2)), (i_st ((fnF 60 0 iv).2))) []) (LW ct lb lz (YW ct sa sy (XO x a sa h b d i lb (xv.1, ((fnF 60 0 iv).1)) (HW ct h ha hz R))))).symm hP
    have hD : va_D A (YW ct a y (KR a b rs (BW ct a d bz (IW ct i (xE g) ((i_sg ((fnF 60 0 iv).2)), 0, (i_cm ((fnF 60 0 iv).2)), (i_nu ((fnF 60 0 iv).2)), (i_st ((fnF 60 0 iv).2))) (LW ct lb lz (YW ct sa sy (XO x a sa h b d i lb (xv.1, ((fnF 60 0 iv).1)) (HW ct h ha hz R)))))))) := zDp (zF3 (YW ct a y []) (KR a b rs []) (BW ct a d bz []) (IW ct i (xE g) ((i_sg ((fnF 60 0 iv).2)), 0, (i_cm ((fnF 60 0 iv).2)), (i_nu ((fnF 60 0 iv).2)), (i_st ((fnF 60 0 iv).2))) []) (LW ct lb lz (YW ct sa sy (XO x a sa h b d i lb (xv.1, ((fnF 60 0 iv).1)) (HW ct h ha hz R))))).symm hD
    refine lv_iload_n hx hb dX10_read_36 rfl (lv_at hl 0 rfl) ?_
    have e8 : F_rdC y rs iv hz xv.2 = ((-2), y, rs, ((i_sg ((fnF 60 0 iv).2)), 0, (i_cm ((fnF 60 0 iv).2)), (i_nu ((fnF 60 0 iv).2)), (i_st ((fnF 60 0 iv).2))), hz, ((fnF 60 0 iv).1)) := by rw [F_rdC]; exact (if_neg c13_1).trans rfl
    have hP : va_P D vwCl (YW ct a ((F_rdC y rs iv hz xv.2).2.1) (KR a b ((F_rdC y rs iv hz xv.2).2.2.1) (BW ct a d bz (IW ct i (xE g) ((F_rdC y rs iv hz xv.2).2.2.2.1) (LW ct lb lz (YW ct sa sy (XO x a sa h b d i lb (xv.1, ((F_rdC y rs iv hz xv.2).2.2.2.2.2)) (HW ct h ha ((F_rdC y rs iv hz xv.2).2.2.2.2.1) R)))))))) H := by rw [e8]; exact hP
    have hD : va_D A (YW ct a ((F_rdC y rs iv hz xv.2).2.1) (KR a b ((F_rdC y rs iv hz xv.2).2.2.1) (BW ct a d bz (IW ct i (xE g) ((F_rdC y rs iv hz xv.2).2.2.2.1) (LW ct lb lz (YW ct sa sy (XO x a sa h b d i lb (xv.1, ((F_rdC y rs iv hz xv.2).2.2.2.2.2)) (HW ct h ha ((F_rdC y rs iv hz xv.2).2.2.2.2.1) R)))))))) := by rw [e8]; exact hD
    exact zIret () hx hb hr hlocks hK hP hD hS dX10_read_37 (show (-2) = (F_rdC y rs iv hz xv.2).1 from (by rw [e8]))
  · skip
    refine lv_aload_n hx hb dX10_read_16 rfl (lv_at hl 2 rfl) ?_
    refine zVIX [] [] (kX10_carryOutAll (a) (y) (b) (rs) (d) (bz) (i) (((fnF 60 0 iv).2)) (lb) (lz) (sa) (sy) (x) (xv) (h) (ha) (hz) (R) (J) (show (J) y from hJ) (show ∀ y, (J) y → yI y ∧ yF y from hJi) (show ∀ y rs c x1 x2 x3, (J) y → (J) (f_cmd c y rs x1 x2 x3).2.1 from hJc) (show hz.1 ≤ 8 from hn8) (show hz.2.1 ≤ 8 from hc8) (show (i_n ((fnF 60 0 iv).2)) ≤ 60 from hfn) (show (i_cm ((fnF 60 0 iv).2)) < 9 from hfc)) hx hb hml hown hts (cwV 0 hts gX10_read_X10_carryOutAll rfl rfl rfl (by decide +kernel) ⟨(Nat.le_of_ble_eq_true rfl), (Nat.le_of_ble_eq_true rfl)⟩) hK hP hD hS hA hX (va_recv hK hP (ci := 9) (q0 := 38) rfl rfl) rfl hl.1 rfl (Nat.le_of_ble_eq_true rfl) dX10_read_17 ⟨(Nat.le_of_ble_eq_true rfl), (Nat.le_of_ble_eq_true rfl)⟩ (fun r_17 _ H locs hr_17 hP hD hS => ?_)
    subst hr_17
    have hP : va_P D vwCl (YW ct a ((runA (hz.1, hz.2.1, (upS hz.2.2 hz.1 y)) 60 0 0 y rs ((fnF 60 0 iv).2)).2.1) (KR a b ((runA (hz.1, hz.2.1, (upS hz.2.2 hz.1 y)) 60 0 0 y rs ((fnF 60 0 iv).2)).2.2.1) (BW ct a d bz (IW ct i (xE g) ((runA (hz.1, hz.2.1, (upS hz.2.2 hz.1 y)) 60 0 0 y rs ((fnF 60 0 iv).2)).2.2.2.1) (LW ct lb lz (YW ct sa sy (XO x a sa h b d i lb xv (HW ct h ha ((runA (hz.1, hz.2.1, (upS hz.2.2 hz.1 y)) 60 0 0 y rs ((fnF 60 0 iv).2)).2.2.2.2) R)))))))) H := hP
    have hD : va_D A (YW ct a ((runA (hz.1, hz.2.1, (upS hz.2.2 hz.1 y)) 60 0 0 y rs ((fnF 60 0 iv).2)).2.1) (KR a b ((runA (hz.1, hz.2.1, (upS hz.2.2 hz.1 y)) 60 0 0 y rs ((fnF 60 0 iv).2)).2.2.1) (BW ct a d bz (IW ct i (xE g) ((runA (hz.1, hz.2.1, (upS hz.2.2 hz.1 y)) 60 0 0 y rs ((fnF 60 0 iv).2)).2.2.2.1) (LW ct lb lz (YW ct sa sy (XO x a sa h b d i lb xv (HW ct h ha ((runA (hz.1, hz.2.1, (upS hz.2.2 hz.1 y)) 60 0 0 y rs ((fnF 60 0 iv).2)).2.2.2.2) R)))))))) := hD
    refine lv_istore_n (lv' := [(2, .int (((runA (hz.1, hz.2.1, (upS hz.2.2 hz.1 y)) 60 0 0 y rs ((fnF 60 0 iv).2)).1))), (1, .int (((fnF 60 0 iv).1))), (0, .ref (x 0))]) hx hb dX10_read_20 rfl hl (by decide) rfl (fun ls hl => ?_)
    refine lv_goto (tgt := 29) hx hb dX10_read_21 (by decide) ?_
    refine lv_aload_n hx hb dX10_read_29 rfl (lv_at hl 2 rfl) ?_
    refine va_get (ci := 9) (v := .ref (i 0)) hx hb hts h_X10 hown hK hP 38 rfl rfl 9 (by decide) f74 (fun _ h9 => h9) rfl dX10_read_30 ?_
    have hP : va_P D vwCl (IW ct i (xE g) ((runA (hz.1, hz.2.1, (upS hz.2.2 hz.1 y)) 60 0 0 y rs ((fnF 60 0 iv).2)).2.2.2.1) (YW ct a ((runA (hz.1, hz.2.1, (upS hz.2.2 hz.1 y)) 60 0 0 y rs ((fnF 60 0 iv).2)).2.1) (KR a b ((runA (hz.1, hz.2.1, (upS hz.2.2 hz.1 y)) 60 0 0 y rs ((fnF 60 0 iv).2)).2.2.1) (BW ct a d bz (LW ct lb lz (YW ct sa sy (XO x a sa h b d i lb xv (HW ct h ha ((runA (hz.1, hz.2.1, (upS hz.2.2 hz.1 y)) 60 0 0 y rs ((fnF 60 0 iv).2)).2.2.2.2) R)))))))) H := zPp (zF3 (YW ct a ((runA (hz.1, hz.2.1, (upS hz.2.2 hz.1 y)) 60 0 0 y rs ((fnF 60 0 iv).2)).2.1) []) (KR a b ((runA (hz.1, hz.2.1, (upS hz.2.2 hz.1 y)) 60 0 0 y rs ((fnF 60 0 iv).2)).2.2.1) []) (BW ct a d bz []) (IW ct i (xE g) ((runA (hz.1, hz.2.1, (upS hz.2.2 hz.1 y)) 60 0 0 y rs ((fnF 60 0 iv).2)).2.2.2.1) []) (LW ct lb lz (YW ct sa sy (XO x a sa h b d i lb xv (HW ct h ha ((runA (hz.1, hz.2.1, (upS hz.2.2 hz.1 y)) 60 0 0 y rs ((fnF 60 0 iv).2)).2.2.2.2) R))))) hP
    have hD : va_D A (IW ct i (xE g) ((runA (hz.1, hz.2.1, (upS hz.2.2 hz.1 y)) 60 0 0 y rs ((fnF 60 0 iv).2)).2.2.2.1) (YW ct a ((runA (hz.1, hz.2.1, (upS hz.2.2 hz.1 y)) 60 0 0 y rs ((fnF 60 0 iv).2)).2.1) (KR a b ((runA (hz.1, hz.2.1, (upS hz.2.2 hz.1 y)) 60 0 0 y rs ((fnF 60 0 iv).2)).2.2.1) (BW ct a d bz (LW ct lb lz (YW ct sa sy (XO x a sa h b d i lb xv (HW ct h ha ((runA (hz.1, hz.2.1, (upS hz.2.2 hz.1 y)) 60 0 0 y rs ((fnF 60 0 iv).2)).2.2.2.2) R)))))))) := zDp (zF3 (YW ct a ((runA (hz.1, hz.2.1, (upS hz.2.2 hz.1 y)) 60 0 0 y rs ((fnF 60 0 iv).2)).2.1) []) (KR a b ((runA (hz.1, hz.2.1, (upS hz.2.2 hz.1 y)) 60 0 0 y rs ((fnF 60 0 iv).2)).2.2.1) []) (BW ct a d bz []) (IW ct i (xE g) ((runA (hz.1, hz.2.1, (upS hz.2.2 hz.1 y)) 60 0 0 y rs ((fnF 60 0 iv).2)).2.2.2.1) []) (LW ct lb lz (YW ct sa sy (XO x a sa h b d i lb xv (HW ct h ha ((runA (hz.1, hz.2.1, (upS hz.2.2 hz.1 y)) 60 0 0 y rs ((fnF 60 0 iv).2)).2.2.2.2) R))))) hD
    refine zVV [] [] (kX4_makeEmpty (i) ((xE g)) (((runA (hz.1, hz.2.1, (upS hz.2.2 hz.1 y)) 60 0 0 y rs ((fnF 60 0 iv).2)).2.2.2.1)) (YW ct a ((runA (hz.1, hz.2.1, (upS hz.2.2 hz.1 y)) 60 0 0 y rs ((fnF 60 0 iv).2)).2.1) (KR a b ((runA (hz.1, hz.2.1, (upS hz.2.2 hz.1 y)) 60 0 0 y rs ((fnF 60 0 iv).2)).2.2.1) (BW ct a d bz (LW ct lb lz (YW ct sa sy (XO x a sa h b d i lb xv (HW ct h ha ((runA (hz.1, hz.2.1, (upS hz.2.2 hz.1 y)) 60 0 0 y rs ((fnF 60 0 iv).2)).2.2.2.2) R)))))))) hx hb hml hown hts (cwV 0 hts gX10_read_X4_makeEmpty rfl rfl rfl (by decide +kernel) ⟨(Nat.le_of_ble_eq_true rfl), (Nat.le_of_ble_eq_true rfl)⟩) hK hP hD hS hA (va_recv hK hP (ci := 3) (q0 := 0) rfl rfl) rfl hl.1 rfl (Nat.le_of_ble_eq_true rfl) dX10_read_33 ⟨(Nat.le_of_ble_eq_true rfl), (Nat.le_of_ble_eq_true rfl)⟩ (fun _ H locs hr_33 hP hD hS => ?_)
    have hP : va_P D vwCl (IW ct i (xE g) ((i_sg ((runA (hz.1, hz.2.1, (upS hz.2.2 hz.1 y)) 60 0 0 y rs ((fnF 60 0 iv).2)).2.2.2.1)), 0, (i_cm ((runA (hz.1, hz.2.1, (upS hz.2.2 hz.1 y)) 60 0 0 y rs ((fnF 60 0 iv).2)).2.2.2.1)), (i_nu ((runA (hz.1, hz.2.1, (upS hz.2.2 hz.1 y)) 60 0 0 y rs ((fnF 60 0 iv).2)).2.2.2.1)), (i_st ((runA (hz.1, hz.2.1, (upS hz.2.2 hz.1 y)) 60 0 0 y rs ((fnF 60 0 iv).2)).2.2.2.1))) (YW ct a ((runA (hz.1, hz.2.1, (upS hz.2.2 hz.1 y)) 60 0 0 y rs ((fnF 60 0 iv).2)).2.1) (KR a b ((runA (hz.1, hz.2.1, (upS hz.2.2 hz.1 y)) 60 0 0 y rs ((fnF 60 0 iv).2)).2.2.1) (BW ct a d bz (LW ct lb lz (YW ct sa sy (XO x a sa h b d i lb xv (HW ct h ha ((runA (hz.1, hz.2.1, (upS hz.2.2 hz.1 y)) 60 0 0 y rs ((fnF 60 0 iv).2)).2.2.2.2) R)))))))) H := hP
    have hD : va_D A (IW ct i (xE g) ((i_sg ((runA (hz.1, hz.2.1, (upS hz.2.2 hz.1 y)) 60 0 0 y rs ((fnF 60 0 iv).2)).2.2.2.1)), 0, (i_cm ((runA (hz.1, hz.2.1, (upS hz.2.2 hz.1 y)) 60 0 0 y rs ((fnF 60 0 iv).2)).2.2.2.1)), (i_nu ((runA (hz.1, hz.2.1, (upS hz.2.2 hz.1 y)) 60 0 0 y rs ((fnF 60 0 iv).2)).2.2.2.1)), (i_st ((runA (hz.1, hz.2.1, (upS hz.2.2 hz.1 y)) 60 0 0 y rs ((fnF 60 0 iv).2)).2.2.2.1))) (YW ct a ((runA (hz.1, hz.2.1, (upS hz.2.2 hz.1 y)) 60 0 0 y rs ((fnF 60 0 iv).2)).2.1) (KR a b ((runA (hz.1, hz.2.1, (upS hz.2.2 hz.1 y)) 60 0 0 y rs ((fnF 60 0 iv).2)).2.2.1) (BW ct a d bz (LW ct lb lz (YW ct sa sy (XO x a sa h b d i lb xv (HW ct h ha ((runA (hz.1, hz.2.1, (upS hz.2.2 hz.1 y)) 60 0 0 y rs ((fnF 60 0 iv).2)).2.2.2.2) R)))))))) := hD
    have hP : va_P D vwCl (YW ct a ((runA (hz.1, hz.2.1, (upS hz.2.2 hz.1 y)) 60 0 0 y rs ((fnF 60 0 iv).2)).2.1) (KR a b ((runA (hz.1, hz.2.1, (upS hz.2.2 hz.1 y)) 60 0 0 y rs ((fnF 60 0 iv).2)).2.2.1) (BW ct a d bz (IW ct i (xE g) ((i_sg ((runA (hz.1, hz.2.1, (upS hz.2.2 hz.1 y)) 60 0 0 y rs ((fnF 60 0 iv).2)).2.2.2.1)), 0, (i_cm ((runA (hz.1, hz.2.1, (upS hz.2.2 hz.1 y)) 60 0 0 y rs ((fnF 60 0 iv).2)).2.2.2.1)), (i_nu ((runA (hz.1, hz.2.1, (upS hz.2.2 hz.1 y)) 60 0 0 y rs ((fnF 60 0 iv).2)).2.2.2.1)), (i_st ((runA (hz.1, hz.2.1, (upS hz.2.2 hz.1 y)) 60 0 0 y rs ((fnF 60 0 iv).2)).2.2.2.1))) (LW ct lb lz (YW ct sa sy (XO x a sa h b d i lb xv (HW ct h ha ((runA (hz.1, hz.2.1, (upS hz.2.2 hz.1 y)) 60 0 0 y rs ((fnF 60 0 iv).2)).2.2.2.2) R)))))))) H := zPp (zF3 (YW ct a ((runA (hz.1, hz.2.1, (upS hz.2.2 hz.1 y)) 60 0 0 y rs ((fnF 60 0 iv).2)).2.1) []) (KR a b ((runA (hz.1, hz.2.1, (upS hz.2.2 hz.1 y)) 60 0 0 y rs ((fnF 60 0 iv).2)).2.2.1) []) (BW ct a d bz []) (IW ct i (xE g) ((i_sg ((runA (hz.1, hz.2.1, (upS hz.2.2 hz.1 y)) 60 0 0 y rs ((fnF 60 0 iv).2)).2.2.2.1)), 0, (i_cm ((runA (hz.1, hz.2.1, (upS hz.2.2 hz.1 y)) 60 0 0 y rs ((fnF 60 0 iv).2)).2.2.2.1)), (i_nu ((runA (hz.1, hz.2.1, (upS hz.2.2 hz.1 y)) 60 0 0 y rs ((fnF 60 0 iv).2)).2.2.2.1)), (i_st ((runA (hz.1, hz.2.1, (upS hz.2.2 hz.1 y)) 60 0 0 y rs ((fnF 60 0 iv).2)).2.2.2.1))) []) (LW ct lb lz (YW ct sa sy (XO x a sa h b d i lb xv (HW ct h ha ((runA (hz.1, hz.2.1, (upS hz.2.2 hz.1 y)) 60 0 0 y rs ((fnF 60 0 iv).2)).2.2.2.2) R))))).symm hP
    have hD : va_D A (YW ct a ((runA (hz.1, hz.2.1, (upS hz.2.2 hz.1 y)) 60 0 0 y rs ((fnF 60 0 iv).2)).2.1) (KR a b ((runA (hz.1, hz.2.1, (upS hz.2.2 hz.1 y)) 60 0 0 y rs ((fnF 60 0 iv).2)).2.2.1) (BW ct a d bz (IW ct i (xE g) ((i_sg ((runA (hz.1, hz.2.1, (upS hz.2.2 hz.1 y)) 60 0 0 y rs ((fnF 60 0 iv).2)).2.2.2.1)), 0, (i_cm ((runA (hz.1, hz.2.1, (upS hz.2.2 hz.1 y)) 60 0 0 y rs ((fnF 60 0 iv).2)).2.2.2.1)), (i_nu ((runA (hz.1, hz.2.1, (upS hz.2.2 hz.1 y)) 60 0 0 y rs ((fnF 60 0 iv).2)).2.2.2.1)), (i_st ((runA (hz.1, hz.2.1, (upS hz.2.2 hz.1 y)) 60 0 0 y rs ((fnF 60 0 iv).2)).2.2.2.1))) (LW ct lb lz (YW ct sa sy (XO x a sa h b d i lb xv (HW ct h ha ((runA (hz.1, hz.2.1, (upS hz.2.2 hz.1 y)) 60 0 0 y rs ((fnF 60 0 iv).2)).2.2.2.2) R)))))))) := zDp (zF3 (YW ct a ((runA (hz.1, hz.2.1, (upS hz.2.2 hz.1 y)) 60 0 0 y rs ((fnF 60 0 iv).2)).2.1) []) (KR a b ((runA (hz.1, hz.2.1, (upS hz.2.2 hz.1 y)) 60 0 0 y rs ((fnF 60 0 iv).2)).2.2.1) []) (BW ct a d bz []) (IW ct i (xE g) ((i_sg ((runA (hz.1, hz.2.1, (upS hz.2.2 hz.1 y)) 60 0 0 y rs ((fnF 60 0 iv).2)).2.2.2.1)), 0, (i_cm ((runA (hz.1, hz.2.1, (upS hz.2.2 hz.1 y)) 60 0 0 y rs ((fnF 60 0 iv).2)).2.2.2.1)), (i_nu ((runA (hz.1, hz.2.1, (upS hz.2.2 hz.1 y)) 60 0 0 y rs ((fnF 60 0 iv).2)).2.2.2.1)), (i_st ((runA (hz.1, hz.2.1, (upS hz.2.2 hz.1 y)) 60 0 0 y rs ((fnF 60 0 iv).2)).2.2.2.1))) []) (LW ct lb lz (YW ct sa sy (XO x a sa h b d i lb xv (HW ct h ha ((runA (hz.1, hz.2.1, (upS hz.2.2 hz.1 y)) 60 0 0 y rs ((fnF 60 0 iv).2)).2.2.2.2) R))))).symm hD
    refine lv_iload_n hx hb dX10_read_36 rfl (lv_at hl 0 rfl) ?_
    have e8 : F_rdC y rs iv hz xv.2 = (((runA (hz.1, hz.2.1, (upS hz.2.2 hz.1 y)) 60 0 0 y rs ((fnF 60 0 iv).2)).1), ((runA (hz.1, hz.2.1, (upS hz.2.2 hz.1 y)) 60 0 0 y rs ((fnF 60 0 iv).2)).2.1), ((runA (hz.1, hz.2.1, (upS hz.2.2 hz.1 y)) 60 0 0 y rs ((fnF 60 0 iv).2)).2.2.1), ((i_sg ((runA (hz.1, hz.2.1, (upS hz.2.2 hz.1 y)) 60 0 0 y rs ((fnF 60 0 iv).2)).2.2.2.1)), 0, (i_cm ((runA (hz.1, hz.2.1, (upS hz.2.2 hz.1 y)) 60 0 0 y rs ((fnF 60 0 iv).2)).2.2.2.1)), (i_nu ((runA (hz.1, hz.2.1, (upS hz.2.2 hz.1 y)) 60 0 0 y rs ((fnF 60 0 iv).2)).2.2.2.1)), (i_st ((runA (hz.1, hz.2.1, (upS hz.2.2 hz.1 y)) 60 0 0 y rs ((fnF 60 0 iv).2)).2.2.2.1))), ((runA (hz.1, hz.2.1, (upS hz.2.2 hz.1 y)) 60 0 0 y rs ((fnF 60 0 iv).2)).2.2.2.2), xv.2) := by rw [F_rdC]; exact (if_pos c13_1).trans rfl
    have hP : va_P D vwCl (YW ct a ((F_rdC y rs iv hz xv.2).2.1) (KR a b ((F_rdC y rs iv hz xv.2).2.2.1) (BW ct a d bz (IW ct i (xE g) ((F_rdC y rs iv hz xv.2).2.2.2.1) (LW ct lb lz (YW ct sa sy (XO x a sa h b d i lb (xv.1, ((F_rdC y rs iv hz xv.2).2.2.2.2.2)) (HW ct h ha ((F_rdC y rs iv hz xv.2).2.2.2.2.1) R)))))))) H := by rw [e8]; exact hP
    have hD : va_D A (YW ct a ((F_rdC y rs iv hz xv.2).2.1) (KR a b ((F_rdC y rs iv hz xv.2).2.2.1) (BW ct a d bz (IW ct i (xE g) ((F_rdC y rs iv hz xv.2).2.2.2.1) (LW ct lb lz (YW ct sa sy (XO x a sa h b d i lb (xv.1, ((F_rdC y rs iv hz xv.2).2.2.2.2.2)) (HW ct h ha ((F_rdC y rs iv hz xv.2).2.2.2.2.1) R)))))))) := by rw [e8]; exact hD
    exact zIret () hx hb hr hlocks hK hP hD hS dX10_read_37 (show ((runA (hz.1, hz.2.1, (upS hz.2.2 hz.1 y)) 60 0 0 y rs ((fnF 60 0 iv).2)).1) = (F_rdC y rs iv hz xv.2).1 from (by rw [e8]))
abbrev rmX10_isCartWell : Room := { frames := 9, cells := 0, slots := 0, locals := 240 }
theorem in_X10_isCartWell_X10 : ∀ w ∈ u_ws RX10 TX10 12, w ∈ wsX10_isCartWell := by decide +kernel
set_option maxHeartbeats 4000000 in
set_option maxRecDepth 100000 in
theorem kX10_isCartWell {D : va_G} {g : XG} {ct : Nat → ClassId} {l : Launch} (a : Nat → Nat) (y : YS) (b : Nat → Nat) (rs : RS) (d : Nat → Nat) (bz : BS) (i : Nat → Nat) (iv : IS) (lb : Nat → Nat) (lz : LST) (sa : Nat → Nat) (sy : YS) (x : Nat → Nat) (xv : Int32 × Int32) (h : Nat → Nat) (ha : Nat → Nat → Nat) (hz : HS) (R : va_W) (k : Nat) (hy : yI y) (hf : yF y) (hcw : cwP y) (hc : k < y_cn y) : MX D ct g l yX10_isCartWell wsX10_isCartWell rmX10_isCartWell (YW ct a y (KR a b rs (BW ct a d bz (IW ct i (xE g) iv (LW ct lb lz (YW ct sa sy (XO x a sa h b d i lb xv (HW ct h ha hz R)))))))) [.ref (x 0), .int (nI (k))] (QI D ct (fun r0 (_ : Unit) => r0 = nI (1)) (fun _ : Unit => YW ct a y (KR a b rs (BW ct a d (bWell y bz k) (IW ct i (xE g) iv (LW ct lb lz (YW ct sa sy (XO x a sa h b d i lb xv (HW ct h ha hz R))))))))) := by
  refine MXof (cc := cX10_isCartWell) (maxL := 2) (ret := (some .boolean)) (by decide) rfl (Nat.le_of_ble_eq_true rfl) ?_
  intro p e s m args below meth c A H locs F hP hK hD hS hA hX ls hl
  obtain ⟨hx, hb, hr, hlocks, hml, hown, hts, hin⟩ := F
  have hl : lv_has ls 2 [(0, .ref (x 0)), (1, .int (nI (k)))] := hl
  have hkd : ∀ j9, j9 < y_n y → y_kd y j9 = nI 0 ∨ y_kd y j9 = nI 1 := fun j9 hj9 => (hy.2.2.2.1 j9 hj9).1
  have hn : y_n y ≤ 12 := hy.1
  have hcn : y_cn y ≤ 4 := hy.2.1
  have hrn : y_rn y ≤ 5 := hy.2.2.1
  have h_X10 := in_X10_isCartWell_X10
  have f10 := hts (.fieldLink RX10 10 "CartArguments" "yard" "LCartArguments$Yard;") (by decide +kernel)
  have f42 := hts (.fieldLink RX10 42 "CartArguments" "scale" "LCartArguments$Scale;") (by decide +kernel)
  have f58 := hts (.fieldLink RX10 58 "CartArguments" "balance" "LCartArguments$Balance;") (by decide +kernel)
  refine lv_aload_n hx hb dX10_isCartWell_0 rfl (lv_at hl 0 rfl) ?_
  refine va_get (ci := 9) (v := .ref (b 0)) hx hb hts h_X10 hown hK hP 38 rfl rfl 5 (by decide) f42 (fun _ h9 => h9) rfl dX10_isCartWell_1 ?_
  refine lv_iload_n hx hb dX10_isCartWell_4 rfl (lv_at hl 1 rfl) ?_
  refine lv_iconst (v := nI (0)) hx hb dX10_isCartWell_5 (by decide) ?_
  refine zVI [.int (nI (k)), .int (nI (0))] [] (kX7_tenthsByThings (a) (y) (b) (rs) (BW ct a d bz (IW ct i (xE g) iv (LW ct lb lz (YW ct sa sy (XO x a sa h b d i lb xv (HW ct h ha hz R)))))) (nI (k)) (nI (0)) (show y_n y ≤ 12 from by omega) (show ∀ j9, j9 < y_n y → y_kd y j9 = nI 0 ∨ y_kd y j9 = nI 1 from hkd)) hx hb hml hown hts (cwV 2 hts gX10_isCartWell_X7_tenthsByThings rfl rfl rfl (by decide +kernel) ⟨(Nat.le_of_ble_eq_true rfl), (Nat.le_of_ble_eq_true rfl)⟩) hK hP hD hS hA (va_recv hK hP (ci := 6) (q0 := 12) rfl rfl) rfl hl.1 rfl (Nat.le_of_ble_eq_true rfl) dX10_isCartWell_6 ⟨(Nat.le_of_ble_eq_true rfl), (Nat.le_of_ble_eq_true rfl)⟩ (fun r_6 _ H locs hr_6 hP hD hS => ?_)
  subst hr_6
  have hP : va_P D vwCl (YW ct a y (KR a b rs (BW ct a d bz (IW ct i (xE g) iv (LW ct lb lz (YW ct sa sy (XO x a sa h b d i lb xv (HW ct h ha hz R)))))))) H := hP
  have hD : va_D A (YW ct a y (KR a b rs (BW ct a d bz (IW ct i (xE g) iv (LW ct lb lz (YW ct sa sy (XO x a sa h b d i lb xv (HW ct h ha hz R)))))))) := hD
  refine lv_aload_n hx hb dX10_isCartWell_9 rfl (lv_at hl 0 rfl) ?_
  refine va_get (ci := 9) (v := .ref (b 0)) hx hb hts h_X10 hown hK hP 38 rfl rfl 5 (by decide) f42 (fun _ h9 => h9) rfl dX10_isCartWell_10 ?_
  refine lv_iload_n hx hb dX10_isCartWell_13 rfl (lv_at hl 1 rfl) ?_
  refine lv_iconst (v := nI (0)) hx hb dX10_isCartWell_14 (by decide) ?_
  refine zVI [.int (nI (k)), .int (nI (0))] [.int ((t_te y (nI (k)) (nI (0))))] (kX7_tenthsByOther (a) (y) (b) (rs) (BW ct a d bz (IW ct i (xE g) iv (LW ct lb lz (YW ct sa sy (XO x a sa h b d i lb xv (HW ct h ha hz R)))))) (nI (k)) (nI (0)) (show y_n y ≤ 12 from by omega) (show ∀ j9, j9 < y_n y → y_kd y j9 = nI 0 ∨ y_kd y j9 = nI 1 from hkd)) hx hb hml hown hts (cwV 2 hts gX10_isCartWell_X7_tenthsByOther rfl rfl rfl (by decide +kernel) ⟨(Nat.le_of_ble_eq_true rfl), (Nat.le_of_ble_eq_true rfl)⟩) hK hP hD hS hA (va_recv hK hP (ci := 6) (q0 := 12) rfl rfl) rfl hl.1 rfl (Nat.le_of_ble_eq_true rfl) dX10_isCartWell_15 ⟨(Nat.le_of_ble_eq_true rfl), (Nat.le_of_ble_eq_true rfl)⟩ (fun r_15 _ H locs hr_15 hP hD hS => ?_)
  subst hr_15
  have hP : va_P D vwCl (YW ct a y (KR a b rs (BW ct a d bz (IW ct i (xE g) iv (LW ct lb lz (YW ct sa sy (XO x a sa h b d i lb xv (HW ct h ha hz R)))))))) H := hP
  have hD : va_D A (YW ct a y (KR a b rs (BW ct a d bz (IW ct i (xE g) iv (LW ct lb lz (YW ct sa sy (XO x a sa h b d i lb xv (HW ct h ha hz R)))))))) := hD
  refine lv_icmp_ne (tgt := 86) hx hb dX10_isCartWell_18 (by decide) (fun c18_1 => ?_) (fun c18_1 => ?_)
  · skip
    exact absurd (hcw bz k hc).1 c18_1
  · skip
    refine lv_aload_n hx hb dX10_isCartWell_21 rfl (lv_at hl 0 rfl) ?_
    refine va_get (ci := 9) (v := .ref (b 0)) hx hb hts h_X10 hown hK hP 38 rfl rfl 5 (by decide) f42 (fun _ h9 => h9) rfl dX10_isCartWell_22 ?_
    refine lv_iload_n hx hb dX10_isCartWell_25 rfl (lv_at hl 1 rfl) ?_
    refine lv_iconst (v := nI (1)) hx hb dX10_isCartWell_26 (by decide) ?_
    refine zVI [.int (nI (k)), .int (nI (1))] [] (kX7_tenthsByThings (a) (y) (b) (rs) (BW ct a d bz (IW ct i (xE g) iv (LW ct lb lz (YW ct sa sy (XO x a sa h b d i lb xv (HW ct h ha hz R)))))) (nI (k)) (nI (1)) (show y_n y ≤ 12 from by omega) (show ∀ j9, j9 < y_n y → y_kd y j9 = nI 0 ∨ y_kd y j9 = nI 1 from hkd)) hx hb hml hown hts (cwV 2 hts gX10_isCartWell_X7_tenthsByThings rfl rfl rfl (by decide +kernel) ⟨(Nat.le_of_ble_eq_true rfl), (Nat.le_of_ble_eq_true rfl)⟩) hK hP hD hS hA (va_recv hK hP (ci := 6) (q0 := 12) rfl rfl) rfl hl.1 rfl (Nat.le_of_ble_eq_true rfl) dX10_isCartWell_27 ⟨(Nat.le_of_ble_eq_true rfl), (Nat.le_of_ble_eq_true rfl)⟩ (fun r_27 _ H locs hr_27 hP hD hS => ?_)
    subst hr_27
    have hP : va_P D vwCl (YW ct a y (KR a b rs (BW ct a d bz (IW ct i (xE g) iv (LW ct lb lz (YW ct sa sy (XO x a sa h b d i lb xv (HW ct h ha hz R)))))))) H := hP
    have hD : va_D A (YW ct a y (KR a b rs (BW ct a d bz (IW ct i (xE g) iv (LW ct lb lz (YW ct sa sy (XO x a sa h b d i lb xv (HW ct h ha hz R)))))))) := hD
    refine lv_aload_n hx hb dX10_isCartWell_30 rfl (lv_at hl 0 rfl) ?_
    refine va_get (ci := 9) (v := .ref (b 0)) hx hb hts h_X10 hown hK hP 38 rfl rfl 5 (by decide) f42 (fun _ h9 => h9) rfl dX10_isCartWell_31 ?_
    refine lv_iload_n hx hb dX10_isCartWell_34 rfl (lv_at hl 1 rfl) ?_
    refine lv_iconst (v := nI (1)) hx hb dX10_isCartWell_35 (by decide) ?_
    refine zVI [.int (nI (k)), .int (nI (1))] [.int ((t_te y (nI (k)) (nI (1))))] (kX7_tenthsByOther (a) (y) (b) (rs) (BW ct a d bz (IW ct i (xE g) iv (LW ct lb lz (YW ct sa sy (XO x a sa h b d i lb xv (HW ct h ha hz R)))))) (nI (k)) (nI (1)) (show y_n y ≤ 12 from by omega) (show ∀ j9, j9 < y_n y → y_kd y j9 = nI 0 ∨ y_kd y j9 = nI 1 from hkd)) hx hb hml hown hts (cwV 2 hts gX10_isCartWell_X7_tenthsByOther rfl rfl rfl (by decide +kernel) ⟨(Nat.le_of_ble_eq_true rfl), (Nat.le_of_ble_eq_true rfl)⟩) hK hP hD hS hA (va_recv hK hP (ci := 6) (q0 := 12) rfl rfl) rfl hl.1 rfl (Nat.le_of_ble_eq_true rfl) dX10_isCartWell_36 ⟨(Nat.le_of_ble_eq_true rfl), (Nat.le_of_ble_eq_true rfl)⟩ (fun r_36 _ H locs hr_36 hP hD hS => ?_)
    subst hr_36
    have hP : va_P D vwCl (YW ct a y (KR a b rs (BW ct a d bz (IW ct i (xE g) iv (LW ct lb lz (YW ct sa sy (XO x a sa h b d i lb xv (HW ct h ha hz R)))))))) H := hP
    have hD : va_D A (YW ct a y (KR a b rs (BW ct a d bz (IW ct i (xE g) iv (LW ct lb lz (YW ct sa sy (XO x a sa h b d i lb xv (HW ct h ha hz R)))))))) := hD
    refine lv_icmp_ne (tgt := 86) hx hb dX10_isCartWell_39 (by decide) (fun c39_2 => ?_) (fun c39_2 => ?_)
    · skip
      exact absurd (hcw bz k hc).2.1 c39_2
    · skip
      refine lv_aload_n hx hb dX10_isCartWell_42 rfl (lv_at hl 0 rfl) ?_
      refine va_get (ci := 9) (v := .ref (d 0)) hx hb hts h_X10 hown hK hP 38 rfl rfl 7 (by decide) f58 (fun _ h9 => h9) rfl dX10_isCartWell_43 ?_
      refine lv_iload_n hx hb dX10_isCartWell_46 rfl (lv_at hl 1 rfl) ?_
      refine zVI [.int (nI (k))] [] (kX1_leastByWays (a) (y) (b) (rs) (d) (bz) (IW ct i (xE g) iv (LW ct lb lz (YW ct sa sy (XO x a sa h b d i lb xv (HW ct h ha hz R))))) (nI (k)) (show y_n y ≤ 12 from by omega)) hx hb hml hown hts (cwV 1 hts gX10_isCartWell_X1_leastByWays rfl rfl rfl (by decide +kernel) ⟨(Nat.le_of_ble_eq_true rfl), (Nat.le_of_ble_eq_true rfl)⟩) hK hP hD hS hA (va_recv hK hP (ci := 1) (q0 := 16) rfl rfl) rfl hl.1 rfl (Nat.le_of_ble_eq_true rfl) dX10_isCartWell_47 ⟨(Nat.le_of_ble_eq_true rfl), (Nat.le_of_ble_eq_true rfl)⟩ (fun r_47 _ H locs hr_47 hP hD hS => ?_)
      subst hr_47
      have hP : va_P D vwCl (YW ct a y (KR a b rs (BW ct a d (gatB y (nI (k)) bz) (IW ct i (xE g) iv (LW ct lb lz (YW ct sa sy (XO x a sa h b d i lb xv (HW ct h ha hz R)))))))) H := hP
      have hD : va_D A (YW ct a y (KR a b rs (BW ct a d (gatB y (nI (k)) bz) (IW ct i (xE g) iv (LW ct lb lz (YW ct sa sy (XO x a sa h b d i lb xv (HW ct h ha hz R)))))))) := hD
      refine lv_aload_n hx hb dX10_isCartWell_50 rfl (lv_at hl 0 rfl) ?_
      refine va_get (ci := 9) (v := .ref (d 0)) hx hb hts h_X10 hown hK hP 38 rfl rfl 7 (by decide) f58 (fun _ h9 => h9) rfl dX10_isCartWell_51 ?_
      refine lv_iload_n hx hb dX10_isCartWell_54 rfl (lv_at hl 1 rfl) ?_
      refine zVI [.int (nI (k))] [.int ((lsC (b_w (gatB y (nI (k)) bz)) (b_n (gatB y (nI (k)) bz)) 0 (nI 0) (nI 0)))] (kX1_leastBySets (a) (y) (b) (rs) (d) ((gatB y (nI (k)) bz)) (IW ct i (xE g) iv (LW ct lb lz (YW ct sa sy (XO x a sa h b d i lb xv (HW ct h ha hz R))))) (nI (k)) (show y_n y ≤ 12 from by omega) (show wB (gatB y (nI (k)) (gatB y (nI (k)) bz)) from (hcw bz k hc).2.2.2.2)) hx hb hml hown hts (cwV 1 hts gX10_isCartWell_X1_leastBySets rfl rfl rfl (by decide +kernel) ⟨(Nat.le_of_ble_eq_true rfl), (Nat.le_of_ble_eq_true rfl)⟩) hK hP hD hS hA (va_recv hK hP (ci := 1) (q0 := 16) rfl rfl) rfl hl.1 rfl (Nat.le_of_ble_eq_true rfl) dX10_isCartWell_55 ⟨(Nat.le_of_ble_eq_true rfl), (Nat.le_of_ble_eq_true rfl)⟩ (fun r_55 _ H locs hr_55 hP hD hS => ?_)
      subst hr_55
      have hP : va_P D vwCl (YW ct a y (KR a b rs (BW ct a d (setB (gatB y (nI (k)) (gatB y (nI (k)) bz))) (IW ct i (xE g) iv (LW ct lb lz (YW ct sa sy (XO x a sa h b d i lb xv (HW ct h ha hz R)))))))) H := hP
      have hD : va_D A (YW ct a y (KR a b rs (BW ct a d (setB (gatB y (nI (k)) (gatB y (nI (k)) bz))) (IW ct i (xE g) iv (LW ct lb lz (YW ct sa sy (XO x a sa h b d i lb xv (HW ct h ha hz R)))))))) := hD
      refine lv_icmp_ne (tgt := 86) hx hb dX10_isCartWell_58 (by decide) (fun c58_3 => ?_) (fun c58_3 => ?_)
      · skip
        exact absurd (hcw bz k hc).2.2.1 c58_3
      · skip
        refine lv_aload_n hx hb dX10_isCartWell_61 rfl (lv_at hl 0 rfl) ?_
        refine va_get (ci := 9) (v := .ref (a 0)) hx hb hts h_X10 hown hK hP 38 rfl rfl 0 (by decide) f10 (fun _ h9 => h9) rfl dX10_isCartWell_62 ?_
        refine lv_iload_n hx hb dX10_isCartWell_65 rfl (lv_at hl 1 rfl) ?_
        refine lv_iconst (v := nI (1)) hx hb dX10_isCartWell_66 (by decide) ?_
        refine zVI [.int (nI (k)), .int (nI (1))] [] (kX9_weightOn (a) (y) (KR a b rs (BW ct a d (setB (gatB y (nI (k)) (gatB y (nI (k)) bz))) (IW ct i (xE g) iv (LW ct lb lz (YW ct sa sy (XO x a sa h b d i lb xv (HW ct h ha hz R))))))) (nI (k)) (nI (1)) (show y_n y ≤ 12 from by omega)) hx hb hml hown hts (cwV 2 hts gX10_isCartWell_X9_weightOn rfl rfl rfl (by decide +kernel) ⟨(Nat.le_of_ble_eq_true rfl), (Nat.le_of_ble_eq_true rfl)⟩) hK hP hD hS hA (va_recv hK hP (ci := 8) (q0 := 0) rfl rfl) rfl hl.1 rfl (Nat.le_of_ble_eq_true rfl) dX10_isCartWell_67 ⟨(Nat.le_of_ble_eq_true rfl), (Nat.le_of_ble_eq_true rfl)⟩ (fun r_67 _ H locs hr_67 hP hD hS => ?_)
        subst hr_67
        have hP : va_P D vwCl (YW ct a y (KR a b rs (BW ct a d (setB (gatB y (nI (k)) (gatB y (nI (k)) bz))) (IW ct i (xE g) iv (LW ct lb lz (YW ct sa sy (XO x a sa h b d i lb xv (HW ct h ha hz R)))))))) H := hP
        have hD : va_D A (YW ct a y (KR a b rs (BW ct a d (setB (gatB y (nI (k)) (gatB y (nI (k)) bz))) (IW ct i (xE g) iv (LW ct lb lz (YW ct sa sy (XO x a sa h b d i lb xv (HW ct h ha hz R)))))))) := hD
        refine lv_aload_n hx hb dX10_isCartWell_70 rfl (lv_at hl 0 rfl) ?_
        refine va_get (ci := 9) (v := .ref (a 0)) hx hb hts h_X10 hown hK hP 38 rfl rfl 0 (by decide) f10 (fun _ h9 => h9) rfl dX10_isCartWell_71 ?_
        refine lv_iload_n hx hb dX10_isCartWell_74 rfl (lv_at hl 1 rfl) ?_
        refine lv_iconst (v := nI (0)) hx hb dX10_isCartWell_75 (by decide) ?_
        refine zVI [.int (nI (k)), .int (nI (0))] [.int ((t_wo y (nI (k)) (nI (1))))] (kX9_weightOn (a) (y) (KR a b rs (BW ct a d (setB (gatB y (nI (k)) (gatB y (nI (k)) bz))) (IW ct i (xE g) iv (LW ct lb lz (YW ct sa sy (XO x a sa h b d i lb xv (HW ct h ha hz R))))))) (nI (k)) (nI (0)) (show y_n y ≤ 12 from by omega)) hx hb hml hown hts (cwV 2 hts gX10_isCartWell_X9_weightOn rfl rfl rfl (by decide +kernel) ⟨(Nat.le_of_ble_eq_true rfl), (Nat.le_of_ble_eq_true rfl)⟩) hK hP hD hS hA (va_recv hK hP (ci := 8) (q0 := 0) rfl rfl) rfl hl.1 rfl (Nat.le_of_ble_eq_true rfl) dX10_isCartWell_76 ⟨(Nat.le_of_ble_eq_true rfl), (Nat.le_of_ble_eq_true rfl)⟩ (fun r_76 _ H locs hr_76 hP hD hS => ?_)
        subst hr_76
        have hP : va_P D vwCl (YW ct a y (KR a b rs (BW ct a d (setB (gatB y (nI (k)) (gatB y (nI (k)) bz))) (IW ct i (xE g) iv (LW ct lb lz (YW ct sa sy (XO x a sa h b d i lb xv (HW ct h ha hz R)))))))) H := hP
        have hD : va_D A (YW ct a y (KR a b rs (BW ct a d (setB (gatB y (nI (k)) (gatB y (nI (k)) bz))) (IW ct i (xE g) iv (LW ct lb lz (YW ct sa sy (XO x a sa h b d i lb xv (HW ct h ha hz R)))))))) := hD
        refine lv_icmp_gt (tgt := 86) hx hb dX10_isCartWell_79 (by decide) (fun c79_4 => ?_) (fun c79_4 => ?_)
        · skip
          exact absurd c79_4 (hcw bz k hc).2.2.2.1
        · skip
          refine lv_iconst (v := nI (1)) hx hb dX10_isCartWell_82 (by decide) ?_
          refine lv_goto (tgt := 87) hx hb dX10_isCartWell_83 (by decide) ?_
          exact zZret () (by decide) hx hb hr hlocks hK hP hD hS dX10_isCartWell_87 (show nI (1) = nI (1) from rfl)
abbrev rmX10_isAnyThingTwice : Room := { frames := 1, cells := 0, slots := 0, locals := 23 }
theorem in_X10_isAnyThingTwice_X10 : ∀ w ∈ u_ws RX10 TX10 12, w ∈ wsX10_isAnyThingTwice := by decide +kernel
theorem in_X10_isAnyThingTwice_X9 : ∀ w ∈ u_ws RX9 TX9 16, w ∈ wsX10_isAnyThingTwice := by decide +kernel
set_option maxHeartbeats 4000000 in
set_option maxRecDepth 100000 in
theorem kX10_isAnyThingTwice {D : va_G} {g : XG} {ct : Nat → ClassId} {l : Launch} (a : Nat → Nat) (y : YS) (b : Nat → Nat) (rs : RS) (d : Nat → Nat) (bz : BS) (i : Nat → Nat) (iv : IS) (lb : Nat → Nat) (lz : LST) (sa : Nat → Nat) (sy : YS) (x : Nat → Nat) (xv : Int32 × Int32) (h : Nat → Nat) (ha : Nat → Nat → Nat) (hz : HS) (R : va_W)  (hy : yI y) (hf : yF y) : MX D ct g l yX10_isAnyThingTwice wsX10_isAnyThingTwice rmX10_isAnyThingTwice (YW ct a y (KR a b rs (BW ct a d bz (IW ct i (xE g) iv (LW ct lb lz (YW ct sa sy (XO x a sa h b d i lb xv (HW ct h ha hz R)))))))) [.ref (x 0)] (QI D ct (fun r0 (_ : Unit) => r0 = nI (0)) (fun _ : Unit => YW ct a y (KR a b rs (BW ct a d bz (IW ct i (xE g) iv (LW ct lb lz (YW ct sa sy (XO x a sa h b d i lb xv (HW ct h ha hz R))))))))) := by
  refine MXof (cc := cX10_isAnyThingTwice) (maxL := 5) (ret := (some .boolean)) (by decide) rfl (Nat.le_of_ble_eq_true rfl) ?_
  intro p e s m args below meth c A H locs F hP hK hD hS hA hX ls hl
  obtain ⟨hx, hb, hr, hlocks, hml, hown, hts, hin⟩ := F
  have hl : lv_has ls 5 [(0, .ref (x 0))] := hl
  have hkd : ∀ j9, j9 < y_n y → y_kd y j9 = nI 0 ∨ y_kd y j9 = nI 1 := fun j9 hj9 => (hy.2.2.2.1 j9 hj9).1
  have hn : y_n y ≤ 12 := hy.1
  have hcn : y_cn y ≤ 4 := hy.2.1
  have hrn : y_rn y ≤ 5 := hy.2.2.1
  have h_X10 := in_X10_isAnyThingTwice_X10
  have h_X9 := in_X10_isAnyThingTwice_X9
  have f10 := hts (.fieldLink RX10 10 "CartArguments" "yard" "LCartArguments$Yard;") (by decide +kernel)
  have f312 := hts (.fieldLink RX10 312 "CartArguments$Yard" "carts" "I") (by decide +kernel)
  refine lv_iconst (v := nI (0)) hx hb dX10_isAnyThingTwice_0 (by decide) ?_
  refine lv_istore_n (lv' := [(1, .int (nI (0))), (0, .ref (x 0))]) hx hb dX10_isAnyThingTwice_1 rfl hl (by decide) rfl (fun ls hl => ?_)
  refine lv_iconst (v := nI (0)) hx hb dX10_isAnyThingTwice_2 (by decide) ?_
  refine lv_istore_n (lv' := [(2, .int (nI (0))), (1, .int (nI (0))), (0, .ref (x 0))]) hx hb dX10_isAnyThingTwice_3 rfl hl (by decide) rfl (fun ls hl => ?_)
  have lp4 : ∀ (fu : Nat) (c7 : Nat) (s7 : Nat) (H : Heap) (locs : List Loc) (ls : Array Slot), (c7 ≤ y_cn y) → (seenP y s7 c7 0) → y_cn y - c7 < fu → va_P D vwCl (YW ct a y (KR a b rs (BW ct a d bz (IW ct i (xE g) iv (LW ct lb lz (YW ct sa sy (XO x a sa h b d i lb xv (HW ct h ha hz R)))))))) H → va_D A (YW ct a y (KR a b rs (BW ct a d bz (IW ct i (xE g) iv (LW ct lb lz (YW ct sa sy (XO x a sa h b d i lb xv (HW ct h ha hz R)))))))) → va_S A s.heap H locs → lv_has ls 5 [(0, .ref (x 0)), (1, .int (nI (s7))), (2, .int (nI (c7)))] → W p l e rmX10_isAnyThingTwice s m args below meth c H locs 0 0 (MQ below (va_Qi (fun r0 (_ : Unit) => r0 = nI (0)) (zB D ct A (fun _ : Unit => YW ct a y (KR a b rs (BW ct a d bz (IW ct i (xE g) iv (LW ct lb lz (YW ct sa sy (XO x a sa h b d i lb xv (HW ct h ha hz R))))))))) A) args s rmX10_isAnyThingTwice.cells rmX10_isAnyThingTwice.slots A) (F0 m 4 ls []) := by
    intro fu
    induction fu with
    | zero => intro c7 s7 H locs ls hc7 hseen hfu; exact absurd hfu (Nat.not_lt_zero _)
    | succ fu ih4 =>
      intro c7 s7 H locs ls hc7 hseen hfu hP hD hS hl
      refine lv_iload_n hx hb dX10_isAnyThingTwice_4 rfl (lv_at hl 2 rfl) ?_
      refine lv_aload_n hx hb dX10_isAnyThingTwice_5 rfl (lv_at hl 0 rfl) ?_
      refine va_get (ci := 9) (v := .ref (a 0)) hx hb hts h_X10 hown hK hP 38 rfl rfl 0 (by decide) f10 (fun _ h9 => h9) rfl dX10_isAnyThingTwice_6 ?_
      refine va_get (ci := 8) (v := .int (nI (y_cn y))) hx hb hts h_X9 hown hK hP 0 rfl rfl 5 (by decide) f312 (fun _ h9 => h9) rfl dX10_isAnyThingTwice_9 ?_
      refine zN_icmp_ge (tgt := 71) hx hb (by omega) (by omega) dX10_isAnyThingTwice_12 (by decide) (fun c12_1 => ?_) (fun c12_1 => ?_)
      · skip
        refine lv_iconst (v := nI (0)) hx hb dX10_isAnyThingTwice_71 (by decide) ?_
        exact zZret () (by decide) hx hb hr hlocks hK hP hD hS dX10_isAnyThingTwice_72 (show nI (0) = nI (0) from rfl)
      · skip
        refine lv_iconst (v := nI (0)) hx hb dX10_isAnyThingTwice_15 (by decide) ?_
        refine lv_istore_n (lv' := [(3, .int (nI (0))), (0, .ref (x 0)), (1, .int (nI (s7))), (2, .int (nI (c7)))]) hx hb dX10_isAnyThingTwice_16 rfl hl (by decide) rfl (fun ls hl => ?_)
        have lp17 : ∀ (fu : Nat) (p7 : Nat) (s7 : Nat) (H : Heap) (locs : List Loc) (ls : Array Slot), (p7 ≤ 7) → (seenP y s7 c7 p7) → 7 - p7 < fu → va_P D vwCl (YW ct a y (KR a b rs (BW ct a d bz (IW ct i (xE g) iv (LW ct lb lz (YW ct sa sy (XO x a sa h b d i lb xv (HW ct h ha hz R)))))))) H → va_D A (YW ct a y (KR a b rs (BW ct a d bz (IW ct i (xE g) iv (LW ct lb lz (YW ct sa sy (XO x a sa h b d i lb xv (HW ct h ha hz R)))))))) → va_S A s.heap H locs → lv_has ls 5 [(0, .ref (x 0)), (1, .int (nI (s7))), (2, .int (nI (c7))), (3, .int (nI (p7)))] → W p l e rmX10_isAnyThingTwice s m args below meth c H locs 0 0 (MQ below (va_Qi (fun r0 (_ : Unit) => r0 = nI (0)) (zB D ct A (fun _ : Unit => YW ct a y (KR a b rs (BW ct a d bz (IW ct i (xE g) iv (LW ct lb lz (YW ct sa sy (XO x a sa h b d i lb xv (HW ct h ha hz R))))))))) A) args s rmX10_isAnyThingTwice.cells rmX10_isAnyThingTwice.slots A) (F0 m 17 ls []) := by
          intro fu
          induction fu with
          | zero => intro p7 s7 H locs ls hp7 hseen hfu; exact absurd hfu (Nat.not_lt_zero _)
          | succ fu ih17 =>
            intro p7 s7 H locs ls hp7 hseen hfu hP hD hS hl
            refine lv_iload_n hx hb dX10_isAnyThingTwice_17 rfl (lv_at hl 3 rfl) ?_
            refine lv_bipush (v := nI (6)) hx hb dX10_isAnyThingTwice_18 (by decide) ?_
            refine zN_icmp_gt (tgt := 65) hx hb (by omega) (by omega) dX10_isAnyThingTwice_20 (by decide) (fun c20_2 => ?_) (fun c20_2 => ?_)
            · skip
              refine lv_iinc (v := nI ((c7 + 1))) (lv' := [(2, .int (nI ((c7 + 1)))), (0, .ref (x 0)), (1, .int (nI (s7))), (3, .int (nI (p7)))]) hx hb dX10_isAnyThingTwice_65 hl (k := 2) rfl (zInc _) (by decide) rfl (fun ls hl => ?_)
              refine lv_goto (tgt := 4) hx hb dX10_isAnyThingTwice_68 (by decide) ?_
              exact ih4 ((c7 + 1)) (s7) H locs ls (by omega) (seen_c (by rw [show p7 = 7 by omega] at hseen; exact hseen)) (by omega) hP hD hS (lv_sub hl [1, 2, 0] rfl)
            · skip
              refine lv_aload_n hx hb dX10_isAnyThingTwice_23 rfl (lv_at hl 0 rfl) ?_
              refine va_get (ci := 9) (v := .ref (a 0)) hx hb hts h_X10 hown hK hP 38 rfl rfl 0 (by decide) f10 (fun _ h9 => h9) rfl dX10_isAnyThingTwice_24 ?_
              refine lv_iload_n hx hb dX10_isAnyThingTwice_27 rfl (lv_at hl 2 rfl) ?_
              refine lv_iload_n hx hb dX10_isAnyThingTwice_28 rfl (lv_at hl 3 rfl) ?_
              refine zVI [.int (nI (c7)), .int (nI (p7))] [] (kX9_thingAt (a) (y) (KR a b rs (BW ct a d bz (IW ct i (xE g) iv (LW ct lb lz (YW ct sa sy (XO x a sa h b d i lb xv (HW ct h ha hz R))))))) (nI (c7)) (nI (p7)) (show y_n y ≤ 12 from by omega)) hx hb hml hown hts (cwV 2 hts gX10_isAnyThingTwice_X9_thingAt rfl rfl rfl (by decide +kernel) ⟨(Nat.le_of_ble_eq_true rfl), (Nat.le_of_ble_eq_true rfl)⟩) hK hP hD hS hA (va_recv hK hP (ci := 8) (q0 := 0) rfl rfl) rfl hl.1 rfl (Nat.le_of_ble_eq_true rfl) dX10_isAnyThingTwice_29 ⟨(Nat.le_of_ble_eq_true rfl), (Nat.le_of_ble_eq_true rfl)⟩ (fun r_29 _ H locs hr_29 hP hD hS => ?_)
              subst hr_29
              have hP : va_P D vwCl (YW ct a y (KR a b rs (BW ct a d bz (IW ct i (xE g) iv (LW ct lb lz (YW ct sa sy (XO x a sa h b d i lb xv (HW ct h ha hz R)))))))) H := hP
              have hD : va_D A (YW ct a y (KR a b rs (BW ct a d bz (IW ct i (xE g) iv (LW ct lb lz (YW ct sa sy (XO x a sa h b d i lb xv (HW ct h ha hz R)))))))) := hD
              refine lv_istore (lv' := [(4, .int ((t_at y (nI (c7)) (nI (p7))))), (0, .ref (x 0)), (1, .int (nI (s7))), (2, .int (nI (c7))), (3, .int (nI (p7)))]) hx hb dX10_isAnyThingTwice_32 hl (by decide) rfl (fun ls hl => ?_)
              refine lv_iload hx hb dX10_isAnyThingTwice_34 (lv_at hl 0 rfl) ?_
              refine lv_bipush (v := (-4)) hx hb dX10_isAnyThingTwice_36 (by decide) ?_
              refine lv_icmp_eq (tgt := 59) hx hb dX10_isAnyThingTwice_38 (by decide) (fun c38_3 => ?_) (fun c38_3 => ?_)
              · skip
                refine lv_iinc (v := nI ((p7 + 1))) (lv' := [(3, .int (nI ((p7 + 1)))), (4, .int ((t_at y (nI (c7)) (nI (p7))))), (0, .ref (x 0)), (1, .int (nI (s7))), (2, .int (nI (c7)))]) hx hb dX10_isAnyThingTwice_59 hl (k := 4) rfl (zInc _) (by decide) rfl (fun ls hl => ?_)
                refine lv_goto (tgt := 17) hx hb dX10_isAnyThingTwice_62 (by decide) ?_
                exact ih17 ((p7 + 1)) (s7) H locs ls (by omega) (seen_n hseen) (by omega) hP hD hS (lv_sub hl [2, 3, 4, 0] rfl)
              · skip
                obtain ⟨k7, hk7, ek7⟩ := (at_ex y (nI c7) (nI p7)).resolve_left c38_3
                rw [ek7] at hl
                refine lv_iload_n hx hb dX10_isAnyThingTwice_41 rfl (lv_at hl 2 rfl) ?_
                refine lv_iload hx hb dX10_isAnyThingTwice_42 (lv_at hl 0 rfl) ?_
                refine lv_ishr hx hb dX10_isAnyThingTwice_44 ?_
                refine lv_iconst (v := nI (1)) hx hb dX10_isAnyThingTwice_45 (by decide) ?_
                refine lv_iand hx hb dX10_isAnyThingTwice_46 ?_
                refine lv_if_eq (tgt := 52) hx hb dX10_isAnyThingTwice_47 (by decide) (fun c47_4 => ?_) (fun c47_4 => ?_)
                · skip
                  refine lv_iload_n hx hb dX10_isAnyThingTwice_52 rfl (lv_at hl 2 rfl) ?_
                  refine lv_iconst (v := nI (1)) hx hb dX10_isAnyThingTwice_53 (by decide) ?_
                  refine lv_iload hx hb dX10_isAnyThingTwice_54 (lv_at hl 0 rfl) ?_
                  refine lv_ishl hx hb dX10_isAnyThingTwice_56 ?_
                  refine lv_ior hx hb dX10_isAnyThingTwice_57 ?_
                  refine zTop (y := nI (s7 ||| 2 ^ k7)) (by rw [shl12 (by omega), or_n]) ?_
                  refine lv_istore_n (lv' := [(1, .int (nI (s7 ||| 2 ^ k7))), (4, .int (nI (k7))), (0, .ref (x 0)), (2, .int (nI (c7))), (3, .int (nI (p7)))]) hx hb dX10_isAnyThingTwice_58 rfl hl (by decide) rfl (fun ls hl => ?_)
                  refine lv_iinc (v := nI ((p7 + 1))) (lv' := [(3, .int (nI ((p7 + 1)))), (1, .int (nI (s7 ||| 2 ^ k7))), (4, .int (nI (k7))), (0, .ref (x 0)), (2, .int (nI (c7)))]) hx hb dX10_isAnyThingTwice_59 hl (k := 4) rfl (zInc _) (by decide) rfl (fun ls hl => ?_)
                  refine lv_goto (tgt := 17) hx hb dX10_isAnyThingTwice_62 (by decide) ?_
                  exact ih17 ((p7 + 1)) (s7 ||| 2 ^ k7) H locs ls (by omega) (seen_p hseen hn hk7 (by omega) (by omega) ek7) (by omega) hP hD hS (lv_sub hl [3, 1, 4, 0] rfl)
                · skip
                  exact absurd (seen_no hseen hn hk7 (by omega) (by omega) ek7) c47_4
        exact lp17 ((7 - (0)) + 1) (0) (s7) H locs ls (by omega) hseen (Nat.lt_succ_self _) hP hD hS (lv_sub hl [1, 2, 3, 0] rfl)
  exact lp4 ((y_cn y - (0)) + 1) (0) (0) H locs ls (by omega) (seen_0 y) (Nat.lt_succ_self _) hP hD hS (lv_sub hl [2, 1, 0] rfl)
abbrev rmX10_isWell : Room := { frames := 10, cells := 0, slots := 0, locals := 261 }
theorem in_X10_isWell_X10 : ∀ w ∈ u_ws RX10 TX10 12, w ∈ wsX10_isWell := by decide +kernel
theorem in_X10_isWell_X9 : ∀ w ∈ u_ws RX9 TX9 16, w ∈ wsX10_isWell := by decide +kernel
set_option maxHeartbeats 4000000 in
set_option maxRecDepth 100000 in
theorem kX10_isWell {D : va_G} {g : XG} {ct : Nat → ClassId} {l : Launch} (a : Nat → Nat) (y : YS) (b : Nat → Nat) (rs : RS) (d : Nat → Nat) (bz : BS) (i : Nat → Nat) (iv : IS) (lb : Nat → Nat) (lz : LST) (sa : Nat → Nat) (sy : YS) (x : Nat → Nat) (xv : Int32 × Int32) (h : Nat → Nat) (ha : Nat → Nat → Nat) (hz : HS) (R : va_W)  (hy : yI y) (hf : yF y) (hcw : cwP y) : MX D ct g l yX10_isWell wsX10_isWell rmX10_isWell (YW ct a y (KR a b rs (BW ct a d bz (IW ct i (xE g) iv (LW ct lb lz (YW ct sa sy (XO x a sa h b d i lb xv (HW ct h ha hz R)))))))) [.ref (x 0)] (QI D ct (fun r0 (_ : Unit) => r0 = nI (1)) (fun _ : Unit => YW ct a y (KR a b rs (BW ct a d (bWells y bz (y_cn y)) (IW ct i (xE g) iv (LW ct lb lz (YW ct sa sy (XO x a sa h b d i lb xv (HW ct h ha hz R))))))))) := by
  refine MXof (cc := cX10_isWell) (maxL := 2) (ret := (some .int)) (by decide) rfl (Nat.le_of_ble_eq_true rfl) ?_
  intro p e s m args below meth c A H locs F hP hK hD hS hA hX ls hl
  obtain ⟨hx, hb, hr, hlocks, hml, hown, hts, hin⟩ := F
  have hl : lv_has ls 2 [(0, .ref (x 0))] := hl
  have hkd : ∀ j9, j9 < y_n y → y_kd y j9 = nI 0 ∨ y_kd y j9 = nI 1 := fun j9 hj9 => (hy.2.2.2.1 j9 hj9).1
  have hn : y_n y ≤ 12 := hy.1
  have hcn : y_cn y ≤ 4 := hy.2.1
  have hrn : y_rn y ≤ 5 := hy.2.2.1
  have h_X10 := in_X10_isWell_X10
  have h_X9 := in_X10_isWell_X9
  have f10 := hts (.fieldLink RX10 10 "CartArguments" "yard" "LCartArguments$Yard;") (by decide +kernel)
  have f312 := hts (.fieldLink RX10 312 "CartArguments$Yard" "carts" "I") (by decide +kernel)
  refine lv_iconst (v := nI (0)) hx hb dX10_isWell_0 (by decide) ?_
  refine lv_istore_n (lv' := [(1, .int (nI (0))), (0, .ref (x 0))]) hx hb dX10_isWell_1 rfl hl (by decide) rfl (fun ls hl => ?_)
  have lp2 : ∀ (fu : Nat) (k : Nat) (H : Heap) (locs : List Loc) (ls : Array Slot), (k ≤ y_cn y) → y_cn y - k < fu → va_P D vwCl (YW ct a y (KR a b rs (BW ct a d (bWells y bz k) (IW ct i (xE g) iv (LW ct lb lz (YW ct sa sy (XO x a sa h b d i lb xv (HW ct h ha hz R)))))))) H → va_D A (YW ct a y (KR a b rs (BW ct a d (bWells y bz k) (IW ct i (xE g) iv (LW ct lb lz (YW ct sa sy (XO x a sa h b d i lb xv (HW ct h ha hz R)))))))) → va_S A s.heap H locs → lv_has ls 2 [(0, .ref (x 0)), (1, .int (nI (k)))] → W p l e rmX10_isWell s m args below meth c H locs 0 0 (MQ below (va_Qi (fun r0 (_ : Unit) => r0 = nI (1)) (zB D ct A (fun _ : Unit => YW ct a y (KR a b rs (BW ct a d (bWells y bz (y_cn y)) (IW ct i (xE g) iv (LW ct lb lz (YW ct sa sy (XO x a sa h b d i lb xv (HW ct h ha hz R))))))))) A) args s rmX10_isWell.cells rmX10_isWell.slots A) (F0 m 2 ls []) := by
    intro fu
    induction fu with
    | zero => intro k H locs ls hk hfu; exact absurd hfu (Nat.not_lt_zero _)
    | succ fu ih2 =>
      intro k H locs ls hk hfu hP hD hS hl
      refine lv_iload_n hx hb dX10_isWell_2 rfl (lv_at hl 1 rfl) ?_
      refine lv_aload_n hx hb dX10_isWell_3 rfl (lv_at hl 0 rfl) ?_
      refine va_get (ci := 9) (v := .ref (a 0)) hx hb hts h_X10 hown hK hP 38 rfl rfl 0 (by decide) f10 (fun _ h9 => h9) rfl dX10_isWell_4 ?_
      refine va_get (ci := 8) (v := .int (nI (y_cn y))) hx hb hts h_X9 hown hK hP 0 rfl rfl 5 (by decide) f312 (fun _ h9 => h9) rfl dX10_isWell_7 ?_
      refine zN_icmp_ge (tgt := 29) hx hb (by omega) (by omega) dX10_isWell_10 (by decide) (fun c10_1 => ?_) (fun c10_1 => ?_)
      · skip
        obtain rfl : k = y_cn y := by omega
        refine lv_aload_n hx hb dX10_isWell_29 rfl (lv_at hl 0 rfl) ?_
        refine zVIX [] [] (kX10_isAnyThingTwice (a) (y) (b) (rs) (d) ((bWells y bz (y_cn y))) (i) (iv) (lb) (lz) (sa) (sy) (x) (xv) (h) (ha) (hz) (R) (show yI y from hy) (show yF y from hf)) hx hb hml hown hts (cwV 0 hts gX10_isWell_X10_isAnyThingTwice rfl rfl rfl (by decide +kernel) ⟨(Nat.le_of_ble_eq_true rfl), (Nat.le_of_ble_eq_true rfl)⟩) hK hP hD hS hA hX (va_recv hK hP (ci := 9) (q0 := 38) rfl rfl) rfl hl.1 rfl (Nat.le_of_ble_eq_true rfl) dX10_isWell_30 ⟨(Nat.le_of_ble_eq_true rfl), (Nat.le_of_ble_eq_true rfl)⟩ (fun r_30 _ H locs hr_30 hP hD hS => ?_)
        subst hr_30
        have hP : va_P D vwCl (YW ct a y (KR a b rs (BW ct a d (bWells y bz (y_cn y)) (IW ct i (xE g) iv (LW ct lb lz (YW ct sa sy (XO x a sa h b d i lb xv (HW ct h ha hz R)))))))) H := hP
        have hD : va_D A (YW ct a y (KR a b rs (BW ct a d (bWells y bz (y_cn y)) (IW ct i (xE g) iv (LW ct lb lz (YW ct sa sy (XO x a sa h b d i lb xv (HW ct h ha hz R)))))))) := hD
        refine lv_if_eq (tgt := 40) hx hb dX10_isWell_33 (by decide) (fun c9 => ?_) (fun c9 => absurd (by decide) c9)
        refine lv_iconst (v := nI (1)) hx hb dX10_isWell_40 (by decide) ?_
        exact zIret () hx hb hr hlocks hK hP hD hS dX10_isWell_41 (show nI (1) = nI (1) from rfl)
      · skip
        refine lv_aload_n hx hb dX10_isWell_13 rfl (lv_at hl 0 rfl) ?_
        refine lv_iload_n hx hb dX10_isWell_14 rfl (lv_at hl 1 rfl) ?_
        refine zVIX [.int (nI (k))] [] (kX10_isCartWell (a) (y) (b) (rs) (d) ((bWells y bz k)) (i) (iv) (lb) (lz) (sa) (sy) (x) (xv) (h) (ha) (hz) (R) (k) (show yI y from hy) (show yF y from hf) (show cwP y from hcw) (show (k) < y_cn y from (by omega))) hx hb hml hown hts (cwV 1 hts gX10_isWell_X10_isCartWell rfl rfl rfl (by decide +kernel) ⟨(Nat.le_of_ble_eq_true rfl), (Nat.le_of_ble_eq_true rfl)⟩) hK hP hD hS hA hX (va_recv hK hP (ci := 9) (q0 := 38) rfl rfl) rfl hl.1 rfl (Nat.le_of_ble_eq_true rfl) dX10_isWell_15 ⟨(Nat.le_of_ble_eq_true rfl), (Nat.le_of_ble_eq_true rfl)⟩ (fun r_15 _ H locs hr_15 hP hD hS => ?_)
        subst hr_15
        have hP : va_P D vwCl (YW ct a y (KR a b rs (BW ct a d (bWell y (bWells y bz k) (k)) (IW ct i (xE g) iv (LW ct lb lz (YW ct sa sy (XO x a sa h b d i lb xv (HW ct h ha hz R)))))))) H := hP
        have hD : va_D A (YW ct a y (KR a b rs (BW ct a d (bWell y (bWells y bz k) (k)) (IW ct i (xE g) iv (LW ct lb lz (YW ct sa sy (XO x a sa h b d i lb xv (HW ct h ha hz R)))))))) := hD
        refine lv_if_ne (tgt := 23) hx hb dX10_isWell_18 (by decide) (fun c9 => ?_) (fun c9 => absurd c9 (by decide))
        refine lv_iinc (v := nI ((k + 1))) (lv' := [(1, .int (nI ((k + 1)))), (0, .ref (x 0))]) hx hb dX10_isWell_23 hl (k := 1) rfl (zInc _) (by decide) rfl (fun ls hl => ?_)
        refine lv_goto (tgt := 2) hx hb dX10_isWell_26 (by decide) ?_
        exact ih2 ((k + 1)) H locs ls (by omega) (by omega) hP hD hS (lv_sub hl [1, 0] rfl)
  have hP : va_P D vwCl (YW ct a y (KR a b rs (BW ct a d (bWells y bz (0)) (IW ct i (xE g) iv (LW ct lb lz (YW ct sa sy (XO x a sa h b d i lb xv (HW ct h ha hz R)))))))) H := by rw [show bWells y bz 0 = bz from rfl]; exact hP
  have hD : va_D A (YW ct a y (KR a b rs (BW ct a d (bWells y bz (0)) (IW ct i (xE g) iv (LW ct lb lz (YW ct sa sy (XO x a sa h b d i lb xv (HW ct h ha hz R)))))))) := by rw [show bWells y bz 0 = bz from rfl]; exact hD
  exact lp2 ((y_cn y - (0)) + 1) (0) H locs ls (by omega) (Nat.lt_succ_self _) hP hD hS (lv_sub hl [1, 0] rfl)
