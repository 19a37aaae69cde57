/-! THE CLASS: texts carried out; is all well -/
abbrev rmX10_isCartWell : Room := { frames := 9, cells := 0, slots := 0, locals := 240 }
theorem in_X10_isCartWell_X10 : ∀ w ∈ u_ws RX10 TX10 12, w ∈ wsX10_isCartWell := by decide +kernel
set_option maxHeartbeats 4000000 in
set_option maxRecDepth 100000 in
theorem kX10_isCartWell {D : va_G} {g : XG} {ct : Nat → ClassId} {l : Launch} (a : Nat → Nat) (y : YS) (b : Nat → Nat) (rs : RS) (d : Nat → Nat) (bz : BS) (i : Nat → Nat) (iv : IS) (lb : Nat → Nat) (lz : LST) (sa : Nat → Nat) (sy : YS) (x : Nat → Nat) (xv : Int32 × Int32) (h : Nat → Nat) (ha : Nat → Nat → Nat) (hz : HS) (R : va_W) (k : Nat) (hy : yI y) (hf : yF y) (hcw : cwP y) (hc : k < y_cn y) : MX D ct g l yX10_isCartWell wsX10_isCartWell rmX10_isCartWell (YW ct a y (KR a b rs (BW ct a d bz (IW ct i (xE g) iv (LW ct lb lz (YW ct sa sy (XO x a sa h b d i lb xv (HW ct h ha hz R)))))))) [.ref (x 0), .int (nI (k))] (QI D ct (fun r0 (_ : Unit) => r0 = nI (1)) (fun _ : Unit => YW ct a y (KR a b rs (BW ct a d (bWell y bz k) (IW ct i (xE g) iv (LW ct lb lz (YW ct sa sy (XO x a sa h b d i lb xv (HW ct h ha hz R))))))))) := by
  refine MXof (cc := cX10_isCartWell) (maxL := 2) (ret := (some .boolean)) (by decide) rfl (Nat.le_of_ble_eq_true rfl) ?_
  intro p e s m args below meth c A H locs F hP hK hD hS hA hX ls hl
  obtain ⟨hx, hb, hr, hlocks, hml, hown, hts, hin⟩ := F
  have hl : lv_has ls 2 [(0, .ref (x 0)), (1, .int (nI (k)))] := hl
  have hkd : ∀ j9, j9 < y_n y → y_kd y j9 = nI 0 ∨ y_kd y j9 = nI 1 := fun j9 hj9 => (hy.2.2.2.1 j9 hj9).1
  have hn : y_n y ≤ 12 := hy.1
  have hcn : y_cn y ≤ 4 := hy.2.1
  have hrn : y_rn y ≤ 5 := hy.2.2.1
  have h_X10 := in_X10_isCartWell_X10
  have f10 := hts (.fieldLink RX10 10 "CartArguments" "yard" "LCartArguments$Yard;") (by decide +kernel)
  have f42 := hts (.fieldLink RX10 42 "CartArguments" "scale" "LCartArguments$Scale;") (by decide +kernel)
  have f58 := hts (.fieldLink RX10 58 "CartArguments" "balance" "LCartArguments$Balance;") (by decide +kernel)
  refine lv_aload_n hx hb dX10_isCartWell_0 rfl (lv_at hl 0 rfl) ?_
  refine va_get (ci := 9) (v := .ref (b 0)) hx hb hts h_X10 hown hK hP 38 rfl rfl 5 (by decide) f42 (fun _ h9 => h9) rfl dX10_isCartWell_1 ?_
  refine lv_iload_n hx hb dX10_isCartWell_4 rfl (lv_at hl 1 rfl) ?_
  refine lv_iconst (v := nI (0)) hx hb dX10_isCartWell_5 (by decide) ?_
  refine zVI [.int (nI (k)), .int (nI (0))] [] (kX7_tenthsByThings (a) (y) (b) (rs) (BW ct a d bz (IW ct i (xE g) iv (LW ct lb lz (YW ct sa sy (XO x a sa h b d i lb xv (HW ct h ha hz R)))))) (nI (k)) (nI (0)) (show y_n y ≤ 12 from by omega) (show ∀ j9, j9 < y_n y → y_kd y j9 = nI 0 ∨ y_kd y j9 = nI 1 from hkd)) hx hb hml hown hts (cwV 2 hts gX10_isCartWell_X7_tenthsByThings rfl rfl rfl (by decide +kernel) ⟨(Nat.le_of_ble_eq_true rfl), (Nat.le_of_ble_eq_true rfl)⟩) hK hP hD hS hA (va_recv hK hP (ci := 6) (q0 := 12) rfl rfl) rfl hl.1 rfl (Nat.le_of_ble_eq_true rfl) dX10_isCartWell_6 ⟨(Nat.le_of_ble_eq_true rfl), (Nat.le_of_ble_eq_true rfl)⟩ (fun r_6 _ H locs hr_6 hP hD hS => ?_)
  subst hr_6
  have hP : va_P D vwCl (YW ct a y (KR a b rs (BW ct a d bz (IW ct i (xE g) iv (LW ct lb lz (YW ct sa sy (XO x a sa h b d i lb xv (HW ct h ha hz R)))))))) H := hP
  have hD : va_D A (YW ct a y (KR a b rs (BW ct a d bz (IW ct i (xE g) iv (LW ct lb lz (YW ct sa sy (XO x a sa h b d i lb xv (HW ct h ha hz R)))))))) := hD
  refine lv_aload_n hx hb dX10_isCartWell_9 rfl (lv_at hl 0 rfl) ?_
  refine va_get (ci := 9) (v := .ref (b 0)) hx hb hts h_X10 hown hK hP 38 rfl rfl 5 (by decide) f42 (fun _ h9 => h9) rfl dX10_isCartWell_10 ?_
  refine lv_iload_n hx hb dX10_isCartWell_13 rfl (lv_at hl 1 rfl) ?_
  refine lv_iconst (v := nI (0)) hx hb dX10_isCartWell_14 (by decide) ?_
  refine zVI [.int (nI (k)), .int (nI (0))] [.int ((t_te y (nI (k)) (nI (0))))] (kX7_tenthsByOther (a) (y) (b) (rs) (BW ct a d bz (IW ct i (xE g) iv (LW ct lb lz (YW ct sa sy (XO x a sa h b d i lb xv (HW ct h ha hz R)))))) (nI (k)) (nI (0)) (show y_n y ≤ 12 from by omega) (show ∀ j9, j9 < y_n y → y_kd y j9 = nI 0 ∨ y_kd y j9 = nI 1 from hkd)) hx hb hml hown hts (cwV 2 hts gX10_isCartWell_X7_tenthsByOther rfl rfl rfl (by decide +kernel) ⟨(Nat.le_of_ble_eq_true rfl), (Nat.le_of_ble_eq_true rfl)⟩) hK hP hD hS hA (va_recv hK hP (ci := 6) (q0 := 12) rfl rfl) rfl hl.1 rfl (Nat.le_of_ble_eq_true rfl) dX10_isCartWell_15 ⟨(Nat.le_of_ble_eq_true rfl), (Nat.le_of_ble_eq_true rfl)⟩ (fun r_15 _ H locs hr_15 hP hD hS => ?_)
  subst hr_15
  have hP : va_P D vwCl (YW ct a y (KR a b rs (BW ct a d bz (IW ct i (xE g) iv (LW ct lb lz (YW ct sa sy (XO x a sa h b d i lb xv (HW ct h ha hz R)))))))) H := hP
  have hD : va_D A (YW ct a y (KR a b rs (BW ct a d bz (IW ct i (xE g) iv (LW ct lb lz (YW ct sa sy (XO x a sa h b d i lb xv (HW ct h ha hz R)))))))) := hD
  refine lv_icmp_ne (tgt := 86) hx hb dX10_isCartWell_18 (by decide) (fun c18_1 => ?_) (fun c18_1 => ?_)
  · skip
    exact absurd (hcw bz k hc).1 c18_1
  · skip
    refine lv_aload_n hx hb dX10_isCartWell_21 rfl (lv_at hl 0 rfl) ?_
    refine va_get (ci := 9) (v := .ref (b 0)) hx hb hts h_X10 hown hK hP 38 rfl rfl 5 (by decide) f42 (fun _ h9 => h9) rfl dX10_isCartWell_22 ?_
    refine lv_iload_n hx hb dX10_isCartWell_25 rfl (lv_at hl 1 rfl) ?_
    refine lv_iconst (v := nI (1)) hx hb dX10_isCartWell_26 (by decide) ?_
    refine zVI [.int (nI (k)), .int (nI (1))] [] (kX7_tenthsByThings (a) (y) (b) (rs) (BW ct a d bz (IW ct i (xE g) iv (LW ct lb lz (YW ct sa sy (XO x a sa h b d i lb xv (HW ct h ha hz R)))))) (nI (k)) (nI (1)) (show y_n y ≤ 12 from by omega) (show ∀ j9, j9 < y_n y → y_kd y j9 = nI 0 ∨ y_kd y j9 = nI 1 from hkd)) hx hb hml hown hts (cwV 2 hts gX10_isCartWell_X7_tenthsByThings rfl rfl rfl (by decide +kernel) ⟨(Nat.le_of_ble_eq_true rfl), (Nat.le_of_ble_eq_true rfl)⟩) hK hP hD hS hA (va_recv hK hP (ci := 6) (q0 := 12) rfl rfl) rfl hl.1 rfl (Nat.le_of_ble_eq_true rfl) dX10_isCartWell_27 ⟨(Nat.le_of_ble_eq_true rfl), (Nat.le_of_ble_eq_true rfl)⟩ (fun r_27 _ H locs hr_27 hP hD hS => ?_)
    subst hr_27
    have hP : va_P D vwCl (YW ct a y (KR a b rs (BW ct a d bz (IW ct i (xE g) iv (LW ct lb lz (YW ct sa sy (XO x a sa h b d i lb xv (HW ct h ha hz R)))))))) H := hP
    have hD : va_D A (YW ct a y (KR a b rs (BW ct a d bz (IW ct i (xE g) iv (LW ct lb lz (YW ct sa sy (XO x a sa h b d i lb xv (HW ct h ha hz R)))))))) := hD
    refine lv_aload_n hx hb dX10_isCartWell_30 rfl (lv_at hl 0 rfl) ?_
    refine va_get (ci := 9) (v := .ref (b 0)) hx hb hts h_X10 hown hK hP 38 rfl rfl 5 (by decide) f42 (fun _ h9 => h9) rfl dX10_isCartWell_31 ?_
    refine lv_iload_n hx hb dX10_isCartWell_34 rfl (lv_at hl 1 rfl) ?_
    refine lv_iconst (v := nI (1)) hx hb dX10_isCartWell_35 (by decide) ?_
    refine zVI [.int (nI (k)), .int (nI (1))] [.int ((t_te y (nI (k)) (nI (1))))] (kX7_tenthsByOther (a) (y) (b) (rs) (BW ct a d bz (IW ct i (xE g) iv (LW ct lb lz (YW ct sa sy (XO x a sa h b d i lb xv (HW ct h ha hz R)))))) (nI (k)) (nI (1)) (show y_n y ≤ 12 from by omega) (show ∀ j9, j9 < y_n y → y_kd y j9 = nI 0 ∨ y_kd y j9 = nI 1 from hkd)) hx hb hml hown hts (cwV 2 hts gX10_isCartWell_X7_tenthsByOther rfl rfl rfl (by decide +kernel) ⟨(Nat.le_of_ble_eq_true rfl), (Nat.le_of_ble_eq_true rfl)⟩) hK hP hD hS hA (va_recv hK hP (ci := 6) (q0 := 12) rfl rfl) rfl hl.1 rfl (Nat.le_of_ble_eq_true rfl) dX10_isCartWell_36 ⟨(Nat.le_of_ble_eq_true rfl), (Nat.le_of_ble_eq_true rfl)⟩ (fun r_36 _ H locs hr_36 hP hD hS => ?_)
    subst hr_36
    have hP : va_P D vwCl (YW ct a y (KR a b rs (BW ct a d bz (IW ct i (xE g) iv (LW ct lb lz (YW ct sa sy (XO x a sa h b d i lb xv (HW ct h ha hz R)))))))) H := hP
    have hD : va_D A (YW ct a y (KR a b rs (BW ct a d bz (IW ct i (xE g) iv (LW ct lb lz (YW ct sa sy (XO x a sa h b d i lb xv (HW ct h ha hz R)))))))) := hD
    refine lv_icmp_ne (tgt := 86) hx hb dX10_isCartWell_39 (by decide) (fun c39_2 => ?_) (fun c39_2 => ?_)
    · skip
      exact absurd (hcw bz k hc).2.1 c39_2
    · skip
      refine lv_aload_n hx hb dX10_isCartWell_42 rfl (lv_at hl 0 rfl) ?_
      refine va_get (ci := 9) (v := .ref (d 0)) hx hb hts h_X10 hown hK hP 38 rfl rfl 7 (by decide) f58 (fun _ h9 => h9) rfl dX10_isCartWell_43 ?_
      refine lv_iload_n hx hb dX10_isCartWell_46 rfl (lv_at hl 1 rfl) ?_
      refine zVI [.int (nI (k))] [] (kX1_leastByWays (a) (y) (b) (rs) (d) (bz) (IW ct i (xE g) iv (LW ct lb lz (YW ct sa sy (XO x a sa h b d i lb xv (HW ct h ha hz R))))) (nI (k)) (show y_n y ≤ 12 from by omega)) hx hb hml hown hts (cwV 1 hts gX10_isCartWell_X1_leastByWays rfl rfl rfl (by decide +kernel) ⟨(Nat.le_of_ble_eq_true rfl), (Nat.le_of_ble_eq_true rfl)⟩) hK hP hD hS hA (va_recv hK hP (ci := 1) (q0 := 16) rfl rfl) rfl hl.1 rfl (Nat.le_of_ble_eq_true rfl) dX10_isCartWell_47 ⟨(Nat.le_of_ble_eq_true rfl), (Nat.le_of_ble_eq_true rfl)⟩ (fun r_47 _ H locs hr_47 hP hD hS => ?_)
      subst hr_47
      have hP : va_P D vwCl (YW ct a y (KR a b rs (BW ct a d (gatB y (nI (k)) bz) (IW ct i (xE g) iv (LW ct lb lz (YW ct sa sy (XO x a sa h b d i lb xv (HW ct h ha hz R)))))))) H := hP
      have hD : va_D A (YW ct a y (KR a b rs (BW ct a d (gatB y (nI (k)) bz) (IW ct i (xE g) iv (LW ct lb lz (YW ct sa sy (XO x a sa h b d i lb xv (HW ct h ha hz R)))))))) := hD
      refine lv_aload_n hx hb dX10_isCartWell_50 rfl (lv_at hl 0 rfl) ?_
      refine va_get (ci := 9) (v := .ref (d 0)) hx hb hts h_X10 hown hK hP 38 rfl rfl 7 (by decide) f58 (fun _ h9 => h9) rfl dX10_isCartWell_51 ?_
      refine lv_iload_n hx hb dX10_isCartWell_54 rfl (lv_at hl 1 rfl) ?_
      refine zVI [.int (nI (k))] [.int ((lsC (b_w (gatB y (nI (k)) bz)) (b_n (gatB y (nI (k)) bz)) 0 (nI 0) (nI 0)))] (kX1_leastBySets (a) (y) (b) (rs) (d) ((gatB y (nI (k)) bz)) (IW ct i (xE g) iv (LW ct lb lz (YW ct sa sy (XO x a sa h b d i lb xv (HW ct h ha hz R))))) (nI (k)) (show y_n y ≤ 12 from by omega) (show wB (gatB y (nI (k)) (gatB y (nI (k)) bz)) from (hcw bz k hc).2.2.2.2)) hx hb hml hown hts (cwV 1 hts gX10_isCartWell_X1_leastBySets rfl rfl rfl (by decide +kernel) ⟨(Nat.le_of_ble_eq_true rfl), (Nat.le_of_ble_eq_true rfl)⟩) hK hP hD hS hA (va_recv hK hP (ci := 1) (q0 := 16) rfl rfl) rfl hl.1 rfl (Nat.le_of_ble_eq_true rfl) dX10_isCartWell_55 ⟨(Nat.le_of_ble_eq_true rfl), (Nat.le_of_ble_eq_true rfl)⟩ (fun r_55 _ H locs hr_55 hP hD hS => ?_)
      subst hr_55
      have hP : va_P D vwCl (YW ct a y (KR a b rs (BW ct a d (setB (gatB y (nI (k)) (gatB y (nI (k)) bz))) (IW ct i (xE g) iv (LW ct lb lz (YW ct sa sy (XO x a sa h b d i lb xv (HW ct h ha hz R)))))))) H := hP
      have hD : va_D A (YW ct a y (KR a b rs (BW ct a d (setB (gatB y (nI (k)) (gatB y (nI (k)) bz))) (IW ct i (xE g) iv (LW ct lb lz (YW ct sa sy (XO x a sa h b d i lb xv (HW ct h ha hz R)))))))) := hD
      refine lv_icmp_ne (tgt := 86) hx hb dX10_isCartWell_58 (by decide) (fun c58_3 => ?_) (fun c58_3 => ?_)
      · skip
        exact absurd (hcw bz k hc).2.2.1 c58_3
      · skip
        refine lv_aload_n hx hb dX10_isCartWell_61 rfl (lv_at hl 0 rfl) ?_
        refine va_get (ci := 9) (v := .ref (a 0)) hx hb hts h_X10 hown hK hP 38 rfl rfl 0 (by decide) f10 (fun _ h9 => h9) rfl dX10_isCartWell_62 ?_
        refine lv_iload_n hx hb dX10_isCartWell_65 rfl (lv_at hl 1 rfl) ?_
        refine lv_iconst (v := nI (1)) hx hb dX10_isCartWell_66 (by decide) ?_
        refine zVI [.int (nI (k)), .int (nI (1))] [] (kX9_weightOn (a) (y) (KR a b rs (BW ct a d (setB (gatB y (nI (k)) (gatB y (nI (k)) bz))) (IW ct i (xE g) iv (LW ct lb lz (YW ct sa sy (XO x a sa h b d i lb xv (HW ct h ha hz R))))))) (nI (k)) (nI (1)) (show y_n y ≤ 12 from by omega)) hx hb hml hown hts (cwV 2 hts gX10_isCartWell_X9_weightOn rfl rfl rfl (by decide +kernel) ⟨(Nat.le_of_ble_eq_true rfl), (Nat.le_of_ble_eq_true rfl)⟩) hK hP hD hS hA (va_recv hK hP (ci := 8) (q0 := 0) rfl rfl) rfl hl.1 rfl (Nat.le_of_ble_eq_true rfl) dX10_isCartWell_67 ⟨(Nat.le_of_ble_eq_true rfl), (Nat.le_of_ble_eq_true rfl)⟩ (fun r_67 _ H locs hr_67 hP hD hS => ?_)
        subst hr_67
        have hP : va_P D vwCl (YW ct a y (KR a b rs (BW ct a d (setB (gatB y (nI (k)) (gatB y (nI (k)) bz))) (IW ct i (xE g) iv (LW ct lb lz (YW ct sa sy (XO x a sa h b d i lb xv (HW ct h ha hz R)))))))) H := hP
        have hD : va_D A (YW ct a y (KR a b rs (BW ct a d (setB (gatB y (nI (k)) (gatB y (nI (k)) bz))) (IW ct i (xE g) iv (LW ct lb lz (YW ct sa sy (XO x a sa h b d i lb xv (HW ct h ha hz R)))))))) := hD
        refine lv_aload_n hx hb dX10_isCartWell_70 rfl (lv_at hl 0 rfl) ?_
        refine va_get (ci := 9) (v := .ref (a 0)) hx hb hts h_X10 hown hK hP 38 rfl rfl 0 (by decide) f10 (fun _ h9 => h9) rfl dX10_isCartWell_71 ?_
        refine lv_iload_n hx hb dX10_isCartWell_74 rfl (lv_at hl 1 rfl) ?_
        refine lv_iconst (v := nI (0)) hx hb dX10_isCartWell_75 (by decide) ?_
        refine zVI [.int (nI (k)), .int (nI (0))] [.int ((t_wo y (nI (k)) (nI (1))))] (kX9_weightOn (a) (y) (KR a b rs (BW ct a d (setB (gatB y (nI (k)) (gatB y (nI (k)) bz))) (IW ct i (xE g) iv (LW ct lb lz (YW ct sa sy (XO x a sa h b d i lb xv (HW ct h ha hz R))))))) (nI (k)) (nI (0)) (show y_n y ≤ 12 from by omega)) hx hb hml hown hts (cwV 2 hts gX10_isCartWell_X9_weightOn rfl rfl rfl (by decide +kernel) ⟨(Nat.le_of_ble_eq_true rfl), (Nat.le_of_ble_eq_true rfl)⟩) hK hP hD hS hA (va_recv hK hP (ci := 8) (q0 := 0) rfl rfl) rfl hl.1 rfl (Nat.le_of_ble_eq_true rfl) dX10_isCartWell_76 ⟨(Nat.le_of_ble_eq_true rfl), (Nat.le_of_ble_eq_true rfl)⟩ (fun r_76 _ H locs hr_76 hP hD hS => ?_)
        subst hr_76
        have hP : va_P D vwCl (YW ct a y (KR a b rs (BW ct a d (setB (gatB y (nI (k)) (gatB y (nI (k)) bz))) (IW ct i (xE g) iv (LW ct lb lz (YW ct sa sy (XO x a sa h b d i lb xv (HW ct h ha hz R)))))))) H := hP
        have hD : va_D A (YW ct a y (KR a b rs (BW ct a d (setB (gatB y (nI (k)) (gatB y (nI (k)) bz))) (IW ct i (xE g) iv (LW ct lb lz (YW ct sa sy (XO x a sa h b d i lb xv (HW ct h ha hz R)))))))) := hD
        refine lv_icmp_gt (tgt := 86) hx hb dX10_isCartWell_79 (by decide) (fun c79_4 => ?_) (fun c79_4 => ?_)
        · skip
          exact absurd c79_4 (hcw bz k hc).2.2.2.1
        · skip
          refine lv_iconst (v := nI (1)) hx hb dX10_isCartWell_82 (by decide) ?_
          refine lv_goto (tgt := 87) hx hb dX10_isCartWell_83 (by decide) ?_
          exact zZret () (by decide) hx hb hr hlocks hK hP hD hS dX10_isCartWell_87 (show nI (1) = nI (1) from rfl)
abbrev rmX10_isAnyThingTwice : Room := { frames := 1, cells := 0, slots := 0, locals := 23 }
theorem in_X10_isAnyThingTwice_X10 : ∀ w ∈ u_ws RX10 TX10 12, w ∈ wsX10_isAnyThingTwice := by decide +kernel
theorem in_X10_isAnyThingTwice_X9 : ∀ w ∈ u_ws RX9 TX9 16, w ∈ wsX10_isAnyThingTwice := by decide +kernel
set_option maxHeartbeats 4000000 in
set_option maxRecDepth 100000 in
theorem kX10_isAnyThingTwice {D : va_G} {g : XG} {ct : Nat → ClassId} {l : Launch} (a : Nat → Nat) (y : YS) (b : Nat → Nat) (rs : RS) (d : Nat → Nat) (bz : BS) (i : Nat → Nat) (iv : IS) (lb : Nat → Nat) (lz : LST) (sa : Nat → Nat) (sy : YS) (x : Nat → Nat) (xv : Int32 × Int32) (h : Nat → Nat) (ha : Nat → Nat → Nat) (hz : HS) (R : va_W)  (hy : yI y) (hf : yF y) : MX D ct g l yX10_isAnyThingTwice wsX10_isAnyThingTwice rmX10_isAnyThingTwice (YW ct a y (KR a b rs (BW ct a d bz (IW ct i (xE g) iv (LW ct lb lz (YW ct sa sy (XO x a sa h b d i lb xv (HW ct h ha hz R)))))))) [.ref (x 0)] (QI D ct (fun r0 (_ : Unit) => r0 = nI (0)) (fun _ : Unit => YW ct a y (KR a b rs (BW ct a d bz (IW ct i (xE g) iv (LW ct lb lz (YW ct sa sy (XO x a sa h b d i lb xv (HW ct h ha hz R))))))))) := by
  refine MXof (cc := cX10_isAnyThingTwice) (maxL := 5) (ret := (some .boolean)) (by decide) rfl (Nat.le_of_ble_eq_true rfl) ?_
  intro p e s m args below meth c A H locs F hP hK hD hS hA hX ls hl
  obtain ⟨hx, hb, hr, hlocks, hml, hown, hts, hin⟩ := F
  have hl : lv_has ls 5 [(0, .ref (x 0))] := hl
  have hkd : ∀ j9, j9 < y_n y → y_kd y j9 = nI 0 ∨ y_kd y j9 = nI 1 := fun j9 hj9 => (hy.2.2.2.1 j9 hj9).1
  have hn : y_n y ≤ 12 := hy.1
  have hcn : y_cn y ≤ 4 := hy.2.1
  have hrn : y_rn y ≤ 5 := hy.2.2.1
  have h_X10 := in_X10_isAnyThingTwice_X10
  have h_X9 := in_X10_isAnyThingTwice_X9
  have f10 := hts (.fieldLink RX10 10 "CartArguments" "yard" "LCartArguments$Yard;") (by decide +kernel)
  have f312 := hts (.fieldLink RX10 312 "CartArguments$Yard" "carts" "I") (by decide +kernel)
  refine lv_iconst (v := nI (0)) hx hb dX10_isAnyThingTwice_0 (by decide) ?_
  refine lv_istore_n (lv' := [(1, .int (nI (0))), (0, .ref (x 0))]) hx hb dX10_isAnyThingTwice_1 rfl hl (by decide) rfl (fun ls hl => ?_)
  refine lv_iconst (v := nI (0)) hx hb dX10_isAnyThingTwice_2 (by decide) ?_
  refine lv_istore_n (lv' := [(2, .int (nI (0))), (1, .int (nI (0))), (0, .ref (x 0))]) hx hb dX10_isAnyThingTwice_3 rfl hl (by decide) rfl (fun ls hl => ?_)
  have lp4 : ∀ (fu : Nat) (c7 : Nat) (s7 : Nat) (H : Heap) (locs : List Loc) (ls : Array Slot), (c7 ≤ y_cn y) → (seenP y s7 c7 0) → y_cn y - c7 < fu → va_P D vwCl (YW ct a y (KR a b rs (BW ct a d bz (IW ct i (xE g) iv (LW ct lb lz (YW ct sa sy (XO x a sa h b d i lb xv (HW ct h ha hz R)))))))) H → va_D A (YW ct a y (KR a b rs (BW ct a d bz (IW ct i (xE g) iv (LW ct lb lz (YW ct sa sy (XO x a sa h b d i lb xv (HW ct h ha hz R)))))))) → va_S A s.heap H locs → lv_has ls 5 [(0, .ref (x 0)), (1, .int (nI (s7))), (2, .int (nI (c7)))] → W p l e rmX10_isAnyThingTwice s m args below meth c H locs 0 0 (MQ below (va_Qi (fun r0 (_ : Unit) => r0 = nI (0)) (zB D ct A (fun _ : Unit => YW ct a y (KR a b rs (BW ct a d bz (IW ct i (xE g) iv (LW ct lb lz (YW ct sa sy (XO x a sa h b d i lb xv (HW ct h ha hz R))))))))) A) args s rmX10_isAnyThingTwice.cells rmX10_isAnyThingTwice.slots A) (F0 m 4 ls []) := by
    intro fu
    induction fu with
    | zero => intro c7 s7 H locs ls hc7 hseen hfu; exact absurd hfu (Nat.not_lt_zero _)
    | succ fu ih4 =>
      intro c7 s7 H locs ls hc7 hseen hfu hP hD hS hl
      refine lv_iload_n hx hb dX10_isAnyThingTwice_4 rfl (lv_at hl 2 rfl) ?_
      refine lv_aload_n hx hb dX10_isAnyThingTwice_5 rfl (lv_at hl 0 rfl) ?_
      refine va_get (ci := 9) (v := .ref (a 0)) hx hb hts h_X10 hown hK hP 38 rfl rfl 0 (by decide) f10 (fun _ h9 => h9) rfl dX10_isAnyThingTwice_6 ?_
      refine va_get (ci := 8) (v := .int (nI (y_cn y))) hx hb hts h_X9 hown hK hP 0 rfl rfl 5 (by decide) f312 (fun _ h9 => h9) rfl dX10_isAnyThingTwice_9 ?_
      refine zN_icmp_ge (tgt := 71) hx hb (by omega) (by omega) dX10_isAnyThingTwice_12 (by decide) (fun c12_1 => ?_) (fun c12_1 => ?_)
      · skip
        refine lv_iconst (v := nI (0)) hx hb dX10_isAnyThingTwice_71 (by decide) ?_
        exact zZret () (by decide) hx hb hr hlocks hK hP hD hS dX10_isAnyThingTwice_72 (show nI (0) = nI (0) from rfl)
      · skip
        refine lv_iconst (v := nI (0)) hx hb dX10_isAnyThingTwice_15 (by decide) ?_
        refine lv_istore_n (lv' := [(3, .int (nI (0))), (0, .ref (x 0)), (1, .int (nI (s7))), (2, .int (nI (c7)))]) hx hb dX10_isAnyThingTwice_16 rfl hl (by decide) rfl (fun ls hl => ?_)
        have lp17 : ∀ (fu : Nat) (p7 : Nat) (s7 : Nat) (H : Heap) (locs : List Loc) (ls : Array Slot), (p7 ≤ 7) → (seenP y s7 c7 p7) → 7 - p7 < fu → va_P D vwCl (YW ct a y (KR a b rs (BW ct a d bz (IW ct i (xE g) iv (LW ct lb lz (YW ct sa sy (XO x a sa h b d i lb xv (HW ct h ha hz R)))))))) H → va_D A (YW ct a y (KR a b rs (BW ct a d bz (IW ct i (xE g) iv (LW ct lb lz (YW ct sa sy (XO x a sa h b d i lb xv (HW ct h ha hz R)))))))) → va_S A s.heap H locs → lv_has ls 5 [(0, .ref (x 0)), (1, .int (nI (s7))), (2, .int (nI (c7))), (3, .int (nI (p7)))] → W p l e rmX10_isAnyThingTwice s m args below meth c H locs 0 0 (MQ below (va_Qi (fun r0 (_ : Unit) => r0 = nI (0)) (zB D ct A (fun _ : Unit => YW ct a y (KR a b rs (BW ct a d bz (IW ct i (xE g) iv (LW ct lb lz (YW ct sa sy (XO x a sa h b d i lb xv (HW ct h ha hz R))))))))) A) args s rmX10_isAnyThingTwice.cells rmX10_isAnyThingTwice.slots A) (F0 m 17 ls []) := by
          intro fu
          induction fu with
          | zero => intro p7 s7 H locs ls hp7 hseen hfu; exact absurd hfu (Nat.not_lt_zero _)
          | succ fu ih17 =>
            intro p7 s7 H locs ls hp7 hseen hfu hP hD hS hl
            refine lv_iload_n hx hb dX10_isAnyThingTwice_17 rfl (lv_at hl 3 rfl) ?_
            refine lv_bipush (v := nI (6)) hx hb dX10_isAnyThingTwice_18 (by decide) ?_
            refine zN_icmp_gt (tgt := 65) hx hb (by omega) (by omega) dX10_isAnyThingTwice_20 (by decide) (fun c20_2 => ?_) (fun c20_2 => ?_)
            · skip
              refine lv_iinc (v := nI ((c7 + 1))) (lv' := [(2, .int (nI ((c7 + 1)))), (0, .ref (x 0)), (1, .int (nI (s7))), (3, .int (nI (p7)))]) hx hb dX10_isAnyThingTwice_65 hl (k := 2) rfl (zInc _) (by decide) rfl (fun ls hl => ?_)
              refine lv_goto (tgt := 4) hx hb dX10_isAnyThingTwice_68 (by decide) ?_
              exact ih4 ((c7 + 1)) (s7) H locs ls (by omega) (seen_c (by rw [show p7 = 7 by omega] at hseen; exact hseen)) (by omega) hP hD hS (lv_sub hl [1, 2, 0] rfl)
            · skip
              refine lv_aload_n hx hb dX10_isAnyThingTwice_23 rfl (lv_at hl 0 rfl) ?_
              refine va_get (ci := 9) (v := .ref (a 0)) hx hb hts h_X10 hown hK hP 38 rfl rfl 0 (by decide) f10 (fun _ h9 => h9) rfl dX10_isAnyThingTwice_24 ?_
              refine lv_iload_n hx hb dX10_isAnyThingTwice_27 rfl (lv_at hl 2 rfl) ?_
              refine lv_iload_n hx hb dX10_isAnyThingTwice_28 rfl (lv_at hl 3 rfl) ?_
              refine zVI [.int (nI (c7)), .int (nI (p7))] [] (kX9_thingAt (a) (y) (KR a b rs (BW ct a d bz (IW ct i (xE g) iv (LW ct lb lz (YW ct sa sy (XO x a sa h b d i lb xv (HW ct h ha hz R))))))) (nI (c7)) (nI (p7)) (show y_n y ≤ 12 from by omega)) hx hb hml hown hts (cwV 2 hts gX10_isAnyThingTwice_X9_thingAt rfl rfl rfl (by decide +kernel) ⟨(Nat.le_of_ble_eq_true rfl), (Nat.le_of_ble_eq_true rfl)⟩) hK hP hD hS hA (va_recv hK hP (ci := 8) (q0 := 0) rfl rfl) rfl hl.1 rfl (Nat.le_of_ble_eq_true rfl) dX10_isAnyThingTwice_29 ⟨(Nat.le_of_ble_eq_true rfl), (Nat.le_of_ble_eq_true rfl)⟩ (fun r_29 _ H locs hr_29 hP hD hS => ?_)
              subst hr_29
              have hP : va_P D vwCl (YW ct a y (KR a b rs (BW ct a d bz (IW ct i (xE g) iv (LW ct lb lz (YW ct sa sy (XO x a sa h b d i lb xv (HW ct h ha hz R)))))))) H := hP
              have hD : va_D A (YW ct a y (KR a b rs (BW ct a d bz (IW ct i (xE g) iv (LW ct lb lz (YW ct sa sy (XO x a sa h b d i lb xv (HW ct h ha hz R)))))))) := hD
              refine lv_istore (lv' := [(4, .int ((t_at y (nI (c7)) (nI (p7))))), (0, .ref (x 0)), (1, .int (nI (s7))), (2, .int (nI (c7))), (3, .int (nI (p7)))]) hx hb dX10_isAnyThingTwice_32 hl (by decide) rfl (fun ls hl => ?_)
              refine lv_iload hx hb dX10_isAnyThingTwice_34 (lv_at hl 0 rfl) ?_
              refine lv_bipush (v := (-4)) hx hb dX10_isAnyThingTwice_36 (by decide) ?_
              refine lv_icmp_eq (tgt := 59) hx hb dX10_isAnyThingTwice_38 (by decide) (fun c38_3 => ?_) (fun c38_3 => ?_)
              · skip
                refine lv_iinc (v := nI ((p7 + 1))) (lv' := [(3, .int (nI ((p7 + 1)))), (4, .int ((t_at y (nI (c7)) (nI (p7))))), (0, .ref (x 0)), (1, .int (nI (s7))), (2, .int (nI (c7)))]) hx hb dX10_isAnyThingTwice_59 hl (k := 4) rfl (zInc _) (by decide) rfl (fun ls hl => ?_)
                refine lv_goto (tgt := 17) hx hb dX10_isAnyThingTwice_62 (by decide) ?_
                exact ih17 ((p7 + 1)) (s7) H locs ls (by omega) (seen_n hseen) (by omega) hP hD hS (lv_sub hl [2, 3, 4, 0] rfl)
              · skip
                obtain ⟨k7, hk7, ek7⟩ := (at_ex y (nI c7) (nI p7)).resolve_left c38_3
                rw [ek7] at hl
                refine lv_iload_n hx hb dX10_isAnyThingTwice_41 rfl (lv_at hl 2 rfl) ?_
                refine lv_iload hx hb dX10_isAnyThingTwice_42 (lv_at hl 0 rfl) ?_
                refine lv_ishr hx hb dX10_isAnyThingTwice_44 ?_
                refine lv_iconst (v := nI (1)) hx hb dX10_isAnyThingTwice_45 (by decide) ?_
                refine lv_iand hx hb dX10_isAnyThingTwice_46 ?_
                refine lv_if_eq (tgt := 52) hx hb dX10_isAnyThingTwice_47 (by decide) (fun c47_4 => ?_) (fun c47_4 => ?_)
                · skip
                  refine lv_iload_n hx hb dX10_isAnyThingTwice_52 rfl (lv_at hl 2 rfl) ?_
                  refine lv_iconst (v := nI (1)) hx hb dX10_isAnyThingTwice_53 (by decide) ?_
                  refine lv_iload hx hb dX10_isAnyThingTwice_54 (lv_at hl 0 rfl) ?_
                  refine lv_ishl hx hb dX10_isAnyThingTwice_56 ?_
                  refine lv_ior hx hb dX10_isAnyThingTwice_57 ?_
                  refine zTop (y := nI (s7 ||| 2 ^ k7)) (by rw [shl12 (by omega), or_n]) ?_
                  refine lv_istore_n (lv' := [(1, .int (nI (s7 ||| 2 ^ k7))), (4, .int (nI (k7))), (0, .ref (x 0)), (2, .int (nI (c7))), (3, .int (nI (p7)))]) hx hb dX10_isAnyThingTwice_58 rfl hl (by decide) rfl (fun ls hl => ?_)
                  refine lv_iinc (v := nI ((p7 + 1))) (lv' := [(3, .int (nI ((p7 + 1)))), (1, .int (nI (s7 ||| 2 ^ k7))), (4, .int (nI (k7))), (0, .ref (x 0)), (2, .int (nI (c7)))]) hx hb dX10_isAnyThingTwice_59 hl (k := 4) rfl (zInc _) (by decide) rfl (fun ls hl => ?_)
                  refine lv_goto (tgt := 17) hx hb dX10_isAnyThingTwice_62 (by decide) ?_
                  exact ih17 ((p7 + 1)) (s7 ||| 2 ^ k7) H locs ls (by omega) (seen_p hseen hn hk7 (by omega) (by omega) ek7) (by omega) hP hD hS (lv_sub hl [3, 1, 4, 0] rfl)
                · skip
                  exact absurd (seen_no hseen hn hk7 (by omega) (by omega) ek7) c47_4
        exact lp17 ((7 - (0)) + 1) (0) (s7) H locs ls (by omega) hseen (Nat.lt_succ_self _) hP hD hS (lv_sub hl [1, 2, 3, 0] rfl)
  exact lp4 ((y_cn y - (0)) + 1) (0) (0) H locs ls (by omega) (seen_0 y) (Nat.lt_succ_self _) hP hD hS (lv_sub hl [2, 1, 0] rfl)
abbrev rmX10_isWell : Room := { frames := 10, cells := 0, slots := 0, locals := 261 }
theorem in_X10_isWell_X10 : ∀ w ∈ u_ws RX10 TX10 12, w ∈ wsX10_isWell := by decide +kernel
theorem in_X10_isWell_X9 : ∀ w ∈ u_ws RX9 TX9 16, w ∈ wsX10_isWell := by decide +kernel
set_option maxHeartbeats 4000000 in
set_option maxRecDepth 100000 in
theorem kX10_isWell {D : va_G} {g : XG} {ct : Nat → ClassId} {l : Launch} (a : Nat → Nat) (y : YS) (b : Nat → Nat) (rs : RS) (d : Nat → Nat) (bz : BS) (i : Nat → Nat) (iv : IS) (lb : Nat → Nat) (lz : LST) (sa : Nat → Nat) (sy : YS) (x : Nat → Nat) (xv : Int32 × Int32) (h : Nat → Nat) (ha : Nat → Nat → Nat) (hz : HS) (R : va_W)  (hy : yI y) (hf : yF y) (hcw : cwP y) : MX D ct g l yX10_isWell wsX10_isWell rmX10_isWell (YW ct a y (KR a b rs (BW ct a d bz (IW ct i (xE g) iv (LW ct lb lz (YW ct sa sy (XO x a sa h b d i lb xv (HW ct h ha hz R)))))))) [.ref (x 0)] (QI D ct (fun r0 (_ : Unit) => r0 = nI (1)) (fun _ : Unit => YW ct a y (KR a b rs (BW ct a d (bWells y bz (y_cn y)) (IW ct i (xE g) iv (LW ct lb lz (YW ct sa sy (XO x a sa h b d i lb xv (HW ct h ha hz R))))))))) := by
  refine MXof (cc := cX10_isWell) (maxL := 2) (ret := (some .int)) (by decide) rfl (Nat.le_of_ble_eq_true rfl) ?_
  intro p e s m args below meth c A H locs F hP hK hD hS hA hX ls hl
  obtain ⟨hx, hb, hr, hlocks, hml, hown, hts, hin⟩ := F
  have hl : lv_has ls 2 [(0, .ref (x 0))] := hl
  have hkd : ∀ j9, j9 < y_n y → y_kd y j9 = nI 0 ∨ y_kd y j9 = nI 1 := fun j9 hj9 => (hy.2.2.2.1 j9 hj9).1
  have hn : y_n y ≤ 12 := hy.1
  have hcn : y_cn y ≤ 4 := hy.2.1
  have hrn : y_rn y ≤ 5 := hy.2.2.1
  have h_X10 := in_X10_isWell_X10
  have h_X9 := in_X10_isWell_X9
  have f10 := hts (.fieldLink RX10 10 "CartArguments" "yard" "LCartArguments$Yard;") (by decide +kernel)
  have f312 := hts (.fieldLink RX10 312 "CartArguments$Yard" "carts" "I") (by decide +kernel)
  refine lv_iconst (v := nI (0)) hx hb dX10_isWell_0 (by decide) ?_
  refine lv_istore_n (lv' := [(1, .int (nI (0))), (0, .ref (x 0))]) hx hb dX10_isWell_1 rfl hl (by decide) rfl (fun ls hl => ?_)
  have lp2 : ∀ (fu : Nat) (k : Nat) (H : Heap) (locs : List Loc) (ls : Array Slot), (k ≤ y_cn y) → y_cn y - k < fu → va_P D vwCl (YW ct a y (KR a b rs (BW ct a d (bWells y bz k) (IW ct i (xE g) iv (LW ct lb lz (YW ct sa sy (XO x a sa h b d i lb xv (HW ct h ha hz R)))))))) H → va_D A (YW ct a y (KR a b rs (BW ct a d (bWells y bz k) (IW ct i (xE g) iv (LW ct lb lz (YW ct sa sy (XO x a sa h b d i lb xv (HW ct h ha hz R)))))))) → va_S A s.heap H locs → lv_has ls 2 [(0, .ref (x 0)), (1, .int (nI (k)))] → W p l e rmX10_isWell s m args below meth c H locs 0 0 (MQ below (va_Qi (fun r0 (_ : Unit) => r0 = nI (1)) (zB D ct A (fun _ : Unit => YW ct a y (KR a b rs (BW ct a d (bWells y bz (y_cn y)) (IW ct i (xE g) iv (LW ct lb lz (YW ct sa sy (XO x a sa h b d i lb xv (HW ct h ha hz R))))))))) A) args s rmX10_isWell.cells rmX10_isWell.slots A) (F0 m 2 ls []) := by
    intro fu
    induction fu with
    | zero => intro k H locs ls hk hfu; exact absurd hfu (Nat.not_lt_zero _)
    | succ fu ih2 =>
      intro k H locs ls hk hfu hP hD hS hl
      refine lv_iload_n hx hb dX10_isWell_2 rfl (lv_at hl 1 rfl) ?_
      refine lv_aload_n hx hb dX10_isWell_3 rfl (lv_at hl 0 rfl) ?_
      refine va_get (ci := 9) (v := .ref (a 0)) hx hb hts h_X10 hown hK hP 38 rfl rfl 0 (by decide) f10 (fun _ h9 => h9) rfl dX10_isWell_4 ?_
      refine va_get (ci := 8) (v := .int (nI (y_cn y))) hx hb hts h_X9 hown hK hP 0 rfl rfl 5 (by decide) f312 (fun _ h9 => h9) rfl dX10_isWell_7 ?_
      refine zN_icmp_ge (tgt := 29) hx hb (by omega) (by omega) dX10_isWell_10 (by decide) (fun c10_1 => ?_) (fun c10_1 => ?_)
      · skip
        obtain rfl : k = y_cn y := by omega
        refine lv_aload_n hx hb dX10_isWell_29 rfl (lv_at hl 0 rfl) ?_
        refine zVIX [] [] (kX10_isAnyThingTwice (a) (y) (b) (rs) (d) ((bWells y bz (y_cn y))) (i) (iv) (lb) (lz) (sa) (sy) (x) (xv) (h) (ha) (hz) (R) (show yI y from hy) (show yF y from hf)) hx hb hml hown hts (cwV 0 hts gX10_isWell_X10_isAnyThingTwice rfl rfl rfl (by decide +kernel) ⟨(Nat.le_of_ble_eq_true rfl), (Nat.le_of_ble_eq_true rfl)⟩) hK hP hD hS hA hX (va_recv hK hP (ci := 9) (q0 := 38) rfl rfl) rfl hl.1 rfl (Nat.le_of_ble_eq_true rfl) dX10_isWell_30 ⟨(Nat.le_of_ble_eq_true rfl), (Nat.le_of_ble_eq_true rfl)⟩ (fun r_30 _ H locs hr_30 hP hD hS => ?_)
        subst hr_30
        have hP : va_P D vwCl (YW ct a y (KR a b rs (BW ct a d (bWells y bz (y_cn y)) (IW ct i (xE g) iv (LW ct lb lz (YW ct sa sy (XO x a sa h b d i lb xv (HW ct h ha hz R)))))))) H := hP
        have hD : va_D A (YW ct a y (KR a b rs (BW ct a d (bWells y bz (y_cn y)) (IW ct i (xE g) iv (LW ct lb lz (YW ct sa sy (XO x a sa h b d i lb xv (HW ct h ha hz R)))))))) := hD
        refine lv_if_eq (tgt := 40) hx hb dX10_isWell_33 (by decide) (fun c9 => ?_) (fun c9 => absurd (by decide) c9)
        refine lv_iconst (v := nI (1)) hx hb dX10_isWell_40 (by decide) ?_
        exact zIret () hx hb hr hlocks hK hP hD hS dX10_isWell_41 (show nI (1) = nI (1) from rfl)
      · skip
        refine lv_aload_n hx hb dX10_isWell_13 rfl (lv_at hl 0 rfl) ?_
        refine lv_iload_n hx hb dX10_isWell_14 rfl (lv_at hl 1 rfl) ?_
        refine zVIX [.int (nI (k))] [] (kX10_isCartWell (a) (y) (b) (rs) (d) ((bWells y bz k)) (i) (iv) (lb) (lz) (sa) (sy) (x) (xv) (h) (ha) (hz) (R) (k) (show yI y from hy) (show yF y from hf) (show cwP y from hcw) (show (k) < y_cn y from (by omega))) hx hb hml hown hts (cwV 1 hts gX10_isWell_X10_isCartWell rfl rfl rfl (by decide +kernel) ⟨(Nat.le_of_ble_eq_true rfl), (Nat.le_of_ble_eq_true rfl)⟩) hK hP hD hS hA hX (va_recv hK hP (ci := 9) (q0 := 38) rfl rfl) rfl hl.1 rfl (Nat.le_of_ble_eq_true rfl) dX10_isWell_15 ⟨(Nat.le_of_ble_eq_true rfl), (Nat.le_of_ble_eq_true rfl)⟩ (fun r_15 _ H locs hr_15 hP hD hS => ?_)
        subst hr_15
        have hP : va_P D vwCl (YW ct a y (KR a b rs (BW ct a d (bWell y (bWells y bz k) (k)) (IW ct i (xE g) iv (LW ct lb lz (YW ct sa sy (XO x a sa h b d i lb xv (HW ct h ha hz R)))))))) H := hP
        have hD : va_D A (YW ct a y (KR a b rs (BW ct a d (bWell y (bWells y bz k) (k)) (IW ct i (xE g) iv (LW ct lb lz (YW ct sa sy (XO x a sa h b d i lb xv (HW ct h ha hz R)))))))) := hD
        refine lv_if_ne (tgt := 23) hx hb dX10_isWell_18 (by decide) (fun c9 => ?_) (fun c9 => absurd c9 (by decide))
        refine lv_iinc (v := nI ((k + 1))) (lv' := [(1, .int (nI ((k + 1)))), (0, .ref (x 0))]) hx hb dX10_isWell_23 hl (k := 1) rfl (zInc _) (by decide) rfl (fun ls hl => ?_)
        refine lv_goto (tgt := 2) hx hb dX10_isWell_26 (by decide) ?_
        exact ih2 ((k + 1)) H locs ls (by omega) (by omega) hP hD hS (lv_sub hl [1, 0] rfl)
  have hP : va_P D vwCl (YW ct a y (KR a b rs (BW ct a d (bWells y bz (0)) (IW ct i (xE g) iv (LW ct lb lz (YW ct sa sy (XO x a sa h b d i lb xv (HW ct h ha hz R)))))))) H := by rw [show bWells y bz 0 = bz from rfl]; exact hP
  have hD : va_D A (YW ct a y (KR a b rs (BW ct a d (bWells y bz (0)) (IW ct i (xE g) iv (LW ct lb lz (YW ct sa sy (XO x a sa h b d i lb xv (HW ct h ha hz R)))))))) := by rw [show bWells y bz 0 = bz from rfl]; exact hD
  exact lp2 ((y_cn y - (0)) + 1) (0) H locs ls (by omega) (Nat.lt_succ_self _) hP hD hS (lv_sub hl [1, 0] rfl)
