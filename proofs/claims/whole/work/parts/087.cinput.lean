/-! THE CLASS: its input -/
abbrev rmX4_add : Room := { frames := 0, cells := 0, slots := 0, locals := 0 }
theorem in_X4_add_X4 : ∀ w ∈ u_ws RX4 TX4 5, w ∈ wsX4_add := by decide +kernel
set_option maxHeartbeats 4000000 in
set_option maxRecDepth 100000 in
theorem kX4_add {D : va_G} {ct : Nat → ClassId} {l : Launch} (i : Nat → Nat) (ee : Nat → Nat) (iv : IS) (R : va_W) (x1 : Int32) (hn60 : i_n iv ≤ 60) : MI D ct l yX4_add wsX4_add rmX4_add (IW ct i ee iv R) [.ref (i 0), .int (x1)] (fun r0 (_ : Unit) => r0 = (F_iadd iv x1).1) (fun _ : Unit => IW ct i ee ((F_iadd iv x1).2) R) := by
  refine MIof (cc := cX4_add) (maxL := 2) (ret := (some .int)) (by decide) rfl (Nat.le_of_ble_eq_true rfl) ?_
  intro p e s m args below meth c A H locs F hP hK hD hS hA ls hl
  obtain ⟨hx, hb, hr, hlocks, hml, hown, hts, hin⟩ := F
  have hl : lv_has ls 2 [(0, .ref (i 0)), (1, .int (x1))] := hl
  have h_X4 := in_X4_add_X4
  have f9 := hts (.fieldLink RX4 9 "CartArguments$Input" "signs" "[C") (by decide +kernel)
  have f28 := hts (.fieldLink RX4 28 "CartArguments$Input" "length" "I") (by decide +kernel)
  refine lv_iload_n hx hb dX4_add_0 rfl (lv_at hl 1 rfl) ?_
  refine lv_bipush (v := nI (32)) hx hb dX4_add_1 (by decide) ?_
  refine lv_icmp_lt (tgt := 21) hx hb dX4_add_3 (by decide) (fun c3_1 => ?_) (fun c3_1 => ?_)
  · skip
    refine lv_bipush (v := (-2)) hx hb dX4_add_21 (by decide) ?_
    have e9 : F_iadd iv x1 = ((-2), iv) := (by simp only [F_iadd, F_iadd, c3_1, p_in, p_worn, p_wi, p_creak, p_le0, p_lt1, p_rng, not_true_eq_false, not_false_eq_true, if_true, if_false, and_true, true_and, and_false, false_and, or_true, true_or, or_false, false_or, and_self, or_self, iff_true, true_iff, iff_false, false_iff, decide_eq_true_eq, decide_true, decide_false, Int32.add_zero, Nat.add_zero, ne_eq, Bool.false_eq_true, eq_self])
    exact zIret () hx hb hr hlocks hK (by show va_P D vwCl (IW ct i ee ((F_iadd iv x1).2) R) H; rw [e9]; exact hP) (by show va_D A (IW ct i ee ((F_iadd iv x1).2) R); rw [e9]; exact hD) hS dX4_add_23 (show (-2) = (F_iadd iv x1).1 from (by rw [e9]))
  · skip
    refine lv_iload_n hx hb dX4_add_6 rfl (lv_at hl 1 rfl) ?_
    refine lv_bipush (v := nI (126)) hx hb dX4_add_7 (by decide) ?_
    refine lv_icmp_gt (tgt := 21) hx hb dX4_add_9 (by decide) (fun c9_2 => ?_) (fun c9_2 => ?_)
    · skip
      refine lv_bipush (v := (-2)) hx hb dX4_add_21 (by decide) ?_
      have e9 : F_iadd iv x1 = ((-2), iv) := (by simp only [F_iadd, F_iadd, c3_1, c9_2, p_in, p_worn, p_wi, p_creak, p_le0, p_lt1, p_rng, not_true_eq_false, not_false_eq_true, if_true, if_false, and_true, true_and, and_false, false_and, or_true, true_or, or_false, false_or, and_self, or_self, iff_true, true_iff, iff_false, false_iff, decide_eq_true_eq, decide_true, decide_false, Int32.add_zero, Nat.add_zero, ne_eq, Bool.false_eq_true, eq_self])
      exact zIret () hx hb hr hlocks hK (by show va_P D vwCl (IW ct i ee ((F_iadd iv x1).2) R) H; rw [e9]; exact hP) (by show va_D A (IW ct i ee ((F_iadd iv x1).2) R); rw [e9]; exact hD) hS dX4_add_23 (show (-2) = (F_iadd iv x1).1 from (by rw [e9]))
    · skip
      refine lv_aload_n hx hb dX4_add_12 rfl (lv_at hl 0 rfl) ?_
      refine va_get (ci := 3) (v := .int (nI (i_n iv))) hx hb hts h_X4 hown hK hP 0 rfl rfl 1 (by decide) f28 (fun _ h9 => h9) rfl dX4_add_13 ?_
      refine lv_bipush (v := nI (60)) hx hb dX4_add_16 (by decide) ?_
      refine zN_icmp_lt (tgt := 24) hx hb (by omega) (by omega) dX4_add_18 (by decide) (fun c18_3 => ?_) (fun c18_3 => ?_)
      · skip
        have h60 : ¬ 60 ≤ i_n iv := by omega
        obtain ⟨k1, hk1, ek1⟩ := rng_ex (a := 32) (b := 126) (by decide) (by decide) ⟨c3_1, c9_2⟩
        subst ek1
        have hnar := narC (c := k1) (by omega)
        refine lv_aload_n hx hb dX4_add_24 rfl (lv_at hl 0 rfl) ?_
        refine va_get (ci := 3) (v := .ref (i 1)) hx hb hts h_X4 hown hK hP 0 rfl rfl 0 (by decide) f9 (fun _ h9 => h9) rfl dX4_add_25 ?_
        refine lv_aload_n hx hb dX4_add_28 rfl (lv_at hl 0 rfl) ?_
        refine va_get (ci := 3) (v := .int (nI (i_n iv))) hx hb hts h_X4 hown hK hP 0 rfl rfl 1 (by decide) f28 (fun _ h9 => h9) rfl dX4_add_29 ?_
        refine lv_iload_n hx hb dX4_add_32 rfl (lv_at hl 1 rfl) ?_
        refine zCast (n := 60) (f := i_sg iv) (i := i_n iv) hx hb hK hP hD hS 1 rfl (by omega) (by decide) dX4_add_33 (fun H locs hP hD hS => ?_)
        have hP : va_P D vwCl (IW ct i ee ((upd (i_sg iv) (i_n iv) (vp_nar .char (nI (k1)))), i_n iv, i_cm iv, i_nu iv, i_st iv) R) H := hP
        have hD : va_D A (IW ct i ee ((upd (i_sg iv) (i_n iv) (vp_nar .char (nI (k1)))), i_n iv, i_cm iv, i_nu iv, i_st iv) R) := hD
        refine lv_aload_n hx hb dX4_add_34 rfl (lv_at hl 0 rfl) ?_
        refine lv_dup hx hb dX4_add_35 rfl ?_
        refine va_get (ci := 3) (v := .int (nI (i_n iv))) hx hb hts h_X4 hown hK hP 0 rfl rfl 1 (by decide) f28 (fun _ h9 => h9) rfl dX4_add_36 ?_
        refine lv_iconst (v := nI (1)) hx hb dX4_add_39 (by decide) ?_
        refine zNadd hx hb dX4_add_40 ?_
        refine va_put (ci := 3) (v := .int (nI ((i_n iv + 1)))) (ty := .int) hx hb hts h_X4 tyX4 tyX4_ok nmX4 hown hK hP hD hS 0 rfl rfl 1 (by decide) f28 (fun _ h9 => h9) rfl (by decide +kernel) rfl rfl (Nat.le_of_ble_eq_true rfl) dX4_add_41 (fun H locs hP hD hS => ?_)
        have hP : va_P D vwCl (IW ct i ee ((upd (i_sg iv) (i_n iv) (vp_nar .char (nI (k1)))), (i_n iv + 1), i_cm iv, i_nu iv, i_st iv) R) H := hP
        have hD : va_D A (IW ct i ee ((upd (i_sg iv) (i_n iv) (vp_nar .char (nI (k1)))), (i_n iv + 1), i_cm iv, i_nu iv, i_st iv) R) := hD
        refine lv_aload_n hx hb dX4_add_44 rfl (lv_at hl 0 rfl) ?_
        refine va_get (ci := 3) (v := .int (nI ((i_n iv + 1)))) hx hb hts h_X4 hown hK hP 0 rfl rfl 1 (by decide) f28 (fun _ h9 => h9) rfl dX4_add_45 ?_
        have e9 : F_iadd iv (nI k1) = (nI ((i_n iv + 1)), ((upd (i_sg iv) (i_n iv) (vp_nar .char (nI (k1)))), (i_n iv + 1), i_cm iv, i_nu iv, i_st iv)) := (by simp only [F_iadd, F_iadd, c3_1, c9_2, c18_3, h60, hnar, p_in, p_worn, p_wi, p_creak, p_le0, p_lt1, p_rng, not_true_eq_false, not_false_eq_true, if_true, if_false, and_true, true_and, and_false, false_and, or_true, true_or, or_false, false_or, and_self, or_self, iff_true, true_iff, iff_false, false_iff, decide_eq_true_eq, decide_true, decide_false, Int32.add_zero, Nat.add_zero, ne_eq, Bool.false_eq_true, eq_self])
        exact zIret () hx hb hr hlocks hK (by show va_P D vwCl (IW ct i ee ((F_iadd iv (nI k1)).2) R) H; rw [e9]; exact hP) (by show va_D A (IW ct i ee ((F_iadd iv (nI k1)).2) R); rw [e9]; exact hD) hS dX4_add_48 (show nI ((i_n iv + 1)) = (F_iadd iv (nI k1)).1 from (by rw [e9]))
      · skip
        have h60 : 60 ≤ i_n iv := by omega
        refine lv_bipush (v := (-2)) hx hb dX4_add_21 (by decide) ?_
        have e9 : F_iadd iv x1 = ((-2), iv) := (by simp only [F_iadd, F_iadd, c3_1, c9_2, c18_3, h60, p_in, p_worn, p_wi, p_creak, p_le0, p_lt1, p_rng, not_true_eq_false, not_false_eq_true, if_true, if_false, and_true, true_and, and_false, false_and, or_true, true_or, or_false, false_or, and_self, or_self, iff_true, true_iff, iff_false, false_iff, decide_eq_true_eq, decide_true, decide_false, Int32.add_zero, Nat.add_zero, ne_eq, Bool.false_eq_true, eq_self])
        exact zIret () hx hb hr hlocks hK (by show va_P D vwCl (IW ct i ee ((F_iadd iv x1).2) R) H; rw [e9]; exact hP) (by show va_D A (IW ct i ee ((F_iadd iv x1).2) R); rw [e9]; exact hD) hS dX4_add_23 (show (-2) = (F_iadd iv x1).1 from (by rw [e9]))
abbrev rmX4_makeEmpty : Room := { frames := 0, cells := 0, slots := 0, locals := 0 }
theorem in_X4_makeEmpty_X4 : ∀ w ∈ u_ws RX4 TX4 5, w ∈ wsX4_makeEmpty := by decide +kernel
set_option maxHeartbeats 4000000 in
set_option maxRecDepth 100000 in
theorem kX4_makeEmpty {D : va_G} {ct : Nat → ClassId} {l : Launch} (i : Nat → Nat) (ee : Nat → Nat) (iv : IS) (R : va_W)  : MV D ct l yX4_makeEmpty wsX4_makeEmpty rmX4_makeEmpty (IW ct i ee iv R) [.ref (i 0)] (fun _ : Unit => True) (fun _ : Unit => IW ct i ee (i_sg iv, 0, i_cm iv, i_nu iv, i_st iv) R) := by
  refine MVof (cc := cX4_makeEmpty) (maxL := 1) (ret := none) (by decide) rfl (Nat.le_of_ble_eq_true rfl) ?_
  intro p e s m args below meth c A H locs F hP hK hD hS hA ls hl
  obtain ⟨hx, hb, hr, hlocks, hml, hown, hts, hin⟩ := F
  have hl : lv_has ls 1 [(0, .ref (i 0))] := hl
  have h_X4 := in_X4_makeEmpty_X4
  have f28 := hts (.fieldLink RX4 28 "CartArguments$Input" "length" "I") (by decide +kernel)
  refine lv_aload_n hx hb dX4_makeEmpty_0 rfl (lv_at hl 0 rfl) ?_
  refine lv_iconst (v := nI (0)) hx hb dX4_makeEmpty_1 (by decide) ?_
  refine va_put (ci := 3) (v := .int (nI (0))) (ty := .int) hx hb hts h_X4 tyX4 tyX4_ok nmX4 hown hK hP hD hS 0 rfl rfl 1 (by decide) f28 (fun _ h9 => h9) rfl (by decide +kernel) rfl rfl (Nat.le_of_ble_eq_true rfl) dX4_makeEmpty_2 (fun H locs hP hD hS => ?_)
  have hP : va_P D vwCl (IW ct i ee (i_sg iv, 0, i_cm iv, i_nu iv, i_st iv) R) H := hP
  have hD : va_D A (IW ct i ee (i_sg iv, 0, i_cm iv, i_nu iv, i_st iv) R) := hD
  exact zVret () hx hb hr hlocks hK hP hD hS dX4_makeEmpty_5 trivial
abbrev rmX4_signAt : Room := { frames := 0, cells := 0, slots := 0, locals := 0 }
theorem in_X4_signAt_X4 : ∀ w ∈ u_ws RX4 TX4 5, w ∈ wsX4_signAt := by decide +kernel
set_option maxHeartbeats 4000000 in
set_option maxRecDepth 100000 in
theorem kX4_signAt {D : va_G} {ct : Nat → ClassId} {l : Launch} (i : Nat → Nat) (ee : Nat → Nat) (iv : IS) (R : va_W) (k : Nat) (hn60 : i_n iv ≤ 60) (hk : k < 2 ^ 31) : MI D ct l yX4_signAt wsX4_signAt rmX4_signAt (IW ct i ee iv R) [.ref (i 0), .int (nI (k))] (fun r0 (_ : Unit) => r0 = isg iv k) (fun _ : Unit => IW ct i ee iv R) := by
  refine MIof (cc := cX4_signAt) (maxL := 2) (ret := (some .int)) (by decide) rfl (Nat.le_of_ble_eq_true rfl) ?_
  intro p e s m args below meth c A H locs F hP hK hD hS hA ls hl
  obtain ⟨hx, hb, hr, hlocks, hml, hown, hts, hin⟩ := F
  have hl : lv_has ls 2 [(0, .ref (i 0)), (1, .int (nI (k)))] := hl
  have h_X4 := in_X4_signAt_X4
  have f9 := hts (.fieldLink RX4 9 "CartArguments$Input" "signs" "[C") (by decide +kernel)
  have f28 := hts (.fieldLink RX4 28 "CartArguments$Input" "length" "I") (by decide +kernel)
  refine lv_iload_n hx hb dX4_signAt_0 rfl (lv_at hl 1 rfl) ?_
  refine zN_if_lt (tgt := 21) hx hb (by omega) dX4_signAt_1 (by decide) ?_
  refine lv_iload_n hx hb dX4_signAt_4 rfl (lv_at hl 1 rfl) ?_
  refine lv_aload_n hx hb dX4_signAt_5 rfl (lv_at hl 0 rfl) ?_
  refine va_get (ci := 3) (v := .int (nI (i_n iv))) hx hb hts h_X4 hown hK hP 0 rfl rfl 1 (by decide) f28 (fun _ h9 => h9) rfl dX4_signAt_6 ?_
  refine zN_icmp_ge (tgt := 21) hx hb (by omega) (by omega) dX4_signAt_9 (by decide) (fun c9_2 => ?_) (fun c9_2 => ?_)
  · skip
    refine lv_iconst (v := (-1)) hx hb dX4_signAt_21 (by decide) ?_
    exact zIret () hx hb hr hlocks hK hP hD hS dX4_signAt_22 (show (-1) = isg iv k from (by show _ = (if k < i_n iv then i_sg iv k else -1); rw [if_neg (by omega)]))
  · skip
    refine lv_aload_n hx hb dX4_signAt_12 rfl (lv_at hl 0 rfl) ?_
    refine va_get (ci := 3) (v := .ref (i 1)) hx hb hts h_X4 hown hK hP 0 rfl rfl 0 (by decide) f9 (fun _ h9 => h9) rfl dX4_signAt_13 ?_
    refine lv_iload_n hx hb dX4_signAt_16 rfl (lv_at hl 1 rfl) ?_
    refine zCald (n := 60) (f := i_sg iv) (i := k) hx hb hK hP 1 rfl (by omega) (by decide) dX4_signAt_17 ?_
    refine lv_goto (tgt := 22) hx hb dX4_signAt_18 (by decide) ?_
    exact zIret () hx hb hr hlocks hK hP hD hS dX4_signAt_22 (show (i_sg iv (k)) = isg iv k from (by show _ = (if k < i_n iv then i_sg iv k else -1); rw [if_pos (by omega)]))
abbrev rmX4_isDigit : Room := { frames := 1, cells := 0, slots := 0, locals := 21 }
set_option maxHeartbeats 4000000 in
set_option maxRecDepth 100000 in
theorem kX4_isDigit {D : va_G} {ct : Nat → ClassId} {l : Launch} (i : Nat → Nat) (ee : Nat → Nat) (iv : IS) (R : va_W) (k : Nat) (hn60 : i_n iv ≤ 60) (hk : k < 2 ^ 31) : MI D ct l yX4_isDigit wsX4_isDigit rmX4_isDigit (IW ct i ee iv R) [.ref (i 0), .int (nI (k))] (fun r0 (_ : Unit) => r0 = bI (dgP (isg iv k))) (fun _ : Unit => IW ct i ee iv R) := by
  refine MIof (cc := cX4_isDigit) (maxL := 2) (ret := (some .boolean)) (by decide) rfl (Nat.le_of_ble_eq_true rfl) ?_
  intro p e s m args below meth c A H locs F hP hK hD hS hA ls hl
  obtain ⟨hx, hb, hr, hlocks, hml, hown, hts, hin⟩ := F
  have hl : lv_has ls 2 [(0, .ref (i 0)), (1, .int (nI (k)))] := hl
  refine lv_aload_n hx hb dX4_isDigit_0 rfl (lv_at hl 0 rfl) ?_
  refine lv_iload_n hx hb dX4_isDigit_1 rfl (lv_at hl 1 rfl) ?_
  refine zVI [.int (nI (k))] [] (kX4_signAt (i) (ee) (iv) (R) (k) (show i_n iv ≤ 60 from by omega) (show (k) < 2 ^ 31 from by omega)) hx hb hml hown hts (cwV 1 hts gX4_isDigit_X4_signAt rfl rfl rfl (by decide +kernel) ⟨(Nat.le_of_ble_eq_true rfl), (Nat.le_of_ble_eq_true rfl)⟩) hK hP hD hS hA (va_recv hK hP (ci := 3) (q0 := 0) rfl rfl) rfl hl.1 rfl (Nat.le_of_ble_eq_true rfl) dX4_isDigit_2 ⟨(Nat.le_of_ble_eq_true rfl), (Nat.le_of_ble_eq_true rfl)⟩ (fun r_2 _ H locs hr_2 hP hD hS => ?_)
  subst hr_2
  have hP : va_P D vwCl (IW ct i ee iv R) H := hP
  have hD : va_D A (IW ct i ee iv R) := hD
  refine lv_bipush (v := nI (48)) hx hb dX4_isDigit_5 (by decide) ?_
  refine lv_icmp_lt (tgt := 24) hx hb dX4_isDigit_7 (by decide) (fun c7_1 => ?_) (fun c7_1 => ?_)
  · skip
    refine lv_iconst (v := nI (0)) hx hb dX4_isDigit_24 (by decide) ?_
    exact zZret () (by decide) hx hb hr hlocks hK hP hD hS dX4_isDigit_25 (show nI (0) = bI (dgP (isg iv k)) from (by simp only [bI, dgP, c7_1, p_in, p_worn, p_wi, p_creak, p_le0, p_lt1, p_rng, not_true_eq_false, not_false_eq_true, if_true, if_false, and_true, true_and, and_false, false_and, or_true, true_or, or_false, false_or, and_self, or_self, iff_true, true_iff, iff_false, false_iff, decide_eq_true_eq, decide_true, decide_false, Int32.add_zero, Nat.add_zero, ne_eq, Bool.false_eq_true, eq_self]))
  · skip
    refine lv_aload_n hx hb dX4_isDigit_10 rfl (lv_at hl 0 rfl) ?_
    refine lv_iload_n hx hb dX4_isDigit_11 rfl (lv_at hl 1 rfl) ?_
    refine zVI [.int (nI (k))] [] (kX4_signAt (i) (ee) (iv) (R) (k) (show i_n iv ≤ 60 from by omega) (show (k) < 2 ^ 31 from by omega)) hx hb hml hown hts (cwV 1 hts gX4_isDigit_X4_signAt rfl rfl rfl (by decide +kernel) ⟨(Nat.le_of_ble_eq_true rfl), (Nat.le_of_ble_eq_true rfl)⟩) hK hP hD hS hA (va_recv hK hP (ci := 3) (q0 := 0) rfl rfl) rfl hl.1 rfl (Nat.le_of_ble_eq_true rfl) dX4_isDigit_12 ⟨(Nat.le_of_ble_eq_true rfl), (Nat.le_of_ble_eq_true rfl)⟩ (fun r_12 _ H locs hr_12 hP hD hS => ?_)
    subst hr_12
    have hP : va_P D vwCl (IW ct i ee iv R) H := hP
    have hD : va_D A (IW ct i ee iv R) := hD
    refine lv_bipush (v := nI (57)) hx hb dX4_isDigit_15 (by decide) ?_
    refine lv_icmp_gt (tgt := 24) hx hb dX4_isDigit_17 (by decide) (fun c17_2 => ?_) (fun c17_2 => ?_)
    · skip
      refine lv_iconst (v := nI (0)) hx hb dX4_isDigit_24 (by decide) ?_
      exact zZret () (by decide) hx hb hr hlocks hK hP hD hS dX4_isDigit_25 (show nI (0) = bI (dgP (isg iv k)) from (by simp only [bI, dgP, c7_1, c17_2, p_in, p_worn, p_wi, p_creak, p_le0, p_lt1, p_rng, not_true_eq_false, not_false_eq_true, if_true, if_false, and_true, true_and, and_false, false_and, or_true, true_or, or_false, false_or, and_self, or_self, iff_true, true_iff, iff_false, false_iff, decide_eq_true_eq, decide_true, decide_false, Int32.add_zero, Nat.add_zero, ne_eq, Bool.false_eq_true, eq_self]))
    · skip
      refine lv_iconst (v := nI (1)) hx hb dX4_isDigit_20 (by decide) ?_
      refine lv_goto (tgt := 25) hx hb dX4_isDigit_21 (by decide) ?_
      exact zZret () (by decide) hx hb hr hlocks hK hP hD hS dX4_isDigit_25 (show nI (1) = bI (dgP (isg iv k)) from (by simp only [bI, dgP, c7_1, c17_2, p_in, p_worn, p_wi, p_creak, p_le0, p_lt1, p_rng, not_true_eq_false, not_false_eq_true, if_true, if_false, and_true, true_and, and_false, false_and, or_true, true_or, or_false, false_or, and_self, or_self, iff_true, true_iff, iff_false, false_iff, decide_eq_true_eq, decide_true, decide_false, Int32.add_zero, Nat.add_zero, ne_eq, Bool.false_eq_true, eq_self]))
abbrev rmX4_takeNumber_0 : Room := { frames := 1, cells := 0, slots := 0, locals := 21 }
theorem in_X4_takeNumber_0_X4 : ∀ w ∈ u_ws RX4 TX4 5, w ∈ wsX4_takeNumber := by decide +kernel
set_option maxHeartbeats 4000000 in
set_option maxRecDepth 100000 in
theorem kX4_takeNumber_0 {D : va_G} {ct : Nat → ClassId} {l : Launch} (i : Nat → Nat) (ee : Nat → Nat) (iv : IS) (R : va_W)  (hn60 : i_n iv ≤ 60) (hst : i_st iv ≤ 1000) : MI D ct l yX4_takeNumber wsX4_takeNumber rmX4_takeNumber_0 (IW ct i ee iv R) [.ref (i 0), .int (nI (0))] (fun r0 (_ : Unit) => r0 = (F_tn0 iv).1) (fun _ : Unit => IW ct i ee ((F_tn0 iv).2) R) := by
  refine MIof (cc := cX4_takeNumber) (maxL := 3) (ret := (some .int)) (by decide) rfl (Nat.le_of_ble_eq_true rfl) ?_
  intro p e s m args below meth c A H locs F hP hK hD hS hA ls hl
  obtain ⟨hx, hb, hr, hlocks, hml, hown, hts, hin⟩ := F
  have hl : lv_has ls 3 [(0, .ref (i 0)), (1, .int (nI (0)))] := hl
  have h_X4 := in_X4_takeNumber_0_X4
  have f36 := hts (.fieldLink RX4 36 "CartArguments$Input" "stop" "I") (by decide +kernel)
  refine lv_aload_n hx hb dX4_takeNumber_0 rfl (lv_at hl 0 rfl) ?_
  refine lv_aload_n hx hb dX4_takeNumber_1 rfl (lv_at hl 0 rfl) ?_
  refine va_get (ci := 3) (v := .int (nI (i_st iv))) hx hb hts h_X4 hown hK hP 0 rfl rfl 4 (by decide) f36 (fun _ h9 => h9) rfl dX4_takeNumber_2 ?_
  refine zVI [.int (nI (i_st iv))] [] (kX4_signAt (i) (ee) (iv) (R) (i_st iv) (show i_n iv ≤ 60 from hn60) (show (i_st iv) < 2 ^ 31 from by omega)) hx hb hml hown hts (cwV 1 hts gX4_takeNumber_X4_signAt rfl rfl rfl (by decide +kernel) ⟨(Nat.le_of_ble_eq_true rfl), (Nat.le_of_ble_eq_true rfl)⟩) hK hP hD hS hA (va_recv hK hP (ci := 3) (q0 := 0) rfl rfl) rfl hl.1 rfl (Nat.le_of_ble_eq_true rfl) dX4_takeNumber_5 ⟨(Nat.le_of_ble_eq_true rfl), (Nat.le_of_ble_eq_true rfl)⟩ (fun r_5 _ H locs hr_5 hP hD hS => ?_)
  subst hr_5
  have hP : va_P D vwCl (IW ct i ee iv R) H := hP
  have hD : va_D A (IW ct i ee iv R) := hD
  refine lv_bipush (v := nI (48)) hx hb dX4_takeNumber_8 (by decide) ?_
  refine lv_isub hx hb dX4_takeNumber_10 ?_
  refine lv_istore_n (lv' := [(2, .int (((isg iv (i_st iv)) - nI (48)))), (0, .ref (i 0)), (1, .int (nI (0)))]) hx hb dX4_takeNumber_11 rfl hl (by decide) rfl (fun ls hl => ?_)
  refine lv_aload_n hx hb dX4_takeNumber_12 rfl (lv_at hl 1 rfl) ?_
  refine lv_dup hx hb dX4_takeNumber_13 rfl ?_
  refine va_get (ci := 3) (v := .int (nI (i_st iv))) hx hb hts h_X4 hown hK hP 0 rfl rfl 4 (by decide) f36 (fun _ h9 => h9) rfl dX4_takeNumber_14 ?_
  refine lv_iconst (v := nI (1)) hx hb dX4_takeNumber_17 (by decide) ?_
  refine zNadd hx hb dX4_takeNumber_18 ?_
  refine va_put (ci := 3) (v := .int (nI ((i_st iv + 1)))) (ty := .int) hx hb hts h_X4 tyX4 tyX4_ok nmX4 hown hK hP hD hS 0 rfl rfl 4 (by decide) f36 (fun _ h9 => h9) rfl (by decide +kernel) rfl rfl (Nat.le_of_ble_eq_true rfl) dX4_takeNumber_19 (fun H locs hP hD hS => ?_)
  have hP : va_P D vwCl (IW ct i ee (i_sg iv, i_n iv, i_cm iv, i_nu iv, (i_st iv + 1)) R) H := hP
  have hD : va_D A (IW ct i ee (i_sg iv, i_n iv, i_cm iv, i_nu iv, (i_st iv + 1)) R) := hD
  refine lv_iload_n hx hb dX4_takeNumber_22 rfl (lv_at hl 2 rfl) ?_
  refine lv_if_eq (tgt := 64) hx hb dX4_takeNumber_23 (by decide) (fun c9 => ?_) (fun c9 => absurd (by decide) c9)
  refine lv_iload_n hx hb dX4_takeNumber_64 rfl (lv_at hl 0 rfl) ?_
  have e9 : F_tn0 iv = (((isg iv (i_st iv)) - nI (48)), (i_sg iv, i_n iv, i_cm iv, i_nu iv, (i_st iv + 1))) := (by simp only [F_tn0, iSt, dgP, p_in, p_worn, p_wi, p_creak, p_le0, p_lt1, p_rng, not_true_eq_false, not_false_eq_true, if_true, if_false, and_true, true_and, and_false, false_and, or_true, true_or, or_false, false_or, and_self, or_self, iff_true, true_iff, iff_false, false_iff, decide_eq_true_eq, decide_true, decide_false, Int32.add_zero, Nat.add_zero, ne_eq, Bool.false_eq_true, eq_self])
  exact zIret () hx hb hr hlocks hK (by show va_P D vwCl (IW ct i ee ((F_tn0 iv).2) R) H; rw [e9]; exact hP) (by show va_D A (IW ct i ee ((F_tn0 iv).2) R); rw [e9]; exact hD) hS dX4_takeNumber_65 (show ((isg iv (i_st iv)) - nI (48)) = (F_tn0 iv).1 from (by rw [e9]))
abbrev rmX4_takeNumber_1 : Room := { frames := 2, cells := 0, slots := 0, locals := 42 }
theorem in_X4_takeNumber_1_X4 : ∀ w ∈ u_ws RX4 TX4 5, w ∈ wsX4_takeNumber := by decide +kernel
set_option maxHeartbeats 4000000 in
set_option maxRecDepth 100000 in
theorem kX4_takeNumber_1 {D : va_G} {ct : Nat → ClassId} {l : Launch} (i : Nat → Nat) (ee : Nat → Nat) (iv : IS) (R : va_W)  (hn60 : i_n iv ≤ 60) (hst : i_st iv ≤ 1000) : MI D ct l yX4_takeNumber wsX4_takeNumber rmX4_takeNumber_1 (IW ct i ee iv R) [.ref (i 0), .int (nI (1))] (fun r0 (_ : Unit) => r0 = (F_tn1 iv).1) (fun _ : Unit => IW ct i ee ((F_tn1 iv).2) R) := by
  refine MIof (cc := cX4_takeNumber) (maxL := 3) (ret := (some .int)) (by decide) rfl (Nat.le_of_ble_eq_true rfl) ?_
  intro p e s m args below meth c A H locs F hP hK hD hS hA ls hl
  obtain ⟨hx, hb, hr, hlocks, hml, hown, hts, hin⟩ := F
  have hl : lv_has ls 3 [(0, .ref (i 0)), (1, .int (nI (1)))] := hl
  have h_X4 := in_X4_takeNumber_1_X4
  have f36 := hts (.fieldLink RX4 36 "CartArguments$Input" "stop" "I") (by decide +kernel)
  refine lv_aload_n hx hb dX4_takeNumber_0 rfl (lv_at hl 0 rfl) ?_
  refine lv_aload_n hx hb dX4_takeNumber_1 rfl (lv_at hl 0 rfl) ?_
  refine va_get (ci := 3) (v := .int (nI (i_st iv))) hx hb hts h_X4 hown hK hP 0 rfl rfl 4 (by decide) f36 (fun _ h9 => h9) rfl dX4_takeNumber_2 ?_
  refine zVI [.int (nI (i_st iv))] [] (kX4_signAt (i) (ee) (iv) (R) (i_st iv) (show i_n iv ≤ 60 from hn60) (show (i_st iv) < 2 ^ 31 from by omega)) hx hb hml hown hts (cwV 1 hts gX4_takeNumber_X4_signAt rfl rfl rfl (by decide +kernel) ⟨(Nat.le_of_ble_eq_true rfl), (Nat.le_of_ble_eq_true rfl)⟩) hK hP hD hS hA (va_recv hK hP (ci := 3) (q0 := 0) rfl rfl) rfl hl.1 rfl (Nat.le_of_ble_eq_true rfl) dX4_takeNumber_5 ⟨(Nat.le_of_ble_eq_true rfl), (Nat.le_of_ble_eq_true rfl)⟩ (fun r_5 _ H locs hr_5 hP hD hS => ?_)
  subst hr_5
  have hP : va_P D vwCl (IW ct i ee iv R) H := hP
  have hD : va_D A (IW ct i ee iv R) := hD
  refine lv_bipush (v := nI (48)) hx hb dX4_takeNumber_8 (by decide) ?_
  refine lv_isub hx hb dX4_takeNumber_10 ?_
  refine lv_istore_n (lv' := [(2, .int (((isg iv (i_st iv)) - nI (48)))), (0, .ref (i 0)), (1, .int (nI (1)))]) hx hb dX4_takeNumber_11 rfl hl (by decide) rfl (fun ls hl => ?_)
  refine lv_aload_n hx hb dX4_takeNumber_12 rfl (lv_at hl 1 rfl) ?_
  refine lv_dup hx hb dX4_takeNumber_13 rfl ?_
  refine va_get (ci := 3) (v := .int (nI (i_st iv))) hx hb hts h_X4 hown hK hP 0 rfl rfl 4 (by decide) f36 (fun _ h9 => h9) rfl dX4_takeNumber_14 ?_
  refine lv_iconst (v := nI (1)) hx hb dX4_takeNumber_17 (by decide) ?_
  refine zNadd hx hb dX4_takeNumber_18 ?_
  refine va_put (ci := 3) (v := .int (nI ((i_st iv + 1)))) (ty := .int) hx hb hts h_X4 tyX4 tyX4_ok nmX4 hown hK hP hD hS 0 rfl rfl 4 (by decide) f36 (fun _ h9 => h9) rfl (by decide +kernel) rfl rfl (Nat.le_of_ble_eq_true rfl) dX4_takeNumber_19 (fun H locs hP hD hS => ?_)
  have hP : va_P D vwCl (IW ct i ee (i_sg iv, i_n iv, i_cm iv, i_nu iv, (i_st iv + 1)) R) H := hP
  have hD : va_D A (IW ct i ee (i_sg iv, i_n iv, i_cm iv, i_nu iv, (i_st iv + 1)) R) := hD
  refine lv_iload_n hx hb dX4_takeNumber_22 rfl (lv_at hl 2 rfl) ?_
  refine lv_if_eq (tgt := 64) hx hb dX4_takeNumber_23 (by decide) (fun c9 => absurd c9 (by decide)) (fun c9 => ?_)
  refine lv_aload_n hx hb dX4_takeNumber_26 rfl (lv_at hl 1 rfl) ?_
  refine lv_aload_n hx hb dX4_takeNumber_27 rfl (lv_at hl 1 rfl) ?_
  refine va_get (ci := 3) (v := .int (nI ((i_st iv + 1)))) hx hb hts h_X4 hown hK hP 0 rfl rfl 4 (by decide) f36 (fun _ h9 => h9) rfl dX4_takeNumber_28 ?_
  refine zVI [.int (nI ((i_st iv + 1)))] [] (kX4_isDigit (i) (ee) ((i_sg iv, i_n iv, i_cm iv, i_nu iv, (i_st iv + 1))) (R) ((i_st iv + 1)) (show i_n iv ≤ 60 from hn60) (show ((i_st iv + 1)) < 2 ^ 31 from by omega)) hx hb hml hown hts (cwV 1 hts gX4_takeNumber_X4_isDigit rfl rfl rfl (by decide +kernel) ⟨(Nat.le_of_ble_eq_true rfl), (Nat.le_of_ble_eq_true rfl)⟩) hK hP hD hS hA (va_recv hK hP (ci := 3) (q0 := 0) rfl rfl) rfl hl.1 rfl (Nat.le_of_ble_eq_true rfl) dX4_takeNumber_31 ⟨(Nat.le_of_ble_eq_true rfl), (Nat.le_of_ble_eq_true rfl)⟩ (fun r_31 _ H locs hr_31 hP hD hS => ?_)
  subst hr_31
  have hP : va_P D vwCl (IW ct i ee (i_sg iv, i_n iv, i_cm iv, i_nu iv, (i_st iv + 1)) R) H := hP
  have hD : va_D A (IW ct i ee (i_sg iv, i_n iv, i_cm iv, i_nu iv, (i_st iv + 1)) R) := hD
  refine zB_if_eq (tgt := 64) hx hb dX4_takeNumber_34 (by decide) (fun c34_2 => ?_) (fun c34_2 => ?_)
  · skip
    refine lv_iload_n hx hb dX4_takeNumber_64 rfl (lv_at hl 0 rfl) ?_
    have e9 : F_tn1 iv = (((isg iv (i_st iv)) - nI (48)), (i_sg iv, i_n iv, i_cm iv, i_nu iv, (i_st iv + 1))) := (by simp only [F_tn1, iSt, dgP, c34_2, p_in, p_worn, p_wi, p_creak, p_le0, p_lt1, p_rng, not_true_eq_false, not_false_eq_true, if_true, if_false, and_true, true_and, and_false, false_and, or_true, true_or, or_false, false_or, and_self, or_self, iff_true, true_iff, iff_false, false_iff, decide_eq_true_eq, decide_true, decide_false, Int32.add_zero, Nat.add_zero, ne_eq, Bool.false_eq_true, eq_self])
    exact zIret () hx hb hr hlocks hK (by show va_P D vwCl (IW ct i ee ((F_tn1 iv).2) R) H; rw [e9]; exact hP) (by show va_D A (IW ct i ee ((F_tn1 iv).2) R); rw [e9]; exact hD) hS dX4_takeNumber_65 (show ((isg iv (i_st iv)) - nI (48)) = (F_tn1 iv).1 from (by rw [e9]))
  · skip
    refine lv_iload_n hx hb dX4_takeNumber_37 rfl (lv_at hl 0 rfl) ?_
    refine lv_bipush (v := nI (10)) hx hb dX4_takeNumber_38 (by decide) ?_
    refine lv_imul hx hb dX4_takeNumber_40 ?_
    refine lv_aload_n hx hb dX4_takeNumber_41 rfl (lv_at hl 1 rfl) ?_
    refine lv_aload_n hx hb dX4_takeNumber_42 rfl (lv_at hl 1 rfl) ?_
    refine va_get (ci := 3) (v := .int (nI ((i_st iv + 1)))) hx hb hts h_X4 hown hK hP 0 rfl rfl 4 (by decide) f36 (fun _ h9 => h9) rfl dX4_takeNumber_43 ?_
    refine zVI [.int (nI ((i_st iv + 1)))] [.int ((((isg iv (i_st iv)) - nI (48)) * nI (10)))] (kX4_signAt (i) (ee) ((i_sg iv, i_n iv, i_cm iv, i_nu iv, (i_st iv + 1))) (R) ((i_st iv + 1)) (show i_n iv ≤ 60 from hn60) (show ((i_st iv + 1)) < 2 ^ 31 from by omega)) hx hb hml hown hts (cwV 1 hts gX4_takeNumber_X4_signAt rfl rfl rfl (by decide +kernel) ⟨(Nat.le_of_ble_eq_true rfl), (Nat.le_of_ble_eq_true rfl)⟩) hK hP hD hS hA (va_recv hK hP (ci := 3) (q0 := 0) rfl rfl) rfl hl.1 rfl (Nat.le_of_ble_eq_true rfl) dX4_takeNumber_46 ⟨(Nat.le_of_ble_eq_true rfl), (Nat.le_of_ble_eq_true rfl)⟩ (fun r_46 _ H locs hr_46 hP hD hS => ?_)
    subst hr_46
    have hP : va_P D vwCl (IW ct i ee (i_sg iv, i_n iv, i_cm iv, i_nu iv, (i_st iv + 1)) R) H := hP
    have hD : va_D A (IW ct i ee (i_sg iv, i_n iv, i_cm iv, i_nu iv, (i_st iv + 1)) R) := hD
    refine lv_iadd hx hb dX4_takeNumber_49 ?_
    refine lv_bipush (v := nI (48)) hx hb dX4_takeNumber_50 (by decide) ?_
    refine lv_isub hx hb dX4_takeNumber_52 ?_
    refine lv_istore_n (lv' := [(2, .int ((((((isg iv (i_st iv)) - nI (48)) * nI (10)) + (isg (i_sg iv, i_n iv, i_cm iv, i_nu iv, (i_st iv + 1)) ((i_st iv + 1)))) - nI (48)))), (0, .ref (i 0)), (1, .int (nI (1)))]) hx hb dX4_takeNumber_53 rfl hl (by decide) rfl (fun ls hl => ?_)
    refine lv_aload_n hx hb dX4_takeNumber_54 rfl (lv_at hl 1 rfl) ?_
    refine lv_dup hx hb dX4_takeNumber_55 rfl ?_
    refine va_get (ci := 3) (v := .int (nI ((i_st iv + 1)))) hx hb hts h_X4 hown hK hP 0 rfl rfl 4 (by decide) f36 (fun _ h9 => h9) rfl dX4_takeNumber_56 ?_
    refine lv_iconst (v := nI (1)) hx hb dX4_takeNumber_59 (by decide) ?_
    refine zNadd hx hb dX4_takeNumber_60 ?_
    refine va_put (ci := 3) (v := .int (nI (((i_st iv + 1) + 1)))) (ty := .int) hx hb hts h_X4 tyX4 tyX4_ok nmX4 hown hK hP hD hS 0 rfl rfl 4 (by decide) f36 (fun _ h9 => h9) rfl (by decide +kernel) rfl rfl (Nat.le_of_ble_eq_true rfl) dX4_takeNumber_61 (fun H locs hP hD hS => ?_)
    have hP : va_P D vwCl (IW ct i ee (i_sg iv, i_n iv, i_cm iv, i_nu iv, ((i_st iv + 1) + 1)) R) H := hP
    have hD : va_D A (IW ct i ee (i_sg iv, i_n iv, i_cm iv, i_nu iv, ((i_st iv + 1) + 1)) R) := hD
    refine lv_iload_n hx hb dX4_takeNumber_64 rfl (lv_at hl 0 rfl) ?_
    have e9 : F_tn1 iv = ((((((isg iv (i_st iv)) - nI (48)) * nI (10)) + (isg (i_sg iv, i_n iv, i_cm iv, i_nu iv, (i_st iv + 1)) ((i_st iv + 1)))) - nI (48)), (i_sg iv, i_n iv, i_cm iv, i_nu iv, ((i_st iv + 1) + 1))) := (by simp only [F_tn1, iSt, dgP, c34_2, p_in, p_worn, p_wi, p_creak, p_le0, p_lt1, p_rng, not_true_eq_false, not_false_eq_true, if_true, if_false, and_true, true_and, and_false, false_and, or_true, true_or, or_false, false_or, and_self, or_self, iff_true, true_iff, iff_false, false_iff, decide_eq_true_eq, decide_true, decide_false, Int32.add_zero, Nat.add_zero, ne_eq, Bool.false_eq_true, eq_self])
    exact zIret () hx hb hr hlocks hK (by show va_P D vwCl (IW ct i ee ((F_tn1 iv).2) R) H; rw [e9]; exact hP) (by show va_D A (IW ct i ee ((F_tn1 iv).2) R); rw [e9]; exact hD) hS dX4_takeNumber_65 (show (((((isg iv (i_st iv)) - nI (48)) * nI (10)) + (isg (i_sg iv, i_n iv, i_cm iv, i_nu iv, (i_st iv + 1)) ((i_st iv + 1)))) - nI (48)) = (F_tn1 iv).1 from (by rw [e9]))
abbrev rmJ0_coder_7d493 : Room := { frames := 0, cells := 0, slots := 0, locals := 0 }
set_option maxHeartbeats 4000000 in
set_option maxRecDepth 100000 in
theorem kJ0_coder_7d493 {D : va_G} {g : XG} {ct : Nat → ClassId} {l : Launch}  (R : va_W) (zi : Nat) (hi : zi < 9) : MX D ct g l yJ0_coder_7d493 wsJ0_coder_7d493 rmJ0_coder_7d493 (R) [.ref (xK g zi)] (QI D ct (fun r0 (_ : Unit) => r0 = nI (0)) (fun _ : Unit => R)) := by
  refine MXof (cc := cJ0_coder_7d493) (maxL := 1) (ret := (some .byte)) (by decide) rfl (Nat.le_of_ble_eq_true rfl) ?_
  intro p e s m args below meth c A H locs F hP hK hD hS hA hX ls hl
  obtain ⟨hx, hb, hr, hlocks, hml, hown, hts, hin⟩ := F
  have hl : lv_has ls 1 [(0, .ref (xK g zi))] := hl
  refine va_gets (v := .int (nI 1)) hx hb hX.g8 hS hown (hts (.fieldLink RJ0 38 "java/lang/String" "COMPACT_STRINGS" "Z") (by decide +kernel)) (fun _ h => h) dJ0_coder_7d493_0 ?_
  refine lv_if_eq (tgt := 13) hx hb dJ0_coder_7d493_3 (by decide) (fun c9 => absurd c9 (by decide)) (fun c9 => ?_)
  refine lv_aload_n hx hb dJ0_coder_7d493_6 rfl (lv_at hl 0 rfl) ?_
  refine vk_getf (v := .int (nI (0))) hx hb (hX.g1.1 zi hi).2.1 hS hown (hts (.fieldLink RJ0 15 "java/lang/String" "coder" "B") (by decide +kernel)) (fun _ h => h) dJ0_coder_7d493_7 ?_
  refine lv_goto (tgt := 14) hx hb dJ0_coder_7d493_10 (by decide) ?_
  exact zNret () (by decide) hx hb hr hlocks hK hP hD hS dJ0_coder_7d493_14 (show nI (0) = nI (0) from rfl)
abbrev rmJ0_length_8abf5 : Room := { frames := 1, cells := 0, slots := 0, locals := 20 }
set_option maxHeartbeats 4000000 in
set_option maxRecDepth 100000 in
theorem kJ0_length_8abf5 {D : va_G} {g : XG} {ct : Nat → ClassId} {l : Launch}  (R : va_W) (zi : Nat) (hi : zi < 9) : MX D ct g l yJ0_length_8abf5 wsJ0_length_8abf5 rmJ0_length_8abf5 (R) [.ref (xK g zi)] (QI D ct (fun r0 (_ : Unit) => r0 = nI ((fmL zi).length)) (fun _ : Unit => R)) := by
  refine MXof (cc := cJ0_length_8abf5) (maxL := 1) (ret := (some .int)) (by decide) rfl (Nat.le_of_ble_eq_true rfl) ?_
  intro p e s m args below meth c A H locs F hP hK hD hS hA hX ls hl
  obtain ⟨hx, hb, hr, hlocks, hml, hown, hts, hin⟩ := F
  have hl : lv_has ls 1 [(0, .ref (xK g zi))] := hl
  refine lv_aload_n hx hb dJ0_length_8abf5_0 rfl (lv_at hl 0 rfl) ?_
  refine vk_getf (v := .ref (xV g zi)) hx hb (hX.g1.1 zi hi).2.2.1 hS hown (hts (.fieldLink RJ0 9 "java/lang/String" "value" "[B") (by decide +kernel)) (fun _ h => h) dJ0_length_8abf5_1 ?_
  refine va_tlen (v := nI ((fmL zi).length)) hx hb (hX.g1.1 zi hi).2.2.2 hS (by rw [fm_len hi]; rfl) dJ0_length_8abf5_4 ?_
  refine lv_aload_n hx hb dJ0_length_8abf5_5 rfl (lv_at hl 0 rfl) ?_
  refine zVIX [] [.int (nI ((fmL zi).length))] (kJ0_coder_7d493 (R) (zi) (show (zi) < 9 from hi)) hx hb hml hown hts (cwV 0 hts gJ0_length_8abf5_J0_coder_7d493 rfl rfl rfl (by decide +kernel) ⟨(Nat.le_of_ble_eq_true rfl), (Nat.le_of_ble_eq_true rfl)⟩) hK hP hD hS hA hX (vk_recv (i := zi) hX.g1 hi hS) rfl hl.1 rfl (Nat.le_of_ble_eq_true rfl) dJ0_length_8abf5_6 ⟨(Nat.le_of_ble_eq_true rfl), (Nat.le_of_ble_eq_true rfl)⟩ (fun r_6 _ H locs hr_6 hP hD hS => ?_)
  subst hr_6
  have hP : va_P D vwCl (R) H := hP
  have hD : va_D A (R) := hD
  refine lv_ishr hx hb dJ0_length_8abf5_9 ?_
  exact zIret () hx hb hr hlocks hK hP hD hS dJ0_length_8abf5_10 (show (nI ((fmL zi).length) >>> (nI (0) &&& 31)) = nI ((fmL zi).length) from (sb_shr0 _))
abbrev rmJ0_isLatin1_aae02 : Room := { frames := 0, cells := 0, slots := 0, locals := 0 }
set_option maxHeartbeats 4000000 in
set_option maxRecDepth 100000 in
theorem kJ0_isLatin1_aae02 {D : va_G} {g : XG} {ct : Nat → ClassId} {l : Launch}  (R : va_W) (zi : Nat) (hi : zi < 9) : MX D ct g l yJ0_isLatin1_aae02 wsJ0_isLatin1_aae02 rmJ0_isLatin1_aae02 (R) [.ref (xK g zi)] (QI D ct (fun r0 (_ : Unit) => r0 = nI (1)) (fun _ : Unit => R)) := by
  refine MXof (cc := cJ0_isLatin1_aae02) (maxL := 1) (ret := (some .boolean)) (by decide) rfl (Nat.le_of_ble_eq_true rfl) ?_
  intro p e s m args below meth c A H locs F hP hK hD hS hA hX ls hl
  obtain ⟨hx, hb, hr, hlocks, hml, hown, hts, hin⟩ := F
  have hl : lv_has ls 1 [(0, .ref (xK g zi))] := hl
  refine va_gets (v := .int (nI 1)) hx hb hX.g8 hS hown (hts (.fieldLink RJ0 38 "java/lang/String" "COMPACT_STRINGS" "Z") (by decide +kernel)) (fun _ h => h) dJ0_isLatin1_aae02_0 ?_
  refine lv_if_eq (tgt := 17) hx hb dJ0_isLatin1_aae02_3 (by decide) (fun c9 => absurd c9 (by decide)) (fun c9 => ?_)
  refine lv_aload_n hx hb dJ0_isLatin1_aae02_6 rfl (lv_at hl 0 rfl) ?_
  refine vk_getf (v := .int (nI (0))) hx hb (hX.g1.1 zi hi).2.1 hS hown (hts (.fieldLink RJ0 15 "java/lang/String" "coder" "B") (by decide +kernel)) (fun _ h => h) dJ0_isLatin1_aae02_7 ?_
  refine lv_if_ne (tgt := 17) hx hb dJ0_isLatin1_aae02_10 (by decide) (fun c9 => absurd (by decide) c9) (fun c9 => ?_)
  refine lv_iconst (v := nI (1)) hx hb dJ0_isLatin1_aae02_13 (by decide) ?_
  refine lv_goto (tgt := 18) hx hb dJ0_isLatin1_aae02_14 (by decide) ?_
  exact zZret () (by decide) hx hb hr hlocks hK hP hD hS dJ0_isLatin1_aae02_18 (show nI (1) = nI (1) from rfl)
abbrev rmJ3_checkIndex_8e157_n : Room := { frames := 0, cells := 0, slots := 0, locals := 0 }
set_option maxHeartbeats 4000000 in
set_option maxRecDepth 100000 in
theorem kJ3_checkIndex_8e157_n {D : va_G} {g : XG} {ct : Nat → ClassId} {l : Launch}  (R : va_W) (k : Nat) (n : Nat) (hk : k < n) (hn : n < 2 ^ 31) : MX D ct g l yJ3_checkIndex_8e157 wsJ3_checkIndex_8e157 rmJ3_checkIndex_8e157_n (R) [.int (nI (k)), .int (nI (n)), .null] (QI D ct (fun r0 (_ : Unit) => r0 = nI (k)) (fun _ : Unit => R)) := by
  refine MXof (cc := cJ3_checkIndex_8e157) (maxL := 3) (ret := (some .int)) (by decide) rfl (Nat.le_of_ble_eq_true rfl) ?_
  intro p e s m args below meth c A H locs F hP hK hD hS hA hX ls hl
  obtain ⟨hx, hb, hr, hlocks, hml, hown, hts, hin⟩ := F
  have hl : lv_has ls 3 [(0, .int (nI (k))), (1, .int (nI (n))), (2, .null)] := hl
  refine lv_iload_n hx hb dJ3_checkIndex_8e157_0 rfl (lv_at hl 0 rfl) ?_
  refine zN_if_lt (tgt := 9) hx hb (by omega) dJ3_checkIndex_8e157_1 (by decide) ?_
  refine lv_iload_n hx hb dJ3_checkIndex_8e157_4 rfl (lv_at hl 0 rfl) ?_
  refine lv_iload_n hx hb dJ3_checkIndex_8e157_5 rfl (lv_at hl 1 rfl) ?_
  refine zN_icmp_lt (tgt := 16) hx hb (by omega) (by omega) dJ3_checkIndex_8e157_6 (by decide) (fun c6_2 => ?_) (fun c6_2 => ?_)
  · skip
    refine lv_iload_n hx hb dJ3_checkIndex_8e157_16 rfl (lv_at hl 0 rfl) ?_
    exact zIret () hx hb hr hlocks hK hP hD hS dJ3_checkIndex_8e157_17 (show nI (k) = nI (k) from rfl)
  · skip
    exact absurd hk c6_2
abbrev rmJ3_checkIndex_8e157_r : Room := { frames := 0, cells := 0, slots := 0, locals := 0 }
set_option maxHeartbeats 4000000 in
set_option maxRecDepth 100000 in
theorem kJ3_checkIndex_8e157_r {D : va_G} {g : XG} {ct : Nat → ClassId} {l : Launch}  (R : va_W) (k : Nat) (n : Nat) (t9 : Nat) (hk : k < n) (hn : n < 2 ^ 31) : MX D ct g l yJ3_checkIndex_8e157 wsJ3_checkIndex_8e157 rmJ3_checkIndex_8e157_r (R) [.int (nI (k)), .int (nI (n)), .ref (t9)] (QI D ct (fun r0 (_ : Unit) => r0 = nI (k)) (fun _ : Unit => R)) := by
  refine MXof (cc := cJ3_checkIndex_8e157) (maxL := 3) (ret := (some .int)) (by decide) rfl (Nat.le_of_ble_eq_true rfl) ?_
  intro p e s m args below meth c A H locs F hP hK hD hS hA hX ls hl
  obtain ⟨hx, hb, hr, hlocks, hml, hown, hts, hin⟩ := F
  have hl : lv_has ls 3 [(0, .int (nI (k))), (1, .int (nI (n))), (2, .ref (t9))] := hl
  refine lv_iload_n hx hb dJ3_checkIndex_8e157_0 rfl (lv_at hl 0 rfl) ?_
  refine zN_if_lt (tgt := 9) hx hb (by omega) dJ3_checkIndex_8e157_1 (by decide) ?_
  refine lv_iload_n hx hb dJ3_checkIndex_8e157_4 rfl (lv_at hl 0 rfl) ?_
  refine lv_iload_n hx hb dJ3_checkIndex_8e157_5 rfl (lv_at hl 1 rfl) ?_
  refine zN_icmp_lt (tgt := 16) hx hb (by omega) (by omega) dJ3_checkIndex_8e157_6 (by decide) (fun c6_2 => ?_) (fun c6_2 => ?_)
  · skip
    refine lv_iload_n hx hb dJ3_checkIndex_8e157_16 rfl (lv_at hl 0 rfl) ?_
    exact zIret () hx hb hr hlocks hK hP hD hS dJ3_checkIndex_8e157_17 (show nI (k) = nI (k) from rfl)
  · skip
    exact absurd hk c6_2
abbrev rmJ0_checkIndex_df160 : Room := { frames := 1, cells := 0, slots := 0, locals := 22 }
set_option maxHeartbeats 4000000 in
set_option maxRecDepth 100000 in
theorem kJ0_checkIndex_df160 {D : va_G} {g : XG} {ct : Nat → ClassId} {l : Launch}  (R : va_W) (k : Nat) (n : Nat) (hk : k < n) (hn : n < 2 ^ 31) : MX D ct g l yJ0_checkIndex_df160 wsJ0_checkIndex_df160 rmJ0_checkIndex_df160 (R) [.int (nI (k)), .int (nI (n))] (QV D ct (fun _ : Unit => True) (fun _ : Unit => R)) := by
  refine MXof (cc := cJ0_checkIndex_df160) (maxL := 2) (ret := none) (by decide) rfl (Nat.le_of_ble_eq_true rfl) ?_
  intro p e s m args below meth c A H locs F hP hK hD hS hA hX ls hl
  obtain ⟨hx, hb, hr, hlocks, hml, hown, hts, hin⟩ := F
  have hl : lv_has ls 2 [(0, .int (nI (k))), (1, .int (nI (n)))] := hl
  refine lv_iload_n hx hb dJ0_checkIndex_df160_0 rfl (lv_at hl 0 rfl) ?_
  refine lv_iload_n hx hb dJ0_checkIndex_df160_1 rfl (lv_at hl 1 rfl) ?_
  rcases hX.g13 with h13 | ⟨t13, h13⟩
  · skip
    refine va_gets hx hb h13 hS hown (hts (.fieldLink RJ0 1053 "jdk/internal/util/Preconditions" "SIOOBE_FORMATTER" "Ljava/util/function/BiFunction;") (by decide +kernel)) (fun _ h => h) dJ0_checkIndex_df160_2 ?_
    refine zSIX [.int (nI (k)), .int (nI (n)), .null] [] (kJ3_checkIndex_8e157_n (R) (k) (n) (show (k) < (n) from hk) (show (n) < 2 ^ 31 from hn)) hx hb hml hown hts (va_cwS 3 hts gJ0_checkIndex_df160_J3_checkIndex_8e157 rfl rfl rfl (by decide +kernel) ⟨(Nat.le_of_ble_eq_true rfl), (Nat.le_of_ble_eq_true rfl)⟩) hK hP hD hS hA hX rfl hl.1 rfl (Nat.le_of_ble_eq_true rfl) dJ0_checkIndex_df160_5 ⟨(Nat.le_of_ble_eq_true rfl), (Nat.le_of_ble_eq_true rfl)⟩ (fun r_5 _ H locs hr_5 hP hD hS => ?_)
    subst hr_5
    have hP : va_P D vwCl (R) H := hP
    have hD : va_D A (R) := hD
    refine lv_pop hx hb dJ0_checkIndex_df160_8 rfl ?_
    exact zVret () hx hb hr hlocks hK hP hD hS dJ0_checkIndex_df160_9 trivial
  · skip
    refine va_gets hx hb h13 hS hown (hts (.fieldLink RJ0 1053 "jdk/internal/util/Preconditions" "SIOOBE_FORMATTER" "Ljava/util/function/BiFunction;") (by decide +kernel)) (fun _ h => h) dJ0_checkIndex_df160_2 ?_
    refine zSIX [.int (nI (k)), .int (nI (n)), .ref (t13)] [] (kJ3_checkIndex_8e157_r (R) (k) (n) (t13) (show (k) < (n) from hk) (show (n) < 2 ^ 31 from hn)) hx hb hml hown hts (va_cwS 3 hts gJ0_checkIndex_df160_J3_checkIndex_8e157 rfl rfl rfl (by decide +kernel) ⟨(Nat.le_of_ble_eq_true rfl), (Nat.le_of_ble_eq_true rfl)⟩) hK hP hD hS hA hX rfl hl.1 rfl (Nat.le_of_ble_eq_true rfl) dJ0_checkIndex_df160_5 ⟨(Nat.le_of_ble_eq_true rfl), (Nat.le_of_ble_eq_true rfl)⟩ (fun r_5 _ H locs hr_5 hP hD hS => ?_)
    subst hr_5
    have hP : va_P D vwCl (R) H := hP
    have hD : va_D A (R) := hD
    refine lv_pop hx hb dJ0_checkIndex_df160_8 rfl ?_
    exact zVret () hx hb hr hlocks hK hP hD hS dJ0_checkIndex_df160_9 trivial
abbrev rmJ1_charAt_3b067 : Room := { frames := 2, cells := 0, slots := 0, locals := 43 }
set_option maxHeartbeats 4000000 in
set_option maxRecDepth 100000 in
theorem kJ1_charAt_3b067 {D : va_G} {g : XG} {ct : Nat → ClassId} {l : Launch}  (R : va_W) (k : Nat) (zi : Nat) (hi : zi < 9) (hk : k < (fmL zi).length) : MX D ct g l yJ1_charAt_3b067 wsJ1_charAt_3b067 rmJ1_charAt_3b067 (R) [.ref (xV g zi), .int (nI (k))] (QI D ct (fun r0 (_ : Unit) => r0 = nI ((fmL zi).getD k 0)) (fun _ : Unit => R)) := by
  refine MXof (cc := cJ1_charAt_3b067) (maxL := 2) (ret := (some .char)) (by decide) rfl (Nat.le_of_ble_eq_true rfl) ?_
  intro p e s m args below meth c A H locs F hP hK hD hS hA hX ls hl
  obtain ⟨hx, hb, hr, hlocks, hml, hown, hts, hin⟩ := F
  have hl : lv_has ls 2 [(0, .ref (xV g zi)), (1, .int (nI (k)))] := hl
  refine lv_iload_n hx hb dJ1_charAt_3b067_0 rfl (lv_at hl 1 rfl) ?_
  refine lv_aload_n hx hb dJ1_charAt_3b067_1 rfl (lv_at hl 0 rfl) ?_
  refine va_tlen (v := nI ((fmL zi).length)) hx hb (hX.g1.1 zi hi).2.2.2 hS (by rw [fm_len hi]; rfl) dJ1_charAt_3b067_2 ?_
  refine zSVX [.int (nI (k)), .int (nI ((fmL zi).length))] [] (kJ0_checkIndex_df160 (R) (k) ((fmL zi).length) (show (k) < ((fmL zi).length) from hk) (show ((fmL zi).length) < 2 ^ 31 from fm_lt hi)) hx hb hml hown hts (va_cwS 2 hts gJ1_charAt_3b067_J0_checkIndex_df160 rfl rfl rfl (by decide +kernel) ⟨(Nat.le_of_ble_eq_true rfl), (Nat.le_of_ble_eq_true rfl)⟩) hK hP hD hS hA hX rfl hl.1 rfl (Nat.le_of_ble_eq_true rfl) dJ1_charAt_3b067_3 ⟨(Nat.le_of_ble_eq_true rfl), (Nat.le_of_ble_eq_true rfl)⟩ (fun _ H locs hr_3 hP hD hS => ?_)
  have hP : va_P D vwCl (R) H := hP
  have hD : va_D A (R) := hD
  refine lv_aload_n hx hb dJ1_charAt_3b067_6 rfl (lv_at hl 0 rfl) ?_
  refine lv_iload_n hx hb dJ1_charAt_3b067_7 rfl (lv_at hl 1 rfl) ?_
  refine va_tb (v := .int (nI ((fmL zi).getD k 0))) hx hb (hX.g1.1 zi hi).2.2.2 hS (by rw [fm_len hi]; exact vp_in_nI (n := k) hk (fm_lt hi)) (by show Value.int ((xBy.getD zi []).getD (nI k).toNatClampNeg 0) = _; rw [nI_clamp (fm_ix hi hk), fm_by hi hk]) dJ1_charAt_3b067_8 ?_
  refine lv_sipush (v := nI (255)) hx hb dJ1_charAt_3b067_9 (by decide) ?_
  refine lv_iand hx hb dJ1_charAt_3b067_12 ?_
  refine lv_i2c (v := nI ((fmL zi).getD k 0)) hx hb dJ1_charAt_3b067_13 (ch_i2c (fm_128 hi hk)) ?_
  exact zNret () (ch_nar (by have := fm_128 hi hk; omega)) hx hb hr hlocks hK hP hD hS dJ1_charAt_3b067_14 (show nI ((fmL zi).getD k 0) = nI ((fmL zi).getD k 0) from rfl)
abbrev rmJ0_charAt_5068e : Room := { frames := 3, cells := 0, slots := 0, locals := 64 }
set_option maxHeartbeats 4000000 in
set_option maxRecDepth 100000 in
theorem kJ0_charAt_5068e {D : va_G} {g : XG} {ct : Nat → ClassId} {l : Launch}  (R : va_W) (k : Nat) (zi : Nat) (hi : zi < 9) (hk : k < (fmL zi).length) : MX D ct g l yJ0_charAt_5068e wsJ0_charAt_5068e rmJ0_charAt_5068e (R) [.ref (xK g zi), .int (nI (k))] (QI D ct (fun r0 (_ : Unit) => r0 = nI ((fmL zi).getD k 0)) (fun _ : Unit => R)) := by
  refine MXof (cc := cJ0_charAt_5068e) (maxL := 2) (ret := (some .char)) (by decide) rfl (Nat.le_of_ble_eq_true rfl) ?_
  intro p e s m args below meth c A H locs F hP hK hD hS hA hX ls hl
  obtain ⟨hx, hb, hr, hlocks, hml, hown, hts, hin⟩ := F
  have hl : lv_has ls 2 [(0, .ref (xK g zi)), (1, .int (nI (k)))] := hl
  refine lv_aload_n hx hb dJ0_charAt_5068e_0 rfl (lv_at hl 0 rfl) ?_
  refine zVIX [] [] (kJ0_isLatin1_aae02 (R) (zi) (show (zi) < 9 from hi)) hx hb hml hown hts (cwV 0 hts gJ0_charAt_5068e_J0_isLatin1_aae02 rfl rfl rfl (by decide +kernel) ⟨(Nat.le_of_ble_eq_true rfl), (Nat.le_of_ble_eq_true rfl)⟩) hK hP hD hS hA hX (vk_recv (i := zi) hX.g1 hi hS) rfl hl.1 rfl (Nat.le_of_ble_eq_true rfl) dJ0_charAt_5068e_1 ⟨(Nat.le_of_ble_eq_true rfl), (Nat.le_of_ble_eq_true rfl)⟩ (fun r_1 _ H locs hr_1 hP hD hS => ?_)
  subst hr_1
  have hP : va_P D vwCl (R) H := hP
  have hD : va_D A (R) := hD
  refine lv_if_eq (tgt := 16) hx hb dJ0_charAt_5068e_4 (by decide) (fun c9 => absurd c9 (by decide)) (fun c9 => ?_)
  refine lv_aload_n hx hb dJ0_charAt_5068e_7 rfl (lv_at hl 0 rfl) ?_
  refine vk_getf (v := .ref (xV g zi)) hx hb (hX.g1.1 zi hi).2.2.1 hS hown (hts (.fieldLink RJ0 9 "java/lang/String" "value" "[B") (by decide +kernel)) (fun _ h => h) dJ0_charAt_5068e_8 ?_
  refine lv_iload_n hx hb dJ0_charAt_5068e_11 rfl (lv_at hl 1 rfl) ?_
  refine zSIX [.ref (xV g zi), .int (nI (k))] [] (kJ1_charAt_3b067 (R) (k) (zi) (show (zi) < 9 from hi) (show (k) < (fmL (zi)).length from hk)) hx hb hml hown hts (va_cwS 2 hts gJ0_charAt_5068e_J1_charAt_3b067 rfl rfl rfl (by decide +kernel) ⟨(Nat.le_of_ble_eq_true rfl), (Nat.le_of_ble_eq_true rfl)⟩) hK hP hD hS hA hX rfl hl.1 rfl (Nat.le_of_ble_eq_true rfl) dJ0_charAt_5068e_12 ⟨(Nat.le_of_ble_eq_true rfl), (Nat.le_of_ble_eq_true rfl)⟩ (fun r_12 _ H locs hr_12 hP hD hS => ?_)
  subst hr_12
  have hP : va_P D vwCl (R) H := hP
  have hD : va_D A (R) := hD
  exact zNret () (ch_nar (by have := fm_128 hi hk; omega)) hx hb hr hlocks hK hP hD hS dJ0_charAt_5068e_15 (show nI ((fmL (zi)).getD (k) 0) = nI ((fmL zi).getD k 0) from rfl)
abbrev rmX4_takeForm : Room := { frames := 4, cells := 0, slots := 0, locals := 85 }
theorem in_X4_takeForm_X4 : ∀ w ∈ u_ws RX4 TX4 5, w ∈ wsX4_takeForm := by decide +kernel
set_option maxHeartbeats 4000000 in
set_option maxRecDepth 100000 in
theorem kX4_takeForm {D : va_G} {g : XG} {ct : Nat → ClassId} {l : Launch} (i : Nat → Nat) (iv : IS) (R : va_W) (pos : Nat) (zi : Nat) (hi : zi < 9) (hn60 : i_n iv ≤ 60) (hpos : pos ≤ 1000) : MX D ct g l yX4_takeForm wsX4_takeForm rmX4_takeForm (IW ct i (xE g) iv R) [.ref (i 0), .ref (xK g zi), .int (nI (pos))] (QI D ct (fun r0 (_ : Unit) => r0 = bI ((tkA zi iv pos).1 = true)) (fun _ : Unit => IW ct i (xE g) ((tkA zi iv pos).2) R)) := by
  refine MXof (cc := cX4_takeForm) (maxL := 7) (ret := (some .boolean)) (by decide) rfl (Nat.le_of_ble_eq_true rfl) ?_
  intro p e s m args below meth c A H locs F hP hK hD hS hA hX ls hl
  obtain ⟨hx, hb, hr, hlocks, hml, hown, hts, hin⟩ := F
  have hl : lv_has ls 7 [(0, .ref (i 0)), (1, .ref (xK g zi)), (2, .int (nI (pos)))] := hl
  have h12 := fm_12 hi
  have h_X4 := in_X4_takeForm_X4
  have f24 := hts (.fieldLink RX4 24 "CartArguments$Input" "numbers" "[I") (by decide +kernel)
  have f36 := hts (.fieldLink RX4 36 "CartArguments$Input" "stop" "I") (by decide +kernel)
  refine lv_aload_n hx hb dX4_takeForm_0 rfl (lv_at hl 0 rfl) ?_
  refine lv_iload_n hx hb dX4_takeForm_1 rfl (lv_at hl 2 rfl) ?_
  refine va_put (ci := 3) (v := .int (nI (pos))) (ty := .int) hx hb hts h_X4 tyX4 tyX4_ok nmX4 hown hK hP hD hS 0 rfl rfl 4 (by decide) f36 (fun _ h9 => h9) rfl (by decide +kernel) rfl rfl (Nat.le_of_ble_eq_true rfl) dX4_takeForm_2 (fun H locs hP hD hS => ?_)
  have hP : va_P D vwCl (IW ct i (xE g) (i_sg iv, i_n iv, i_cm iv, i_nu iv, pos) R) H := hP
  have hD : va_D A (IW ct i (xE g) (i_sg iv, i_n iv, i_cm iv, i_nu iv, pos) R) := hD
  refine lv_iconst (v := nI (0)) hx hb dX4_takeForm_5 (by decide) ?_
  refine lv_istore_n (lv' := [(3, .int (nI (0))), (0, .ref (i 0)), (1, .ref (xK g zi)), (2, .int (nI (pos)))]) hx hb dX4_takeForm_6 rfl hl (by decide) rfl (fun ls hl => ?_)
  refine lv_iconst (v := nI (0)) hx hb dX4_takeForm_7 (by decide) ?_
  refine lv_istore (lv' := [(4, .int (nI (0))), (3, .int (nI (0))), (0, .ref (i 0)), (1, .ref (xK g zi)), (2, .int (nI (pos)))]) hx hb dX4_takeForm_8 hl (by decide) rfl (fun ls hl => ?_)
  have lp10 : ∀ (fu : Nat) (j : Nat) (k : Nat) (v1 : IS) (H : Heap) (locs : List Loc) (ls : Array Slot), (j ≤ (fmL zi).length) → (k ≤ 3) → (i_n v1 = i_n iv) → (i_st v1 ≤ 1000) → (frF ((fmL zi).drop j) v1 k = frF (fmL zi) (iSt iv pos) 0) → (fmL zi).length - j < fu → va_P D vwCl (IW ct i (xE g) v1 R) H → va_D A (IW ct i (xE g) v1 R) → va_S A s.heap H locs → lv_has ls 7 [(0, .ref (i 0)), (1, .ref (xK g zi)), (2, .int (nI (pos))), (3, .int (nI (k))), (4, .int (nI (j)))] → W p l e rmX4_takeForm s m args below meth c H locs 0 0 (MQ below (va_Qi (fun r0 (_ : Unit) => r0 = bI ((tkA zi iv pos).1 = true)) (zB D ct A (fun _ : Unit => IW ct i (xE g) ((tkA zi iv pos).2) R)) A) args s rmX4_takeForm.cells rmX4_takeForm.slots A) (F0 m 10 ls []) := by
    intro fu
    induction fu with
    | zero => intro j k v1 H locs ls hj hk3 hn1 hs1 htot hfu; exact absurd hfu (Nat.not_lt_zero _)
    | succ fu ih10 =>
      intro j k v1 H locs ls hj hk3 hn1 hs1 htot hfu hP hD hS hl
      refine lv_iload hx hb dX4_takeForm_10 (lv_at hl 4 rfl) ?_
      refine lv_aload_n hx hb dX4_takeForm_12 rfl (lv_at hl 1 rfl) ?_
      refine zVIX [] [.int (nI (j))] (kJ0_length_8abf5 (IW ct i (xE g) v1 R) (zi) (show (zi) < 9 from hi)) hx hb hml hown hts (cwV 0 hts gX4_takeForm_J0_length_8abf5 rfl rfl rfl (by decide +kernel) ⟨(Nat.le_of_ble_eq_true rfl), (Nat.le_of_ble_eq_true rfl)⟩) hK hP hD hS hA hX (vk_recv (i := zi) hX.g1 hi hS) rfl hl.1 rfl (Nat.le_of_ble_eq_true rfl) dX4_takeForm_13 ⟨(Nat.le_of_ble_eq_true rfl), (Nat.le_of_ble_eq_true rfl)⟩ (fun r_13 _ H locs hr_13 hP hD hS => ?_)
      subst hr_13
      have hP : va_P D vwCl (IW ct i (xE g) v1 R) H := hP
      have hD : va_D A (IW ct i (xE g) v1 R) := hD
      refine zN_icmp_ge (tgt := 126) hx hb (by omega) (by omega) dX4_takeForm_16 (by decide) (fun c16_1 => ?_) (fun c16_1 => ?_)
      · skip
        have e8 : tkA zi iv pos = (true, v1) := by rw [show j = (fmL zi).length from by omega, List.drop_length] at htot; exact htot.symm
        have hP : va_P D vwCl (IW ct i (xE g) ((tkA zi iv pos).2) R) H := by rw [e8]; exact hP
        have hD : va_D A (IW ct i (xE g) ((tkA zi iv pos).2) R) := by rw [e8]; exact hD
        refine lv_iconst (v := nI (1)) hx hb dX4_takeForm_126 (by decide) ?_
        exact zZret () (by decide) hx hb hr hlocks hK hP hD hS dX4_takeForm_127 (show nI (1) = bI ((tkA zi iv pos).1 = true) from (bI_t (by rw [e8])).symm)
      · skip
        have hjl : j < (fmL zi).length := by omega
        have h128 := fm_128 hi hjl
        refine lv_aload_n hx hb dX4_takeForm_19 rfl (lv_at hl 1 rfl) ?_
        refine lv_iload hx hb dX4_takeForm_20 (lv_at hl 4 rfl) ?_
        refine zVIX [.int (nI (j))] [] (kJ0_charAt_5068e (IW ct i (xE g) v1 R) (j) (zi) (show (zi) < 9 from hi) (show (j) < (fmL (zi)).length from hjl)) hx hb hml hown hts (cwV 1 hts gX4_takeForm_J0_charAt_5068e rfl rfl rfl (by decide +kernel) ⟨(Nat.le_of_ble_eq_true rfl), (Nat.le_of_ble_eq_true rfl)⟩) hK hP hD hS hA hX (vk_recv (i := zi) hX.g1 hi hS) rfl hl.1 rfl (Nat.le_of_ble_eq_true rfl) dX4_takeForm_22 ⟨(Nat.le_of_ble_eq_true rfl), (Nat.le_of_ble_eq_true rfl)⟩ (fun r_22 _ H locs hr_22 hP hD hS => ?_)
        subst hr_22
        have hP : va_P D vwCl (IW ct i (xE g) v1 R) H := hP
        have hD : va_D A (IW ct i (xE g) v1 R) := hD
        refine lv_istore (lv' := [(5, .int (nI ((fmL (zi)).getD (j) 0))), (0, .ref (i 0)), (1, .ref (xK g zi)), (2, .int (nI (pos))), (3, .int (nI (k))), (4, .int (nI (j)))]) hx hb dX4_takeForm_25 hl (by decide) rfl (fun ls hl => ?_)
        refine lv_iload hx hb dX4_takeForm_27 (lv_at hl 0 rfl) ?_
        refine lv_bipush (v := nI (35)) hx hb dX4_takeForm_29 (by decide) ?_
        refine zN_icmp_eq (tgt := 69) hx hb (by omega) (by omega) dX4_takeForm_31 (by decide) (fun c31_2 => ?_) (fun c31_2 => ?_)
        · skip
          refine lv_aload_n hx hb dX4_takeForm_69 rfl (lv_at hl 1 rfl) ?_
          refine lv_aload_n hx hb dX4_takeForm_70 rfl (lv_at hl 1 rfl) ?_
          refine va_get (ci := 3) (v := .int (nI (i_st v1))) hx hb hts h_X4 hown hK hP 0 rfl rfl 4 (by decide) f36 (fun _ h9 => h9) rfl dX4_takeForm_71 ?_
          refine zVI [.int (nI (i_st v1))] [] (kX4_isDigit (i) ((xE g)) (v1) (R) (i_st v1) (show i_n v1 ≤ 60 from (by omega)) (show (i_st v1) < 2 ^ 31 from (by omega))) hx hb hml hown hts (cwV 1 hts gX4_takeForm_X4_isDigit rfl rfl rfl (by decide +kernel) ⟨(Nat.le_of_ble_eq_true rfl), (Nat.le_of_ble_eq_true rfl)⟩) hK hP hD hS hA (va_recv hK hP (ci := 3) (q0 := 0) rfl rfl) rfl hl.1 rfl (Nat.le_of_ble_eq_true rfl) dX4_takeForm_74 ⟨(Nat.le_of_ble_eq_true rfl), (Nat.le_of_ble_eq_true rfl)⟩ (fun r_74 _ H locs hr_74 hP hD hS => ?_)
          subst hr_74
          have hP : va_P D vwCl (IW ct i (xE g) v1 R) H := hP
          have hD : va_D A (IW ct i (xE g) v1 R) := hD
          refine zB_if_ne (tgt := 82) hx hb dX4_takeForm_77 (by decide) (fun c77_3 => ?_) (fun c77_3 => ?_)
          · skip
            refine lv_aload_n hx hb dX4_takeForm_82 rfl (lv_at hl 1 rfl) ?_
            refine lv_iload hx hb dX4_takeForm_83 (lv_at hl 0 rfl) ?_
            refine lv_bipush (v := nI (64)) hx hb dX4_takeForm_85 (by decide) ?_
            refine zN_icmp_ne (tgt := 94) hx hb (by omega) (by omega) dX4_takeForm_87 (by decide) (fun c87_4 => ?_) (fun c87_4 => ?_)
            · skip
              refine lv_iconst (v := nI (0)) hx hb dX4_takeForm_94 (by decide) ?_
              refine zVI [.int (nI (0))] [] (kX4_takeNumber_0 (i) ((xE g)) (v1) (R) (show i_n v1 ≤ 60 from (by omega)) (show i_st v1 ≤ 1000 from (by omega))) hx hb hml hown hts (cwV 1 hts gX4_takeForm_X4_takeNumber rfl rfl rfl (by decide +kernel) ⟨(Nat.le_of_ble_eq_true rfl), (Nat.le_of_ble_eq_true rfl)⟩) hK hP hD hS hA (va_recv hK hP (ci := 3) (q0 := 0) rfl rfl) rfl hl.1 rfl (Nat.le_of_ble_eq_true rfl) dX4_takeForm_95 ⟨(Nat.le_of_ble_eq_true rfl), (Nat.le_of_ble_eq_true rfl)⟩ (fun r_95 _ H locs hr_95 hP hD hS => ?_)
              subst hr_95
              have hP : va_P D vwCl (IW ct i (xE g) ((F_tn0 v1).2) R) H := hP
              have hD : va_D A (IW ct i (xE g) ((F_tn0 v1).2) R) := hD
              refine lv_istore (lv' := [(6, .int (((F_tn0 v1).1))), (5, .int (nI ((fmL (zi)).getD (j) 0))), (0, .ref (i 0)), (1, .ref (xK g zi)), (2, .int (nI (pos))), (3, .int (nI (k))), (4, .int (nI (j)))]) hx hb dX4_takeForm_98 hl (by decide) rfl (fun ls hl => ?_)
              refine lv_iload_n hx hb dX4_takeForm_100 rfl (lv_at hl 5 rfl) ?_
              refine lv_aload_n hx hb dX4_takeForm_101 rfl (lv_at hl 2 rfl) ?_
              refine va_get (ci := 3) (v := .ref (i 2)) hx hb hts h_X4 hown hK hP 0 rfl rfl 3 (by decide) f24 (fun _ h9 => h9) rfl dX4_takeForm_102 ?_
              refine va_alen (x := (3, _)) (v := nI (3)) hx hb hK hP 2 0 rfl rfl rfl dX4_takeForm_105 ?_
              refine zN_icmp_ge (tgt := 120) hx hb (by omega) (by omega) dX4_takeForm_106 (by decide) (fun c106_5 => ?_) (fun c106_5 => ?_)
              · skip
                refine lv_iinc (v := nI ((j + 1))) (lv' := [(4, .int (nI ((j + 1)))), (6, .int (((F_tn0 v1).1))), (5, .int (nI ((fmL (zi)).getD (j) 0))), (0, .ref (i 0)), (1, .ref (xK g zi)), (2, .int (nI (pos))), (3, .int (nI (k)))]) hx hb dX4_takeForm_120 hl (k := 6) rfl (zInc _) (by decide) rfl (fun ls hl => ?_)
                refine lv_goto (tgt := 10) hx hb dX4_takeForm_123 (by decide) ?_
                exact ih10 ((j + 1)) (k) (((F_tn0 v1).2)) H locs ls (by omega) (by omega) hn1 (by have q := dg_lt c77_3; show i_st v1 + 1 ≤ 1000; omega) (by rw [fm_drop hjl, tk_h c31_2 c77_3, setI_3 c106_5, nxI_3 c106_5] at htot; exact htot) (by omega) hP hD hS (lv_sub hl [3, 4, 5, 6, 0] rfl)
              · skip
                refine lv_aload_n hx hb dX4_takeForm_109 rfl (lv_at hl 2 rfl) ?_
                refine va_get (ci := 3) (v := .ref (i 2)) hx hb hts h_X4 hown hK hP 0 rfl rfl 3 (by decide) f24 (fun _ h9 => h9) rfl dX4_takeForm_110 ?_
                refine lv_iload_n hx hb dX4_takeForm_113 rfl (lv_at hl 5 rfl) ?_
                refine lv_iload hx hb dX4_takeForm_114 (lv_at hl 0 rfl) ?_
                refine zIast (n := 3) (f := i_nu ((F_tn0 v1).2)) (i := k) hx hb hK hP hD hS 2 rfl (by omega) (by decide) dX4_takeForm_116 (fun H locs hP hD hS => ?_)
                have hP : va_P D vwCl (IW ct i (xE g) (i_sg ((F_tn0 v1).2), i_n ((F_tn0 v1).2), i_cm ((F_tn0 v1).2), (upd (i_nu ((F_tn0 v1).2)) (k) (((F_tn0 v1).1))), i_st ((F_tn0 v1).2)) R) H := hP
                have hD : va_D A (IW ct i (xE g) (i_sg ((F_tn0 v1).2), i_n ((F_tn0 v1).2), i_cm ((F_tn0 v1).2), (upd (i_nu ((F_tn0 v1).2)) (k) (((F_tn0 v1).1))), i_st ((F_tn0 v1).2)) R) := hD
                refine lv_iinc (v := nI ((k + 1))) (lv' := [(3, .int (nI ((k + 1)))), (6, .int (((F_tn0 v1).1))), (5, .int (nI ((fmL (zi)).getD (j) 0))), (0, .ref (i 0)), (1, .ref (xK g zi)), (2, .int (nI (pos))), (4, .int (nI (j)))]) hx hb dX4_takeForm_117 hl (k := 5) rfl (zInc _) (by decide) rfl (fun ls hl => ?_)
                refine lv_iinc (v := nI ((j + 1))) (lv' := [(4, .int (nI ((j + 1)))), (3, .int (nI ((k + 1)))), (6, .int (((F_tn0 v1).1))), (5, .int (nI ((fmL (zi)).getD (j) 0))), (0, .ref (i 0)), (1, .ref (xK g zi)), (2, .int (nI (pos)))]) hx hb dX4_takeForm_120 hl (k := 6) rfl (zInc _) (by decide) rfl (fun ls hl => ?_)
                refine lv_goto (tgt := 10) hx hb dX4_takeForm_123 (by decide) ?_
                exact ih10 ((j + 1)) ((k + 1)) ((i_sg ((F_tn0 v1).2), i_n ((F_tn0 v1).2), i_cm ((F_tn0 v1).2), (upd (i_nu ((F_tn0 v1).2)) (k) (((F_tn0 v1).1))), i_st ((F_tn0 v1).2))) H locs ls (by omega) (by omega) hn1 (by have q := dg_lt c77_3; show i_st v1 + 1 ≤ 1000; omega) (by rw [fm_drop hjl, tk_h c31_2 c77_3, setI_l c106_5, nxI_l c106_5] at htot; exact htot) (by omega) hP hD hS (lv_sub hl [4, 5, 6, 1, 0] rfl)
            · skip
              exact (show False by omega).elim
          · skip
            have e8 : tkA zi iv pos = (false, v1) := by rw [fm_drop hjl, tk_hn c31_2 c77_3] at htot; exact htot.symm
            have hP : va_P D vwCl (IW ct i (xE g) ((tkA zi iv pos).2) R) H := by rw [e8]; exact hP
            have hD : va_D A (IW ct i (xE g) ((tkA zi iv pos).2) R) := by rw [e8]; exact hD
            refine lv_iconst (v := nI (0)) hx hb dX4_takeForm_80 (by decide) ?_
            exact zZret () (by decide) hx hb hr hlocks hK hP hD hS dX4_takeForm_81 (show nI (0) = bI ((tkA zi iv pos).1 = true) from (bI_f (by rw [e8]; exact Bool.false_ne_true)).symm)
        · skip
          refine lv_iload hx hb dX4_takeForm_34 (lv_at hl 0 rfl) ?_
          refine lv_bipush (v := nI (64)) hx hb dX4_takeForm_36 (by decide) ?_
          refine zN_icmp_eq (tgt := 69) hx hb (by omega) (by omega) dX4_takeForm_38 (by decide) (fun c38_6 => ?_) (fun c38_6 => ?_)
          · skip
            refine lv_aload_n hx hb dX4_takeForm_69 rfl (lv_at hl 1 rfl) ?_
            refine lv_aload_n hx hb dX4_takeForm_70 rfl (lv_at hl 1 rfl) ?_
            refine va_get (ci := 3) (v := .int (nI (i_st v1))) hx hb hts h_X4 hown hK hP 0 rfl rfl 4 (by decide) f36 (fun _ h9 => h9) rfl dX4_takeForm_71 ?_
            refine zVI [.int (nI (i_st v1))] [] (kX4_isDigit (i) ((xE g)) (v1) (R) (i_st v1) (show i_n v1 ≤ 60 from (by omega)) (show (i_st v1) < 2 ^ 31 from (by omega))) hx hb hml hown hts (cwV 1 hts gX4_takeForm_X4_isDigit rfl rfl rfl (by decide +kernel) ⟨(Nat.le_of_ble_eq_true rfl), (Nat.le_of_ble_eq_true rfl)⟩) hK hP hD hS hA (va_recv hK hP (ci := 3) (q0 := 0) rfl rfl) rfl hl.1 rfl (Nat.le_of_ble_eq_true rfl) dX4_takeForm_74 ⟨(Nat.le_of_ble_eq_true rfl), (Nat.le_of_ble_eq_true rfl)⟩ (fun r_74 _ H locs hr_74 hP hD hS => ?_)
            subst hr_74
            have hP : va_P D vwCl (IW ct i (xE g) v1 R) H := hP
            have hD : va_D A (IW ct i (xE g) v1 R) := hD
            refine zB_if_ne (tgt := 82) hx hb dX4_takeForm_77 (by decide) (fun c77_7 => ?_) (fun c77_7 => ?_)
            · skip
              refine lv_aload_n hx hb dX4_takeForm_82 rfl (lv_at hl 1 rfl) ?_
              refine lv_iload hx hb dX4_takeForm_83 (lv_at hl 0 rfl) ?_
              refine lv_bipush (v := nI (64)) hx hb dX4_takeForm_85 (by decide) ?_
              refine zN_icmp_ne (tgt := 94) hx hb (by omega) (by omega) dX4_takeForm_87 (by decide) (fun c87_8 => ?_) (fun c87_8 => ?_)
              · skip
                exact (show False by omega).elim
              · skip
                refine lv_iconst (v := nI (1)) hx hb dX4_takeForm_90 (by decide) ?_
                refine lv_goto (tgt := 95) hx hb dX4_takeForm_91 (by decide) ?_
                refine zVI [.int (nI (1))] [] (kX4_takeNumber_1 (i) ((xE g)) (v1) (R) (show i_n v1 ≤ 60 from (by omega)) (show i_st v1 ≤ 1000 from (by omega))) hx hb hml hown hts (cwV 1 hts gX4_takeForm_X4_takeNumber rfl rfl rfl (by decide +kernel) ⟨(Nat.le_of_ble_eq_true rfl), (Nat.le_of_ble_eq_true rfl)⟩) hK hP hD hS hA (va_recv hK hP (ci := 3) (q0 := 0) rfl rfl) rfl hl.1 rfl (Nat.le_of_ble_eq_true rfl) dX4_takeForm_95 ⟨(Nat.le_of_ble_eq_true rfl), (Nat.le_of_ble_eq_true rfl)⟩ (fun r_95 _ H locs hr_95 hP hD hS => ?_)
                subst hr_95
                have hP : va_P D vwCl (IW ct i (xE g) ((F_tn1 v1).2) R) H := hP
                have hD : va_D A (IW ct i (xE g) ((F_tn1 v1).2) R) := hD
                refine lv_istore (lv' := [(6, .int (((F_tn1 v1).1))), (5, .int (nI ((fmL (zi)).getD (j) 0))), (0, .ref (i 0)), (1, .ref (xK g zi)), (2, .int (nI (pos))), (3, .int (nI (k))), (4, .int (nI (j)))]) hx hb dX4_takeForm_98 hl (by decide) rfl (fun ls hl => ?_)
                refine lv_iload_n hx hb dX4_takeForm_100 rfl (lv_at hl 5 rfl) ?_
                refine lv_aload_n hx hb dX4_takeForm_101 rfl (lv_at hl 2 rfl) ?_
                refine va_get (ci := 3) (v := .ref (i 2)) hx hb hts h_X4 hown hK hP 0 rfl rfl 3 (by decide) f24 (fun _ h9 => h9) rfl dX4_takeForm_102 ?_
                refine va_alen (x := (3, _)) (v := nI (3)) hx hb hK hP 2 0 rfl rfl rfl dX4_takeForm_105 ?_
                refine zN_icmp_ge (tgt := 120) hx hb (by omega) (by omega) dX4_takeForm_106 (by decide) (fun c106_9 => ?_) (fun c106_9 => ?_)
                · skip
                  refine lv_iinc (v := nI ((j + 1))) (lv' := [(4, .int (nI ((j + 1)))), (6, .int (((F_tn1 v1).1))), (5, .int (nI ((fmL (zi)).getD (j) 0))), (0, .ref (i 0)), (1, .ref (xK g zi)), (2, .int (nI (pos))), (3, .int (nI (k)))]) hx hb dX4_takeForm_120 hl (k := 6) rfl (zInc _) (by decide) rfl (fun ls hl => ?_)
                  refine lv_goto (tgt := 10) hx hb dX4_takeForm_123 (by decide) ?_
                  exact ih10 ((j + 1)) (k) (((F_tn1 v1).2)) H locs ls (by omega) (by omega) ((tn1_g v1).2.1.trans hn1) (by have q := tn1_lt c77_7; show i_st (F_tn1 v1).2 ≤ 1000; omega) (by rw [fm_drop hjl, tk_a c31_2 c38_6 c77_7, setI_3 c106_9, nxI_3 c106_9] at htot; exact htot) (by omega) hP hD hS (lv_sub hl [3, 4, 5, 6, 0] rfl)
                · skip
                  refine lv_aload_n hx hb dX4_takeForm_109 rfl (lv_at hl 2 rfl) ?_
                  refine va_get (ci := 3) (v := .ref (i 2)) hx hb hts h_X4 hown hK hP 0 rfl rfl 3 (by decide) f24 (fun _ h9 => h9) rfl dX4_takeForm_110 ?_
                  refine lv_iload_n hx hb dX4_takeForm_113 rfl (lv_at hl 5 rfl) ?_
                  refine lv_iload hx hb dX4_takeForm_114 (lv_at hl 0 rfl) ?_
                  refine zIast (n := 3) (f := i_nu ((F_tn1 v1).2)) (i := k) hx hb hK hP hD hS 2 rfl (by omega) (by decide) dX4_takeForm_116 (fun H locs hP hD hS => ?_)
                  have hP : va_P D vwCl (IW ct i (xE g) (i_sg ((F_tn1 v1).2), i_n ((F_tn1 v1).2), i_cm ((F_tn1 v1).2), (upd (i_nu ((F_tn1 v1).2)) (k) (((F_tn1 v1).1))), i_st ((F_tn1 v1).2)) R) H := hP
                  have hD : va_D A (IW ct i (xE g) (i_sg ((F_tn1 v1).2), i_n ((F_tn1 v1).2), i_cm ((F_tn1 v1).2), (upd (i_nu ((F_tn1 v1).2)) (k) (((F_tn1 v1).1))), i_st ((F_tn1 v1).2)) R) := hD
                  refine lv_iinc (v := nI ((k + 1))) (lv' := [(3, .int (nI ((k + 1)))), (6, .int (((F_tn1 v1).1))), (5, .int (nI ((fmL (zi)).getD (j) 0))), (0, .ref (i 0)), (1, .ref (xK g zi)), (2, .int (nI (pos))), (4, .int (nI (j)))]) hx hb dX4_takeForm_117 hl (k := 5) rfl (zInc _) (by decide) rfl (fun ls hl => ?_)
                  refine lv_iinc (v := nI ((j + 1))) (lv' := [(4, .int (nI ((j + 1)))), (3, .int (nI ((k + 1)))), (6, .int (((F_tn1 v1).1))), (5, .int (nI ((fmL (zi)).getD (j) 0))), (0, .ref (i 0)), (1, .ref (xK g zi)), (2, .int (nI (pos)))]) hx hb dX4_takeForm_120 hl (k := 6) rfl (zInc _) (by decide) rfl (fun ls hl => ?_)
                  refine lv_goto (tgt := 10) hx hb dX4_takeForm_123 (by decide) ?_
                  exact ih10 ((j + 1)) ((k + 1)) ((i_sg ((F_tn1 v1).2), i_n ((F_tn1 v1).2), i_cm ((F_tn1 v1).2), (upd (i_nu ((F_tn1 v1).2)) (k) (((F_tn1 v1).1))), i_st ((F_tn1 v1).2))) H locs ls (by omega) (by omega) ((tn1_g v1).2.1.trans hn1) (by have q := tn1_lt c77_7; show i_st (F_tn1 v1).2 ≤ 1000; omega) (by rw [fm_drop hjl, tk_a c31_2 c38_6 c77_7, setI_l c106_9, nxI_l c106_9] at htot; exact htot) (by omega) hP hD hS (lv_sub hl [4, 5, 6, 1, 0] rfl)
            · skip
              have e8 : tkA zi iv pos = (false, v1) := by rw [fm_drop hjl, tk_an c31_2 c38_6 c77_7] at htot; exact htot.symm
              have hP : va_P D vwCl (IW ct i (xE g) ((tkA zi iv pos).2) R) H := by rw [e8]; exact hP
              have hD : va_D A (IW ct i (xE g) ((tkA zi iv pos).2) R) := by rw [e8]; exact hD
              refine lv_iconst (v := nI (0)) hx hb dX4_takeForm_80 (by decide) ?_
              exact zZret () (by decide) hx hb hr hlocks hK hP hD hS dX4_takeForm_81 (show nI (0) = bI ((tkA zi iv pos).1 = true) from (bI_f (by rw [e8]; exact Bool.false_ne_true)).symm)
          · skip
            refine lv_aload_n hx hb dX4_takeForm_41 rfl (lv_at hl 1 rfl) ?_
            refine lv_aload_n hx hb dX4_takeForm_42 rfl (lv_at hl 1 rfl) ?_
            refine va_get (ci := 3) (v := .int (nI (i_st v1))) hx hb hts h_X4 hown hK hP 0 rfl rfl 4 (by decide) f36 (fun _ h9 => h9) rfl dX4_takeForm_43 ?_
            refine zVI [.int (nI (i_st v1))] [] (kX4_signAt (i) ((xE g)) (v1) (R) (i_st v1) (show i_n v1 ≤ 60 from (by omega)) (show (i_st v1) < 2 ^ 31 from (by omega))) hx hb hml hown hts (cwV 1 hts gX4_takeForm_X4_signAt rfl rfl rfl (by decide +kernel) ⟨(Nat.le_of_ble_eq_true rfl), (Nat.le_of_ble_eq_true rfl)⟩) hK hP hD hS hA (va_recv hK hP (ci := 3) (q0 := 0) rfl rfl) rfl hl.1 rfl (Nat.le_of_ble_eq_true rfl) dX4_takeForm_46 ⟨(Nat.le_of_ble_eq_true rfl), (Nat.le_of_ble_eq_true rfl)⟩ (fun r_46 _ H locs hr_46 hP hD hS => ?_)
            subst hr_46
            have hP : va_P D vwCl (IW ct i (xE g) v1 R) H := hP
            have hD : va_D A (IW ct i (xE g) v1 R) := hD
            refine lv_iload hx hb dX4_takeForm_49 (lv_at hl 0 rfl) ?_
            refine lv_icmp_eq (tgt := 56) hx hb dX4_takeForm_51 (by decide) (fun c51_10 => ?_) (fun c51_10 => ?_)
            · skip
              refine lv_aload_n hx hb dX4_takeForm_56 rfl (lv_at hl 1 rfl) ?_
              refine lv_dup hx hb dX4_takeForm_57 rfl ?_
              refine va_get (ci := 3) (v := .int (nI (i_st v1))) hx hb hts h_X4 hown hK hP 0 rfl rfl 4 (by decide) f36 (fun _ h9 => h9) rfl dX4_takeForm_58 ?_
              refine lv_iconst (v := nI (1)) hx hb dX4_takeForm_61 (by decide) ?_
              refine zNadd hx hb dX4_takeForm_62 ?_
              refine va_put (ci := 3) (v := .int (nI ((i_st v1 + 1)))) (ty := .int) hx hb hts h_X4 tyX4 tyX4_ok nmX4 hown hK hP hD hS 0 rfl rfl 4 (by decide) f36 (fun _ h9 => h9) rfl (by decide +kernel) rfl rfl (Nat.le_of_ble_eq_true rfl) dX4_takeForm_63 (fun H locs hP hD hS => ?_)
              have hP : va_P D vwCl (IW ct i (xE g) (i_sg v1, i_n v1, i_cm v1, i_nu v1, (i_st v1 + 1)) R) H := hP
              have hD : va_D A (IW ct i (xE g) (i_sg v1, i_n v1, i_cm v1, i_nu v1, (i_st v1 + 1)) R) := hD
              refine lv_goto (tgt := 120) hx hb dX4_takeForm_66 (by decide) ?_
              refine lv_iinc (v := nI ((j + 1))) (lv' := [(4, .int (nI ((j + 1)))), (5, .int (nI ((fmL (zi)).getD (j) 0))), (0, .ref (i 0)), (1, .ref (xK g zi)), (2, .int (nI (pos))), (3, .int (nI (k)))]) hx hb dX4_takeForm_120 hl (k := 5) rfl (zInc _) (by decide) rfl (fun ls hl => ?_)
              refine lv_goto (tgt := 10) hx hb dX4_takeForm_123 (by decide) ?_
              exact ih10 ((j + 1)) (k) ((i_sg v1, i_n v1, i_cm v1, i_nu v1, (i_st v1 + 1))) H locs ls (by omega) (by omega) hn1 (by have q := sg_ne c51_10 (by omega); show i_st v1 + 1 ≤ 1000; omega) (by rw [fm_drop hjl, tk_l c31_2 c38_6 c51_10] at htot; exact htot) (by omega) hP hD hS (lv_sub hl [2, 3, 4, 5, 0] rfl)
            · skip
              have e8 : tkA zi iv pos = (false, v1) := by rw [fm_drop hjl, tk_ln c31_2 c38_6 c51_10] at htot; exact htot.symm
              have hP : va_P D vwCl (IW ct i (xE g) ((tkA zi iv pos).2) R) H := by rw [e8]; exact hP
              have hD : va_D A (IW ct i (xE g) ((tkA zi iv pos).2) R) := by rw [e8]; exact hD
              refine lv_iconst (v := nI (0)) hx hb dX4_takeForm_54 (by decide) ?_
              exact zZret () (by decide) hx hb hr hlocks hK hP hD hS dX4_takeForm_55 (show nI (0) = bI ((tkA zi iv pos).1 = true) from (bI_f (by rw [e8]; exact Bool.false_ne_true)).symm)
  exact lp10 (((fmL zi).length - (0)) + 1) (0) (0) (iSt iv pos) H locs ls (by omega) (by omega) rfl hpos rfl (Nat.lt_succ_self _) hP hD hS (lv_sub hl [2, 3, 4, 1, 0] rfl)
abbrev rmX4_takeCommand : Room := { frames := 5, cells := 0, slots := 0, locals := 111 }
theorem in_X4_takeCommand_X4 : ∀ w ∈ u_ws RX4 TX4 5, w ∈ wsX4_takeCommand := by decide +kernel
set_option maxHeartbeats 4000000 in
set_option maxRecDepth 100000 in
theorem kX4_takeCommand {D : va_G} {g : XG} {ct : Nat → ClassId} {l : Launch} (i : Nat → Nat) (iv : IS) (R : va_W) (pos : Nat) (hn60 : i_n iv ≤ 60) (hpos : pos ≤ 1000) : MX D ct g l yX4_takeCommand wsX4_takeCommand rmX4_takeCommand (IW ct i (xE g) iv R) [.ref (i 0), .int (nI (pos))] (QI D ct (fun r0 (_ : Unit) => r0 = bI ((tkQ iv pos).1 = true)) (fun _ : Unit => IW ct i (xE g) ((tkQ iv pos).2) R)) := by
  refine MXof (cc := cX4_takeCommand) (maxL := 7) (ret := (some .boolean)) (by decide) rfl (Nat.le_of_ble_eq_true rfl) ?_
  intro p e s m args below meth c A H locs F hP hK hD hS hA hX ls hl
  obtain ⟨hx, hb, hr, hlocks, hml, hown, hts, hin⟩ := F
  have hl : lv_has ls 7 [(0, .ref (i 0)), (1, .int (nI (pos)))] := hl
  have h_X4 := in_X4_takeCommand_X4
  have f21 := hts (.fieldLink RX4 21 "CartArguments$Input" "command" "LCartArguments$Command;") (by decide +kernel)
  have f36 := hts (.fieldLink RX4 36 "CartArguments$Input" "stop" "I") (by decide +kernel)
  refine lv_iload_n hx hb dX4_takeCommand_0 rfl (lv_at hl 1 rfl) ?_
  refine lv_istore_n (lv' := [(2, .int (nI (pos))), (0, .ref (i 0)), (1, .int (nI (pos)))]) hx hb dX4_takeCommand_1 rfl hl (by decide) rfl (fun ls hl => ?_)
  refine va_gets (v := .ref (xC g)) hx hb hX.g3 hS hown (hts (.fieldLink RX4 43 "CartArguments$Input" "COMMANDS" "[LCartArguments$Command;") (by decide +kernel)) (fun _ h => h) dX4_takeCommand_2 ?_
  refine lv_astore_n (lv' := [(3, .ref (xC g)), (2, .int (nI (pos))), (0, .ref (i 0)), (1, .int (nI (pos)))]) hx hb dX4_takeCommand_5 rfl hl (by decide) rfl (fun ls hl => ?_)
  refine lv_aload_n hx hb dX4_takeCommand_6 rfl (lv_at hl 0 rfl) ?_
  refine va_tlen (v := nI (9)) hx hb hX.g4 hS rfl dX4_takeCommand_7 ?_
  refine lv_istore (lv' := [(4, .int (nI (9))), (3, .ref (xC g)), (2, .int (nI (pos))), (0, .ref (i 0)), (1, .int (nI (pos)))]) hx hb dX4_takeCommand_8 hl (by decide) rfl (fun ls hl => ?_)
  refine lv_iconst (v := nI (0)) hx hb dX4_takeCommand_10 (by decide) ?_
  refine lv_istore (lv' := [(5, .int (nI (0))), (4, .int (nI (9))), (3, .ref (xC g)), (2, .int (nI (pos))), (0, .ref (i 0)), (1, .int (nI (pos)))]) hx hb dX4_takeCommand_11 hl (by decide) rfl (fun ls hl => ?_)
  have lp13 : ∀ (fu : Nat) (j : Nat) (f9 : Nat) (v1 : IS) (H : Heap) (locs : List Loc) (ls : Array Slot), (j ≤ 9) → (i_n v1 = i_n iv) → (f9 ≤ 1000) → (tkC pos (9 - j) v1 f9 = tkQ iv pos) → 9 - j < fu → va_P D vwCl (IW ct i (xE g) v1 R) H → va_D A (IW ct i (xE g) v1 R) → va_S A s.heap H locs → lv_has ls 7 [(0, .ref (i 0)), (1, .int (nI (pos))), (2, .int (nI (f9))), (3, .ref (xC g)), (4, .int (nI (9))), (5, .int (nI (j)))] → W p l e rmX4_takeCommand s m args below meth c H locs 0 0 (MQ below (va_Qi (fun r0 (_ : Unit) => r0 = bI ((tkQ iv pos).1 = true)) (zB D ct A (fun _ : Unit => IW ct i (xE g) ((tkQ iv pos).2) R)) A) args s rmX4_takeCommand.cells rmX4_takeCommand.slots A) (F0 m 13 ls []) := by
    intro fu
    induction fu with
    | zero => intro j f9 v1 H locs ls hj hn1 hf1 htot hfu; exact absurd hfu (Nat.not_lt_zero _)
    | succ fu ih13 =>
      intro j f9 v1 H locs ls hj hn1 hf1 htot hfu hP hD hS hl
      refine lv_iload hx hb dX4_takeCommand_13 (lv_at hl 5 rfl) ?_
      refine lv_iload hx hb dX4_takeCommand_15 (lv_at hl 4 rfl) ?_
      refine zN_icmp_ge (tgt := 62) hx hb (by omega) (by omega) dX4_takeCommand_17 (by decide) (fun c17_1 => ?_) (fun c17_1 => ?_)
      · skip
        refine lv_aload_n hx hb dX4_takeCommand_62 rfl (lv_at hl 0 rfl) ?_
        refine lv_iload_n hx hb dX4_takeCommand_63 rfl (lv_at hl 2 rfl) ?_
        refine va_put (ci := 3) (v := .int (nI (f9))) (ty := .int) hx hb hts h_X4 tyX4 tyX4_ok nmX4 hown hK hP hD hS 0 rfl rfl 4 (by decide) f36 (fun _ h9 => h9) rfl (by decide +kernel) rfl rfl (Nat.le_of_ble_eq_true rfl) dX4_takeCommand_64 (fun H locs hP hD hS => ?_)
        have hP : va_P D vwCl (IW ct i (xE g) (i_sg v1, i_n v1, i_cm v1, i_nu v1, f9) R) H := hP
        have hD : va_D A (IW ct i (xE g) (i_sg v1, i_n v1, i_cm v1, i_nu v1, f9) R) := hD
        have e8 : tkQ iv pos = (false, iSt v1 f9) := by rw [show 9 - j = 0 from by omega] at htot; exact htot.symm
        have hP : va_P D vwCl (IW ct i (xE g) ((tkQ iv pos).2) R) H := by rw [e8]; exact hP
        have hD : va_D A (IW ct i (xE g) ((tkQ iv pos).2) R) := by rw [e8]; exact hD
        refine lv_iconst (v := nI (0)) hx hb dX4_takeCommand_67 (by decide) ?_
        exact zZret () (by decide) hx hb hr hlocks hK hP hD hS dX4_takeCommand_68 (show nI (0) = bI ((tkQ iv pos).1 = true) from (bI_f (by rw [e8]; exact Bool.false_ne_true)).symm)
      · skip
        refine lv_aload_n hx hb dX4_takeCommand_20 rfl (lv_at hl 3 rfl) ?_
        refine lv_iload hx hb dX4_takeCommand_21 (lv_at hl 5 rfl) ?_
        refine vb_tq (v := .ref (xE g j)) hx hb hX.g4 hS (vp_in_nI (n := j) (N := 9) (by omega) (by decide)) (by show Value.ref (xE g (nI j).toNatClampNeg) = _; rw [nI_clamp (by omega)]) dX4_takeCommand_23 ?_
        refine lv_astore (lv' := [(6, .ref (xE g j)), (0, .ref (i 0)), (1, .int (nI (pos))), (2, .int (nI (f9))), (3, .ref (xC g)), (4, .int (nI (9))), (5, .int (nI (j)))]) hx hb dX4_takeCommand_24 hl (by decide) rfl (fun ls hl => ?_)
        refine lv_aload_n hx hb dX4_takeCommand_26 rfl (lv_at hl 1 rfl) ?_
        refine lv_aload hx hb dX4_takeCommand_27 (lv_at hl 0 rfl) ?_
        refine vk_getf (v := .ref (xK g j)) hx hb (hX.cmd (i := j) (by omega)).2.1 hS hown (hts (.fieldLink RX4 47 "CartArguments$Command" "form" "Ljava/lang/String;") (by decide +kernel)) (fun _ h => h) dX4_takeCommand_29 ?_
        refine lv_iload_n hx hb dX4_takeCommand_32 rfl (lv_at hl 2 rfl) ?_
        refine zVIX [.ref (xK g j), .int (nI (pos))] [] (kX4_takeForm (i) (v1) (R) (pos) (j) (show (j) < 9 from (by omega)) (show i_n v1 ≤ 60 from (by omega)) (show (pos) ≤ 1000 from (by omega))) hx hb hml hown hts (cwV 2 hts gX4_takeCommand_X4_takeForm rfl rfl rfl (by decide +kernel) ⟨(Nat.le_of_ble_eq_true rfl), (Nat.le_of_ble_eq_true rfl)⟩) hK hP hD hS hA hX (va_recv hK hP (ci := 3) (q0 := 0) rfl rfl) rfl hl.1 rfl (Nat.le_of_ble_eq_true rfl) dX4_takeCommand_33 ⟨(Nat.le_of_ble_eq_true rfl), (Nat.le_of_ble_eq_true rfl)⟩ (fun r_33 _ H locs hr_33 hP hD hS => ?_)
        subst hr_33
        have hP : va_P D vwCl (IW ct i (xE g) ((tkA (j) v1 (pos)).2) R) H := hP
        have hD : va_D A (IW ct i (xE g) ((tkA (j) v1 (pos)).2) R) := hD
        refine zB_if_eq (tgt := 47) hx hb dX4_takeCommand_36 (by decide) (fun c36_2 => ?_) (fun c36_2 => ?_)
        · skip
          refine lv_iload_n hx hb dX4_takeCommand_47 rfl (lv_at hl 3 rfl) ?_
          refine lv_aload_n hx hb dX4_takeCommand_48 rfl (lv_at hl 1 rfl) ?_
          refine va_get (ci := 3) (v := .int (nI (i_st ((tkA (j) v1 (pos)).2)))) hx hb hts h_X4 hown hK hP 0 rfl rfl 4 (by decide) f36 (fun _ h9 => h9) rfl dX4_takeCommand_49 ?_
          refine va_mmax hx hb (hml.trans hl.1.symm) hown (hts (.methodLink RX4 55 Lib.Math.max.name) (by decide +kernel)) (hts (.static Lib.Math.max.name) (by decide +kernel)) (hts (.initialized "java/lang/Math") (by decide +kernel)) (hts (.code Lib.Math.max.name Lib.Math.max.code 2 (some .int)) (by decide +kernel)) (Nat.le_of_ble_eq_true rfl) (Nat.le_of_ble_eq_true rfl) (Nat.le_of_ble_eq_true rfl) (Nat.le_of_ble_eq_true rfl) dX4_takeCommand_52 ?_
          have hg := tkA_g (i := j) (by omega) v1 (pos := pos) (B := 1000) (by omega) (by omega)
          refine zTop (y := nI (if f9 < i_st (tkA j v1 pos).2 then i_st (tkA j v1 pos).2 else f9)) (nI_max (by omega) (by omega)) ?_
          refine lv_istore_n (lv' := [(2, .int (nI (if f9 < i_st (tkA j v1 pos).2 then i_st (tkA j v1 pos).2 else f9))), (6, .ref (xE g j)), (0, .ref (i 0)), (1, .int (nI (pos))), (3, .ref (xC g)), (4, .int (nI (9))), (5, .int (nI (j)))]) hx hb dX4_takeCommand_55 rfl hl (by decide) rfl (fun ls hl => ?_)
          refine lv_iinc (v := nI ((j + 1))) (lv' := [(5, .int (nI ((j + 1)))), (2, .int (nI (if f9 < i_st (tkA j v1 pos).2 then i_st (tkA j v1 pos).2 else f9))), (6, .ref (xE g j)), (0, .ref (i 0)), (1, .int (nI (pos))), (3, .ref (xC g)), (4, .int (nI (9)))]) hx hb dX4_takeCommand_56 hl (k := 6) rfl (zInc _) (by decide) rfl (fun ls hl => ?_)
          refine lv_goto (tgt := 13) hx hb dX4_takeCommand_59 (by decide) ?_
          exact ih13 ((j + 1)) (if f9 < i_st (tkA j v1 pos).2 then i_st (tkA j v1 pos).2 else f9) (((tkA (j) v1 (pos)).2)) H locs ls (by omega) (hg.2.1.trans hn1) (by split <;> omega) (by rw [tkC_f (by omega) c36_2] at htot; exact htot) (by omega) hP hD hS (lv_sub hl [3, 4, 1, 5, 6, 0] rfl)
        · skip
          refine lv_aload_n hx hb dX4_takeCommand_39 rfl (lv_at hl 1 rfl) ?_
          refine lv_aload hx hb dX4_takeCommand_40 (lv_at hl 0 rfl) ?_
          refine va_put (ci := 3) (v := .ref (xE g j)) (ty := .object RX2) hx hb hts h_X4 tyX4 tyX4_ok nmX4 hown hK hP hD hS 0 rfl rfl 2 (by decide) f21 (fun _ h9 => h9) rfl (by decide +kernel) rfl rfl (Nat.le_of_ble_eq_true rfl) dX4_takeCommand_42 (fun H locs hP hD hS => ?_)
          have hP : va_P D vwCl (IW ct i (xE g) (i_sg ((tkA (j) v1 (pos)).2), i_n ((tkA (j) v1 (pos)).2), j, i_nu ((tkA (j) v1 (pos)).2), i_st ((tkA (j) v1 (pos)).2)) R) H := hP
          have hD : va_D A (IW ct i (xE g) (i_sg ((tkA (j) v1 (pos)).2), i_n ((tkA (j) v1 (pos)).2), j, i_nu ((tkA (j) v1 (pos)).2), i_st ((tkA (j) v1 (pos)).2)) R) := hD
          have e8 : tkQ iv pos = (true, (i_sg ((tkA (j) v1 (pos)).2), i_n ((tkA (j) v1 (pos)).2), j, i_nu ((tkA (j) v1 (pos)).2), i_st ((tkA (j) v1 (pos)).2))) := by rw [tkC_t (by omega) c36_2] at htot; exact htot.symm
          have hP : va_P D vwCl (IW ct i (xE g) ((tkQ iv pos).2) R) H := by rw [e8]; exact hP
          have hD : va_D A (IW ct i (xE g) ((tkQ iv pos).2) R) := by rw [e8]; exact hD
          refine lv_iconst (v := nI (1)) hx hb dX4_takeCommand_45 (by decide) ?_
          exact zZret () (by decide) hx hb hr hlocks hK hP hD hS dX4_takeCommand_46 (show nI (1) = bI ((tkQ iv pos).1 = true) from (bI_t (by rw [e8])).symm)
  exact lp13 ((9 - (0)) + 1) (0) (pos) (iv) H locs ls (by omega) rfl (by omega) rfl (Nat.lt_succ_self _) hP hD hS (lv_sub hl [4, 5, 3, 2, 1, 0] rfl)
abbrev rmX4_findFault : Room := { frames := 6, cells := 0, slots := 0, locals := 137 }
theorem in_X4_findFault_X4 : ∀ w ∈ u_ws RX4 TX4 5, w ∈ wsX4_findFault := by decide +kernel
set_option maxHeartbeats 4000000 in
set_option maxRecDepth 100000 in
theorem kX4_findFault {D : va_G} {g : XG} {ct : Nat → ClassId} {l : Launch} (i : Nat → Nat) (iv : IS) (R : va_W)  (hn60 : i_n iv ≤ 60) : MX D ct g l yX4_findFault wsX4_findFault rmX4_findFault (IW ct i (xE g) iv R) [.ref (i 0)] (QI D ct (fun r0 (_ : Unit) => r0 = (fnF 60 0 iv).1) (fun _ : Unit => IW ct i (xE g) ((fnF 60 0 iv).2) R)) := by
  refine MXof (cc := cX4_findFault) (maxL := 3) (ret := (some .int)) (by decide) rfl (Nat.le_of_ble_eq_true rfl) ?_
  intro p e s m args below meth c A H locs F hP hK hD hS hA hX ls hl
  obtain ⟨hx, hb, hr, hlocks, hml, hown, hts, hin⟩ := F
  have hl : lv_has ls 3 [(0, .ref (i 0))] := hl
  have h_X4 := in_X4_findFault_X4
  have f28 := hts (.fieldLink RX4 28 "CartArguments$Input" "length" "I") (by decide +kernel)
  have f36 := hts (.fieldLink RX4 36 "CartArguments$Input" "stop" "I") (by decide +kernel)
  refine lv_iconst (v := nI (0)) hx hb dX4_findFault_0 (by decide) ?_
  refine lv_istore_n (lv' := [(1, .int (nI (0))), (0, .ref (i 0))]) hx hb dX4_findFault_1 rfl hl (by decide) rfl (fun ls hl => ?_)
  refine lv_iconst (v := nI (0)) hx hb dX4_findFault_2 (by decide) ?_
  refine lv_istore_n (lv' := [(2, .int (nI (0))), (1, .int (nI (0))), (0, .ref (i 0))]) hx hb dX4_findFault_3 rfl hl (by decide) rfl (fun ls hl => ?_)
  have lp4 : ∀ (fu : Nat) (c9 : Nat) (p9 : Nat) (v1 : IS) (H : Heap) (locs : List Loc) (ls : Array Slot), (c9 ≤ 60) → (i_n v1 = i_n iv) → (p9 ≤ 1000) → (fnF (60 - c9) p9 v1 = fnF 60 0 iv) → 60 - c9 < fu → va_P D vwCl (IW ct i (xE g) v1 R) H → va_D A (IW ct i (xE g) v1 R) → va_S A s.heap H locs → lv_has ls 3 [(0, .ref (i 0)), (1, .int (nI (p9))), (2, .int (nI (c9)))] → W p l e rmX4_findFault s m args below meth c H locs 0 0 (MQ below (va_Qi (fun r0 (_ : Unit) => r0 = (fnF 60 0 iv).1) (zB D ct A (fun _ : Unit => IW ct i (xE g) ((fnF 60 0 iv).2) R)) A) args s rmX4_findFault.cells rmX4_findFault.slots A) (F0 m 4 ls []) := by
    intro fu
    induction fu with
    | zero => intro c9 p9 v1 H locs ls hj hn1 hp1 htot hfu; exact absurd hfu (Nat.not_lt_zero _)
    | succ fu ih4 =>
      intro c9 p9 v1 H locs ls hj hn1 hp1 htot hfu hP hD hS hl
      refine lv_iload_n hx hb dX4_findFault_4 rfl (lv_at hl 2 rfl) ?_
      refine lv_bipush (v := nI (60)) hx hb dX4_findFault_5 (by decide) ?_
      refine zN_icmp_ge (tgt := 67) hx hb (by omega) (by omega) dX4_findFault_7 (by decide) (fun c7_1 => ?_) (fun c7_1 => ?_)
      · skip
        have e8 : fnF 60 0 iv = (nI p9, v1) := by rw [show 60 - c9 = 0 from by omega] at htot; exact htot.symm
        have hP : va_P D vwCl (IW ct i (xE g) ((fnF 60 0 iv).2) R) H := by rw [e8]; exact hP
        have hD : va_D A (IW ct i (xE g) ((fnF 60 0 iv).2) R) := by rw [e8]; exact hD
        refine lv_iload_n hx hb dX4_findFault_67 rfl (lv_at hl 1 rfl) ?_
        exact zIret () hx hb hr hlocks hK hP hD hS dX4_findFault_68 (show nI (p9) = (fnF 60 0 iv).1 from (by rw [e8]))
      · skip
        refine lv_aload_n hx hb dX4_findFault_10 rfl (lv_at hl 0 rfl) ?_
        refine lv_iload_n hx hb dX4_findFault_11 rfl (lv_at hl 1 rfl) ?_
        refine zVIX [.int (nI (p9))] [] (kX4_takeCommand (i) (v1) (R) (p9) (show i_n v1 ≤ 60 from (by omega)) (show (p9) ≤ 1000 from (by omega))) hx hb hml hown hts (cwV 1 hts gX4_findFault_X4_takeCommand rfl rfl rfl (by decide +kernel) ⟨(Nat.le_of_ble_eq_true rfl), (Nat.le_of_ble_eq_true rfl)⟩) hK hP hD hS hA hX (va_recv hK hP (ci := 3) (q0 := 0) rfl rfl) rfl hl.1 rfl (Nat.le_of_ble_eq_true rfl) dX4_findFault_12 ⟨(Nat.le_of_ble_eq_true rfl), (Nat.le_of_ble_eq_true rfl)⟩ (fun r_12 _ H locs hr_12 hP hD hS => ?_)
        subst hr_12
        have hP : va_P D vwCl (IW ct i (xE g) ((tkQ v1 (p9)).2) R) H := hP
        have hD : va_D A (IW ct i (xE g) ((tkQ v1 (p9)).2) R) := hD
        have hg := tkQ_g v1 (pos := p9) (B := 1000) (by omega) (by omega)
        refine zB_if_ne (tgt := 23) hx hb dX4_findFault_15 (by decide) (fun c15_2 => ?_) (fun c15_2 => ?_)
        · skip
          refine lv_aload_n hx hb dX4_findFault_23 rfl (lv_at hl 0 rfl) ?_
          refine va_get (ci := 3) (v := .int (nI (i_st ((tkQ v1 (p9)).2)))) hx hb hts h_X4 hown hK hP 0 rfl rfl 4 (by decide) f36 (fun _ h9 => h9) rfl dX4_findFault_24 ?_
          refine lv_aload_n hx hb dX4_findFault_27 rfl (lv_at hl 0 rfl) ?_
          refine va_get (ci := 3) (v := .int (nI (i_n ((tkQ v1 (p9)).2)))) hx hb hts h_X4 hown hK hP 0 rfl rfl 1 (by decide) f28 (fun _ h9 => h9) rfl dX4_findFault_28 ?_
          refine zN_icmp_lt (tgt := 36) hx hb (by omega) (by omega) dX4_findFault_31 (by decide) (fun c31_3 => ?_) (fun c31_3 => ?_)
          · skip
            refine lv_aload_n hx hb dX4_findFault_36 rfl (lv_at hl 0 rfl) ?_
            refine lv_aload_n hx hb dX4_findFault_37 rfl (lv_at hl 0 rfl) ?_
            refine va_get (ci := 3) (v := .int (nI (i_st ((tkQ v1 (p9)).2)))) hx hb hts h_X4 hown hK hP 0 rfl rfl 4 (by decide) f36 (fun _ h9 => h9) rfl dX4_findFault_38 ?_
            refine zVI [.int (nI (i_st ((tkQ v1 (p9)).2)))] [] (kX4_signAt (i) ((xE g)) (((tkQ v1 (p9)).2)) (R) (i_st ((tkQ v1 (p9)).2)) (show (i_n ((tkQ v1 (p9)).2)) ≤ 60 from (by omega)) (show (i_st ((tkQ v1 (p9)).2)) < 2 ^ 31 from (by omega))) hx hb hml hown hts (cwV 1 hts gX4_findFault_X4_signAt rfl rfl rfl (by decide +kernel) ⟨(Nat.le_of_ble_eq_true rfl), (Nat.le_of_ble_eq_true rfl)⟩) hK hP hD hS hA (va_recv hK hP (ci := 3) (q0 := 0) rfl rfl) rfl hl.1 rfl (Nat.le_of_ble_eq_true rfl) dX4_findFault_41 ⟨(Nat.le_of_ble_eq_true rfl), (Nat.le_of_ble_eq_true rfl)⟩ (fun r_41 _ H locs hr_41 hP hD hS => ?_)
            subst hr_41
            have hP : va_P D vwCl (IW ct i (xE g) ((tkQ v1 (p9)).2) R) H := hP
            have hD : va_D A (IW ct i (xE g) ((tkQ v1 (p9)).2) R) := hD
            refine lv_bipush (v := nI (59)) hx hb dX4_findFault_44 (by decide) ?_
            refine lv_icmp_eq (tgt := 54) hx hb dX4_findFault_46 (by decide) (fun c46_4 => ?_) (fun c46_4 => ?_)
            · skip
              refine lv_aload_n hx hb dX4_findFault_54 rfl (lv_at hl 0 rfl) ?_
              refine va_get (ci := 3) (v := .int (nI (i_st ((tkQ v1 (p9)).2)))) hx hb hts h_X4 hown hK hP 0 rfl rfl 4 (by decide) f36 (fun _ h9 => h9) rfl dX4_findFault_55 ?_
              refine lv_iconst (v := nI (1)) hx hb dX4_findFault_58 (by decide) ?_
              refine zNadd hx hb dX4_findFault_59 ?_
              refine lv_istore_n (lv' := [(1, .int (nI ((i_st ((tkQ v1 (p9)).2) + 1)))), (0, .ref (i 0)), (2, .int (nI (c9)))]) hx hb dX4_findFault_60 rfl hl (by decide) rfl (fun ls hl => ?_)
              refine lv_iinc (v := nI ((c9 + 1))) (lv' := [(2, .int (nI ((c9 + 1)))), (1, .int (nI ((i_st ((tkQ v1 (p9)).2) + 1)))), (0, .ref (i 0))]) hx hb dX4_findFault_61 hl (k := 2) rfl (zInc _) (by decide) rfl (fun ls hl => ?_)
              refine lv_goto (tgt := 4) hx hb dX4_findFault_64 (by decide) ?_
              exact ih4 ((c9 + 1)) ((i_st ((tkQ v1 (p9)).2) + 1)) (((tkQ v1 (p9)).2)) H locs ls (by omega) (hg.2.1.trans hn1) (by omega) (by rw [fnF_s (by omega) c15_2 (Nat.not_le.mpr c31_3) c46_4] at htot; exact htot) (by omega) hP hD hS (lv_sub hl [2, 1, 0] rfl)
            · skip
              have e8 : fnF 60 0 iv = (nI (i_st (tkQ v1 p9).2), (tkQ v1 p9).2) := by rw [fnF_w (by omega) c15_2 (Nat.not_le.mpr c31_3) c46_4] at htot; exact htot.symm
              have hP : va_P D vwCl (IW ct i (xE g) ((fnF 60 0 iv).2) R) H := by rw [e8]; exact hP
              have hD : va_D A (IW ct i (xE g) ((fnF 60 0 iv).2) R) := by rw [e8]; exact hD
              refine lv_aload_n hx hb dX4_findFault_49 rfl (lv_at hl 0 rfl) ?_
              refine va_get (ci := 3) (v := .int (nI (i_st ((fnF 60 0 iv).2)))) hx hb hts h_X4 hown hK hP 0 rfl rfl 4 (by decide) f36 (fun _ h9 => h9) rfl dX4_findFault_50 ?_
              exact zIret () hx hb hr hlocks hK hP hD hS dX4_findFault_53 (show nI (i_st ((fnF 60 0 iv).2)) = (fnF 60 0 iv).1 from (by rw [e8]))
          · skip
            have e8 : fnF 60 0 iv = (-1, (tkQ v1 p9).2) := by rw [fnF_e (by omega) c15_2 (Nat.not_lt.mp c31_3)] at htot; exact htot.symm
            have hP : va_P D vwCl (IW ct i (xE g) ((fnF 60 0 iv).2) R) H := by rw [e8]; exact hP
            have hD : va_D A (IW ct i (xE g) ((fnF 60 0 iv).2) R) := by rw [e8]; exact hD
            refine lv_iconst (v := (-1)) hx hb dX4_findFault_34 (by decide) ?_
            exact zIret () hx hb hr hlocks hK hP hD hS dX4_findFault_35 (show (-1) = (fnF 60 0 iv).1 from (by rw [e8]))
        · skip
          have e8 : fnF 60 0 iv = (nI (i_st (tkQ v1 p9).2), (tkQ v1 p9).2) := by rw [fnF_n (by omega) c15_2] at htot; exact htot.symm
          have hP : va_P D vwCl (IW ct i (xE g) ((fnF 60 0 iv).2) R) H := by rw [e8]; exact hP
          have hD : va_D A (IW ct i (xE g) ((fnF 60 0 iv).2) R) := by rw [e8]; exact hD
          refine lv_aload_n hx hb dX4_findFault_18 rfl (lv_at hl 0 rfl) ?_
          refine va_get (ci := 3) (v := .int (nI (i_st ((fnF 60 0 iv).2)))) hx hb hts h_X4 hown hK hP 0 rfl rfl 4 (by decide) f36 (fun _ h9 => h9) rfl dX4_findFault_19 ?_
          exact zIret () hx hb hr hlocks hK hP hD hS dX4_findFault_22 (show nI (i_st ((fnF 60 0 iv).2)) = (fnF 60 0 iv).1 from (by rw [e8]))
  exact lp4 ((60 - (0)) + 1) (0) (0) (iv) H locs ls (by omega) rfl (Nat.zero_le _) rfl (Nat.lt_succ_self _) hP hD hS (lv_sub hl [2, 1, 0] rfl)
