/-! THE CLASS: the best balance -/
abbrev rmX1_gather : Room := { frames := 0, cells := 0, slots := 0, locals := 0 }
theorem in_X1_gather_X1 : ∀ w ∈ u_ws RX1 TX1 6, w ∈ wsX1_gather := by decide +kernel
theorem in_X1_gather_X9 : ∀ w ∈ u_ws RX9 TX9 16, w ∈ wsX1_gather := by decide +kernel
set_option maxHeartbeats 4000000 in
set_option maxRecDepth 100000 in
theorem kX1_gather {D : va_G} {ct : Nat → ClassId} {l : Launch} (a : Nat → Nat) (y : YS) (b : Nat → Nat) (rs : RS) (d : Nat → Nat) (bz : BS) (R : va_W) (x1 : Int32) (hn : y_n y ≤ 12) : MV D ct l yX1_gather wsX1_gather rmX1_gather (YW ct a y (KR a b rs (BW ct a d bz R))) [.ref (d 0), .int (x1)] (fun _ : Unit => True) (fun _ : Unit => YW ct a y (KR a b rs (BW ct a d (gatB y x1 bz) R))) := by
  refine MVof (cc := cX1_gather) (maxL := 4) (ret := none) (by decide) rfl (Nat.le_of_ble_eq_true rfl) ?_
  intro p e s m args below meth c A H locs F hP hK hD hS hA ls hl
  obtain ⟨hx, hb, hr, hlocks, hml, hown, hts, hin⟩ := F
  have hl : lv_has ls 4 [(0, .ref (d 0)), (1, .int (x1))] := hl
  have h_X1 := in_X1_gather_X1
  have h_X9 := in_X1_gather_X9
  have f9 := hts (.fieldLink RX1 9 "CartArguments$Balance" "yard" "LCartArguments$Yard;") (by decide +kernel)
  have f15 := hts (.fieldLink RX1 15 "CartArguments$Balance" "weights" "[I") (by decide +kernel)
  have f29 := hts (.fieldLink RX1 29 "CartArguments$Balance" "count" "I") (by decide +kernel)
  have f33 := hts (.fieldLink RX1 33 "CartArguments$Yard" "things" "I") (by decide +kernel)
  have f38 := hts (.fieldLink RX1 38 "CartArguments$Yard" "cartsUnder" "[I") (by decide +kernel)
  have f41 := hts (.fieldLink RX1 41 "CartArguments$Yard" "kinds" "[I") (by decide +kernel)
  have f44 := hts (.fieldLink RX1 44 "CartArguments$Yard" "weights" "[I") (by decide +kernel)
  refine lv_aload_n hx hb dX1_gather_0 rfl (lv_at hl 0 rfl) ?_
  refine lv_iconst (v := nI (0)) hx hb dX1_gather_1 (by decide) ?_
  refine va_put (ci := 1) (v := .int (nI (0))) (ty := .int) hx hb hts h_X1 tyX1 tyX1_ok nmX1 hown hK hP hD hS 16 rfl rfl 2 (by decide) f29 (fun _ h9 => h9) rfl (by decide +kernel) rfl rfl (Nat.le_of_ble_eq_true rfl) dX1_gather_2 (fun H locs hP hD hS => ?_)
  have hP : va_P D vwCl (YW ct a y (KR a b rs (BW ct a d (b_w bz, 0, b_lo bz, b_mi bz, b_hi bz) R))) H := hP
  have hD : va_D A (YW ct a y (KR a b rs (BW ct a d (b_w bz, 0, b_lo bz, b_mi bz, b_hi bz) R))) := hD
  refine lv_iconst (v := nI (0)) hx hb dX1_gather_5 (by decide) ?_
  refine lv_istore_n (lv' := [(2, .int (nI (0))), (0, .ref (d 0)), (1, .int (x1))]) hx hb dX1_gather_6 rfl hl (by decide) rfl (fun ls hl => ?_)
  have lp7 : ∀ (fu : Nat) (k : Nat) (q : Nat) (wt1 : Nat → Int32) (H : Heap) (locs : List Loc) (ls : Array Slot), (k ≤ y_n y) → (q = cGn y x1 k) → (wt1 = cGw y x1 (b_w bz) k) → y_n y - k < fu → va_P D vwCl (YW ct a y (KR a b rs (BW ct a d (wt1, q, b_lo bz, b_mi bz, b_hi bz) R))) H → va_D A (YW ct a y (KR a b rs (BW ct a d (wt1, q, b_lo bz, b_mi bz, b_hi bz) R))) → va_S A s.heap H locs → lv_has ls 4 [(0, .ref (d 0)), (1, .int (x1)), (2, .int (nI (k)))] → W p l e rmX1_gather s m args below meth c H locs 0 0 (MQ below (va_Qv (fun _ : Unit => True) (zB D ct A (fun _ : Unit => YW ct a y (KR a b rs (BW ct a d (gatB y x1 bz) R)))) A) args s rmX1_gather.cells rmX1_gather.slots A) (F0 m 7 ls []) := by
    intro fu
    induction fu with
    | zero => intro k q wt1 H locs ls hk hq9 hw hfu; exact absurd hfu (Nat.not_lt_zero _)
    | succ fu ih7 =>
      intro k q wt1 H locs ls hk hq9 hw hfu hP hD hS hl
      refine lv_iload_n hx hb dX1_gather_7 rfl (lv_at hl 2 rfl) ?_
      refine lv_aload_n hx hb dX1_gather_8 rfl (lv_at hl 0 rfl) ?_
      refine va_get (ci := 1) (v := .ref (a 0)) hx hb hts h_X1 hown hK hP 16 rfl rfl 0 (by decide) f9 (fun _ h9 => h9) rfl dX1_gather_9 ?_
      refine va_get (ci := 8) (v := .int (nI (y_n y))) hx hb hts h_X9 hown hK hP 0 rfl rfl 0 (by decide) f33 (fun _ h9 => h9) rfl dX1_gather_12 ?_
      refine zN_icmp_ge (tgt := 96) hx hb (by omega) (by omega) dX1_gather_15 (by decide) (fun c15_1 => ?_) (fun c15_1 => ?_)
      · skip
        obtain rfl : k = y_n y := by omega
        have e9 : gatB y x1 bz = (wt1, q, b_lo bz, b_mi bz, b_hi bz) := by rw [gatB, hw, hq9]
        have hP : va_P D vwCl (YW ct a y (KR a b rs (BW ct a d (gatB y x1 bz) R))) H := by rw [e9]; exact hP
        have hD : va_D A (YW ct a y (KR a b rs (BW ct a d (gatB y x1 bz) R))) := by rw [e9]; exact hD
        exact zVret () hx hb hr hlocks hK hP hD hS dX1_gather_96 trivial
      · skip
        refine lv_aload_n hx hb dX1_gather_18 rfl (lv_at hl 0 rfl) ?_
        refine va_get (ci := 1) (v := .ref (a 0)) hx hb hts h_X1 hown hK hP 16 rfl rfl 0 (by decide) f9 (fun _ h9 => h9) rfl dX1_gather_19 ?_
        refine va_get (ci := 8) (v := .ref (a 3)) hx hb hts h_X9 hown hK hP 0 rfl rfl 3 (by decide) f38 (fun _ h9 => h9) rfl dX1_gather_22 ?_
        refine lv_iload_n hx hb dX1_gather_25 rfl (lv_at hl 2 rfl) ?_
        refine zIald (n := 12) (f := y_cu y) (i := k) hx hb hK hP 3 rfl (by omega) (by decide) dX1_gather_26 ?_
        refine lv_iload_n hx hb dX1_gather_27 rfl (lv_at hl 1 rfl) ?_
        refine lv_icmp_ne (tgt := 47) hx hb dX1_gather_28 (by decide) (fun c28_2 => ?_) (fun c28_2 => ?_)
        · skip
          refine lv_iconst (v := nI (0)) hx hb dX1_gather_47 (by decide) ?_
          refine lv_istore_n (lv' := [(3, .int (nI (0))), (0, .ref (d 0)), (1, .int (x1)), (2, .int (nI (k)))]) hx hb dX1_gather_48 rfl hl (by decide) rfl (fun ls hl => ?_)
          refine lv_iload_n hx hb dX1_gather_49 rfl (lv_at hl 0 rfl) ?_
          refine lv_if_eq (tgt := 90) hx hb dX1_gather_50 (by decide) (fun c9 => ?_) (fun c9 => absurd (by decide) c9)
          refine lv_iinc (v := nI ((k + 1))) (lv' := [(2, .int (nI ((k + 1)))), (3, .int (nI (0))), (0, .ref (d 0)), (1, .int (x1))]) hx hb dX1_gather_90 hl (k := 3) rfl (zInc _) (by decide) rfl (fun ls hl => ?_)
          refine lv_goto (tgt := 7) hx hb dX1_gather_93 (by decide) ?_
          exact ih7 ((k + 1)) (q) (wt1) H locs ls (by omega) (by rw [cGn, ← hq9]; simp only [cG, nI_0, c15_1, c28_2, p_in, p_worn, p_wi, p_creak, p_le0, p_lt1, not_true_eq_false, not_false_eq_true, if_true, if_false, and_true, true_and, and_false, false_and, or_true, true_or, or_false, false_or, and_self, or_self, iff_true, true_iff, iff_false, false_iff, decide_eq_true_eq, decide_true, decide_false, Int32.add_zero, Nat.add_zero, ne_eq, Bool.false_eq_true, eq_self]) (by rw [cGw, ← hq9, ← hw]; simp only [cG, nI_0, c15_1, c28_2, p_in, p_worn, p_wi, p_creak, p_le0, p_lt1, not_true_eq_false, not_false_eq_true, if_true, if_false, and_true, true_and, and_false, false_and, or_true, true_or, or_false, false_or, and_self, or_self, iff_true, true_iff, iff_false, false_iff, decide_eq_true_eq, decide_true, decide_false, Int32.add_zero, Nat.add_zero, ne_eq, Bool.false_eq_true, eq_self]) (by omega) hP hD hS (lv_sub hl [2, 3, 0] rfl)
        · skip
          refine lv_aload_n hx hb dX1_gather_31 rfl (lv_at hl 0 rfl) ?_
          refine va_get (ci := 1) (v := .ref (a 0)) hx hb hts h_X1 hown hK hP 16 rfl rfl 0 (by decide) f9 (fun _ h9 => h9) rfl dX1_gather_32 ?_
          refine va_get (ci := 8) (v := .ref (a 1)) hx hb hts h_X9 hown hK hP 0 rfl rfl 1 (by decide) f41 (fun _ h9 => h9) rfl dX1_gather_35 ?_
          refine lv_iload_n hx hb dX1_gather_38 rfl (lv_at hl 2 rfl) ?_
          refine zIald (n := 12) (f := y_kd y) (i := k) hx hb hK hP 1 rfl (by omega) (by decide) dX1_gather_39 ?_
          refine lv_if_ne (tgt := 47) hx hb dX1_gather_40 (by decide) (fun c40_4 => ?_) (fun c40_4 => ?_)
          · skip
            refine lv_iconst (v := nI (0)) hx hb dX1_gather_47 (by decide) ?_
            refine lv_istore_n (lv' := [(3, .int (nI (0))), (0, .ref (d 0)), (1, .int (x1)), (2, .int (nI (k)))]) hx hb dX1_gather_48 rfl hl (by decide) rfl (fun ls hl => ?_)
            refine lv_iload_n hx hb dX1_gather_49 rfl (lv_at hl 0 rfl) ?_
            refine lv_if_eq (tgt := 90) hx hb dX1_gather_50 (by decide) (fun c9 => ?_) (fun c9 => absurd (by decide) c9)
            refine lv_iinc (v := nI ((k + 1))) (lv' := [(2, .int (nI ((k + 1)))), (3, .int (nI (0))), (0, .ref (d 0)), (1, .int (x1))]) hx hb dX1_gather_90 hl (k := 3) rfl (zInc _) (by decide) rfl (fun ls hl => ?_)
            refine lv_goto (tgt := 7) hx hb dX1_gather_93 (by decide) ?_
            exact ih7 ((k + 1)) (q) (wt1) H locs ls (by omega) (by rw [cGn, ← hq9]; simp only [cG, nI_0, c15_1, eq_true c28_2, c40_4, p_in, p_worn, p_wi, p_creak, p_le0, p_lt1, not_true_eq_false, not_false_eq_true, if_true, if_false, and_true, true_and, and_false, false_and, or_true, true_or, or_false, false_or, and_self, or_self, iff_true, true_iff, iff_false, false_iff, decide_eq_true_eq, decide_true, decide_false, Int32.add_zero, Nat.add_zero, ne_eq, Bool.false_eq_true, eq_self]) (by rw [cGw, ← hq9, ← hw]; simp only [cG, nI_0, c15_1, eq_true c28_2, c40_4, p_in, p_worn, p_wi, p_creak, p_le0, p_lt1, not_true_eq_false, not_false_eq_true, if_true, if_false, and_true, true_and, and_false, false_and, or_true, true_or, or_false, false_or, and_self, or_self, iff_true, true_iff, iff_false, false_iff, decide_eq_true_eq, decide_true, decide_false, Int32.add_zero, Nat.add_zero, ne_eq, Bool.false_eq_true, eq_self]) (by omega) hP hD hS (lv_sub hl [2, 3, 0] rfl)
          · skip
            refine lv_iconst (v := nI (1)) hx hb dX1_gather_43 (by decide) ?_
            refine lv_goto (tgt := 48) hx hb dX1_gather_44 (by decide) ?_
            refine lv_istore_n (lv' := [(3, .int (nI (1))), (0, .ref (d 0)), (1, .int (x1)), (2, .int (nI (k)))]) hx hb dX1_gather_48 rfl hl (by decide) rfl (fun ls hl => ?_)
            refine lv_iload_n hx hb dX1_gather_49 rfl (lv_at hl 0 rfl) ?_
            refine lv_if_eq (tgt := 90) hx hb dX1_gather_50 (by decide) (fun c9 => absurd c9 (by decide)) (fun c9 => ?_)
            have hq6 : q ≤ 6 := by rw [hq9]; exact cGn_6 _ _ _
            refine lv_aload_n hx hb dX1_gather_53 rfl (lv_at hl 1 rfl) ?_
            refine va_get (ci := 1) (v := .int (nI (q))) hx hb hts h_X1 hown hK hP 16 rfl rfl 2 (by decide) f29 (fun _ h9 => h9) rfl dX1_gather_54 ?_
            refine lv_bipush (v := nI (6)) hx hb dX1_gather_57 (by decide) ?_
            refine zN_icmp_ge (tgt := 90) hx hb (by omega) (by omega) dX1_gather_59 (by decide) (fun c59_7 => ?_) (fun c59_7 => ?_)
            · skip
              have h59 : ¬ q < 6 := by omega
              refine lv_iinc (v := nI ((k + 1))) (lv' := [(2, .int (nI ((k + 1)))), (3, .int (nI (1))), (0, .ref (d 0)), (1, .int (x1))]) hx hb dX1_gather_90 hl (k := 3) rfl (zInc _) (by decide) rfl (fun ls hl => ?_)
              refine lv_goto (tgt := 7) hx hb dX1_gather_93 (by decide) ?_
              exact ih7 ((k + 1)) (q) (wt1) H locs ls (by omega) (by rw [cGn, ← hq9]; simp only [cG, nI_0, c15_1, eq_true c28_2, eq_true c40_4, c59_7, h59, p_in, p_worn, p_wi, p_creak, p_le0, p_lt1, not_true_eq_false, not_false_eq_true, if_true, if_false, and_true, true_and, and_false, false_and, or_true, true_or, or_false, false_or, and_self, or_self, iff_true, true_iff, iff_false, false_iff, decide_eq_true_eq, decide_true, decide_false, Int32.add_zero, Nat.add_zero, ne_eq, Bool.false_eq_true, eq_self]) (by rw [cGw, ← hq9, ← hw]; simp only [cG, nI_0, c15_1, eq_true c28_2, eq_true c40_4, c59_7, h59, p_in, p_worn, p_wi, p_creak, p_le0, p_lt1, not_true_eq_false, not_false_eq_true, if_true, if_false, and_true, true_and, and_false, false_and, or_true, true_or, or_false, false_or, and_self, or_self, iff_true, true_iff, iff_false, false_iff, decide_eq_true_eq, decide_true, decide_false, Int32.add_zero, Nat.add_zero, ne_eq, Bool.false_eq_true, eq_self]) (by omega) hP hD hS (lv_sub hl [2, 3, 0] rfl)
            · skip
              have h59 : q < 6 := by omega
              refine lv_aload_n hx hb dX1_gather_62 rfl (lv_at hl 1 rfl) ?_
              refine va_get (ci := 1) (v := .ref (d 1)) hx hb hts h_X1 hown hK hP 16 rfl rfl 1 (by decide) f15 (fun _ h9 => h9) rfl dX1_gather_63 ?_
              refine lv_aload_n hx hb dX1_gather_66 rfl (lv_at hl 1 rfl) ?_
              refine va_get (ci := 1) (v := .int (nI (q))) hx hb hts h_X1 hown hK hP 16 rfl rfl 2 (by decide) f29 (fun _ h9 => h9) rfl dX1_gather_67 ?_
              refine lv_aload_n hx hb dX1_gather_70 rfl (lv_at hl 1 rfl) ?_
              refine va_get (ci := 1) (v := .ref (a 0)) hx hb hts h_X1 hown hK hP 16 rfl rfl 0 (by decide) f9 (fun _ h9 => h9) rfl dX1_gather_71 ?_
              refine va_get (ci := 8) (v := .ref (a 2)) hx hb hts h_X9 hown hK hP 0 rfl rfl 2 (by decide) f44 (fun _ h9 => h9) rfl dX1_gather_74 ?_
              refine lv_iload_n hx hb dX1_gather_77 rfl (lv_at hl 3 rfl) ?_
              refine zIald (n := 12) (f := y_w y) (i := k) hx hb hK hP 2 rfl (by omega) (by decide) dX1_gather_78 ?_
              refine zIast (n := 6) (f := wt1) (i := q) hx hb hK hP hD hS 17 rfl (by omega) (by decide) dX1_gather_79 (fun H locs hP hD hS => ?_)
              have hP : va_P D vwCl (YW ct a y (KR a b rs (BW ct a d ((upd (wt1) (q) ((y_w y (k)))), q, b_lo bz, b_mi bz, b_hi bz) R))) H := hP
              have hD : va_D A (YW ct a y (KR a b rs (BW ct a d ((upd (wt1) (q) ((y_w y (k)))), q, b_lo bz, b_mi bz, b_hi bz) R))) := hD
              refine lv_aload_n hx hb dX1_gather_80 rfl (lv_at hl 1 rfl) ?_
              refine lv_dup hx hb dX1_gather_81 rfl ?_
              refine va_get (ci := 1) (v := .int (nI (q))) hx hb hts h_X1 hown hK hP 16 rfl rfl 2 (by decide) f29 (fun _ h9 => h9) rfl dX1_gather_82 ?_
              refine lv_iconst (v := nI (1)) hx hb dX1_gather_85 (by decide) ?_
              refine zNadd hx hb dX1_gather_86 ?_
              refine va_put (ci := 1) (v := .int (nI ((q + 1)))) (ty := .int) hx hb hts h_X1 tyX1 tyX1_ok nmX1 hown hK hP hD hS 16 rfl rfl 2 (by decide) f29 (fun _ h9 => h9) rfl (by decide +kernel) rfl rfl (Nat.le_of_ble_eq_true rfl) dX1_gather_87 (fun H locs hP hD hS => ?_)
              have hP : va_P D vwCl (YW ct a y (KR a b rs (BW ct a d ((upd (wt1) (q) ((y_w y (k)))), (q + 1), b_lo bz, b_mi bz, b_hi bz) R))) H := hP
              have hD : va_D A (YW ct a y (KR a b rs (BW ct a d ((upd (wt1) (q) ((y_w y (k)))), (q + 1), b_lo bz, b_mi bz, b_hi bz) R))) := hD
              refine lv_iinc (v := nI ((k + 1))) (lv' := [(2, .int (nI ((k + 1)))), (3, .int (nI (1))), (0, .ref (d 0)), (1, .int (x1))]) hx hb dX1_gather_90 hl (k := 3) rfl (zInc _) (by decide) rfl (fun ls hl => ?_)
              refine lv_goto (tgt := 7) hx hb dX1_gather_93 (by decide) ?_
              exact ih7 ((k + 1)) ((q + 1)) ((upd (wt1) (q) ((y_w y (k))))) H locs ls (by omega) (by rw [cGn, ← hq9]; simp only [cG, nI_0, c15_1, eq_true c28_2, eq_true c40_4, c59_7, h59, p_in, p_worn, p_wi, p_creak, p_le0, p_lt1, not_true_eq_false, not_false_eq_true, if_true, if_false, and_true, true_and, and_false, false_and, or_true, true_or, or_false, false_or, and_self, or_self, iff_true, true_iff, iff_false, false_iff, decide_eq_true_eq, decide_true, decide_false, Int32.add_zero, Nat.add_zero, ne_eq, Bool.false_eq_true, eq_self]) (by rw [cGw, ← hq9, ← hw]; simp only [cG, nI_0, c15_1, eq_true c28_2, eq_true c40_4, c59_7, h59, p_in, p_worn, p_wi, p_creak, p_le0, p_lt1, not_true_eq_false, not_false_eq_true, if_true, if_false, and_true, true_and, and_false, false_and, or_true, true_or, or_false, false_or, and_self, or_self, iff_true, true_iff, iff_false, false_iff, decide_eq_true_eq, decide_true, decide_false, Int32.add_zero, Nat.add_zero, ne_eq, Bool.false_eq_true, eq_self]) (by omega) hP hD hS (lv_sub hl [2, 3, 0] rfl)
  exact lp7 ((y_n y - (0)) + 1) (0) (0) (b_w bz) H locs ls (by omega) rfl rfl (Nat.lt_succ_self _) hP hD hS (lv_sub hl [1, 2, 0] rfl)
abbrev rmX1_leastFrom_0 : Room := { frames := 1, cells := 0, slots := 0, locals := 30 }
set_option maxHeartbeats 4000000 in
set_option maxRecDepth 100000 in
theorem kX1_leastFrom_0 {D : va_G} {ct : Nat → ClassId} {l : Launch} (a : Nat → Nat) (y : YS) (b : Nat → Nat) (rs : RS) (d : Nat → Nat) (bz : BS) (R : va_W) (cnt : Nat) (pp : Nat) (x3 : Int32) (x4 : Int32) (hwm : cnt = pp + 0) (h6 : cnt ≤ 6) : MI D ct l yX1_leastFrom wsX1_leastFrom rmX1_leastFrom_0 (YW ct a y (KR a b rs (BW ct a d bz R))) [.ref (d 1), .int (nI (cnt)), .int (nI (pp)), .int (x3), .int (x4)] (fun r0 (_ : Unit) => r0 = lsC (b_w bz) 0 pp x3 x4) (fun _ : Unit => YW ct a y (KR a b rs (BW ct a d bz R))) := by
  refine MIof (cc := cX1_leastFrom) (maxL := 8) (ret := (some .int)) (by decide) rfl (Nat.le_of_ble_eq_true rfl) ?_
  intro p e s m args below meth c A H locs F hP hK hD hS hA ls hl
  obtain ⟨hx, hb, hr, hlocks, hml, hown, hts, hin⟩ := F
  have hl : lv_has ls 8 [(0, .ref (d 1)), (1, .int (nI (cnt))), (2, .int (nI (pp))), (3, .int (x3)), (4, .int (x4))] := hl
  refine lv_iload_n hx hb dX1_leastFrom_0 rfl (lv_at hl 2 rfl) ?_
  refine lv_iload_n hx hb dX1_leastFrom_1 rfl (lv_at hl 1 rfl) ?_
  refine zN_icmp_ge (tgt := 11) hx hb (by omega) (by omega) dX1_leastFrom_2 (by decide) (fun c2_1 => ?_) (fun c2_1 => ?_)
  · skip
    refine lv_iload hx hb dX1_leastFrom_11 (lv_at hl 4 rfl) ?_
    refine va_mabs hx hb (hml.trans hl.1.symm) hown (hts (.methodLink RX1 53 Lib.Math.abs.name) (by decide +kernel)) (hts (.static Lib.Math.abs.name) (by decide +kernel)) (hts (.initialized "java/lang/Math") (by decide +kernel)) (hts (.code Lib.Math.abs.name Lib.Math.abs.code 1 (some .int)) (by decide +kernel)) (Nat.le_of_ble_eq_true rfl) (Nat.le_of_ble_eq_true rfl) (Nat.le_of_ble_eq_true rfl) (Nat.le_of_ble_eq_true rfl) dX1_leastFrom_13 ?_
    exact zIret () hx hb hr hlocks hK hP hD hS dX1_leastFrom_16 (show (if 0 ≤ x4 then x4 else 0 - x4) = lsC (b_w bz) 0 pp x3 x4 from rfl)
  · skip
    exact absurd (show cnt ≤ pp by omega) c2_1
abbrev rmX1_leastFrom_1 : Room := { frames := 2, cells := 0, slots := 0, locals := 57 }
set_option maxHeartbeats 4000000 in
set_option maxRecDepth 100000 in
theorem kX1_leastFrom_1 {D : va_G} {ct : Nat → ClassId} {l : Launch} (a : Nat → Nat) (y : YS) (b : Nat → Nat) (rs : RS) (d : Nat → Nat) (bz : BS) (R : va_W) (cnt : Nat) (pp : Nat) (x3 : Int32) (x4 : Int32) (hwm : cnt = pp + 1) (h6 : cnt ≤ 6) : MI D ct l yX1_leastFrom wsX1_leastFrom rmX1_leastFrom_1 (YW ct a y (KR a b rs (BW ct a d bz R))) [.ref (d 1), .int (nI (cnt)), .int (nI (pp)), .int (x3), .int (x4)] (fun r0 (_ : Unit) => r0 = lsC (b_w bz) 1 pp x3 x4) (fun _ : Unit => YW ct a y (KR a b rs (BW ct a d bz R))) := by
  refine MIof (cc := cX1_leastFrom) (maxL := 8) (ret := (some .int)) (by decide) rfl (Nat.le_of_ble_eq_true rfl) ?_
  intro p e s m args below meth c A H locs F hP hK hD hS hA ls hl
  obtain ⟨hx, hb, hr, hlocks, hml, hown, hts, hin⟩ := F
  have hl : lv_has ls 8 [(0, .ref (d 1)), (1, .int (nI (cnt))), (2, .int (nI (pp))), (3, .int (x3)), (4, .int (x4))] := hl
  refine lv_iload_n hx hb dX1_leastFrom_0 rfl (lv_at hl 2 rfl) ?_
  refine lv_iload_n hx hb dX1_leastFrom_1 rfl (lv_at hl 1 rfl) ?_
  refine zN_icmp_ge (tgt := 11) hx hb (by omega) (by omega) dX1_leastFrom_2 (by decide) (fun c2_1 => ?_) (fun c2_1 => ?_)
  · skip
    exact absurd c2_1 (by omega)
  · skip
    refine lv_iload_n hx hb dX1_leastFrom_5 rfl (lv_at hl 2 rfl) ?_
    refine lv_aload_n hx hb dX1_leastFrom_6 rfl (lv_at hl 0 rfl) ?_
    refine va_alen (x := (6, _)) (v := nI (6)) hx hb hK hP 17 0 rfl rfl rfl dX1_leastFrom_7 ?_
    refine zN_icmp_lt (tgt := 17) hx hb (by omega) (by omega) dX1_leastFrom_8 (by decide) (fun c8_2 => ?_) (fun c8_2 => ?_)
    · skip
      refine lv_ldc (v := nI (1000000)) hx hb hown (hts (.constant RX1 59 (1000000)) (by decide +kernel)) dX1_leastFrom_17 ?_
      refine lv_istore (lv' := [(5, .int (nI (1000000))), (0, .ref (d 1)), (1, .int (nI (cnt))), (2, .int (nI (pp))), (3, .int (x3)), (4, .int (x4))]) hx hb dX1_leastFrom_19 hl (by decide) rfl (fun ls hl => ?_)
      refine lv_iconst (v := nI (0)) hx hb dX1_leastFrom_21 (by decide) ?_
      refine lv_istore (lv' := [(6, .int (nI (0))), (5, .int (nI (1000000))), (0, .ref (d 1)), (1, .int (nI (cnt))), (2, .int (nI (pp))), (3, .int (x3)), (4, .int (x4))]) hx hb dX1_leastFrom_22 hl (by decide) rfl (fun ls hl => ?_)
      have lp24 : ∀ (fu : Nat) (j : Nat) (acc : Int32) (H : Heap) (locs : List Loc) (ls : Array Slot), (j ≤ 6) → (acc = lsLc (fun p => decide ((x3 >>> (nI p &&& 31)) &&& nI 1 = 0)) (fun q => lsC (b_w bz) 0 (pp + 1) (x3 ||| (nI 1 <<< (nI q &&& 31))) (x4 + (b_w bz pp * nI 2) * (nI 5 - nI (2 * q)))) j) → 6 - j < fu → va_P D vwCl (YW ct a y (KR a b rs (BW ct a d bz R))) H → va_D A (YW ct a y (KR a b rs (BW ct a d bz R))) → va_S A s.heap H locs → lv_has ls 8 [(0, .ref (d 1)), (1, .int (nI (cnt))), (2, .int (nI (pp))), (3, .int (x3)), (4, .int (x4)), (5, .int (acc)), (6, .int (nI (j)))] → W p l e rmX1_leastFrom_1 s m args below meth c H locs 0 0 (MQ below (va_Qi (fun r0 (_ : Unit) => r0 = lsC (b_w bz) 1 pp x3 x4) (zB D ct A (fun _ : Unit => YW ct a y (KR a b rs (BW ct a d bz R)))) A) args s rmX1_leastFrom_1.cells rmX1_leastFrom_1.slots A) (F0 m 24 ls []) := by
        intro fu
        induction fu with
        | zero => intro j acc H locs ls hj hacc hfu; exact absurd hfu (Nat.not_lt_zero _)
        | succ fu ih24 =>
          intro j acc H locs ls hj hacc hfu hP hD hS hl
          refine lv_iload hx hb dX1_leastFrom_24 (lv_at hl 6 rfl) ?_
          refine lv_bipush (v := nI (6)) hx hb dX1_leastFrom_26 (by decide) ?_
          refine zN_icmp_ge (tgt := 86) hx hb (by omega) (by omega) dX1_leastFrom_28 (by decide) (fun c28_3 => ?_) (fun c28_3 => ?_)
          · skip
            refine lv_iload hx hb dX1_leastFrom_86 (lv_at hl 5 rfl) ?_
            exact zIret () hx hb hr hlocks hK hP hD hS dX1_leastFrom_88 (show acc = lsC (b_w bz) 1 pp x3 x4 from (by obtain rfl : j = 6 := (by omega); exact hacc))
          · skip
            refine lv_iload_n hx hb dX1_leastFrom_31 rfl (lv_at hl 3 rfl) ?_
            refine lv_iload hx hb dX1_leastFrom_32 (lv_at hl 6 rfl) ?_
            refine lv_ishr hx hb dX1_leastFrom_34 ?_
            refine lv_iconst (v := nI (1)) hx hb dX1_leastFrom_35 (by decide) ?_
            refine lv_iand hx hb dX1_leastFrom_36 ?_
            refine lv_if_ne (tgt := 80) hx hb dX1_leastFrom_37 (by decide) (fun c37_4 => ?_) (fun c37_4 => ?_)
            · skip
              refine lv_iinc (v := nI ((j + 1))) (lv' := [(6, .int (nI ((j + 1)))), (0, .ref (d 1)), (1, .int (nI (cnt))), (2, .int (nI (pp))), (3, .int (x3)), (4, .int (x4)), (5, .int (acc))]) hx hb dX1_leastFrom_80 hl (k := 6) rfl (zInc _) (by decide) rfl (fun ls hl => ?_)
              refine lv_goto (tgt := 24) hx hb dX1_leastFrom_83 (by decide) ?_
              exact ih24 ((j + 1)) (acc) H locs ls (by omega) (by simp only [lsLc, ← hacc, nI_0, c2_1, c8_2, c28_3, c37_4, p_in, p_worn, p_wi, p_creak, p_le0, p_lt1, not_true_eq_false, not_false_eq_true, if_true, if_false, and_true, true_and, and_false, false_and, or_true, true_or, or_false, false_or, and_self, or_self, iff_true, true_iff, iff_false, false_iff, decide_eq_true_eq, decide_true, decide_false, Int32.add_zero, Nat.add_zero, ne_eq, Bool.false_eq_true, eq_self]) (by omega) hP hD hS (lv_sub hl [1, 2, 3, 4, 5, 6, 0] rfl)
            · skip
              refine lv_iload hx hb dX1_leastFrom_40 (lv_at hl 4 rfl) ?_
              refine lv_aload_n hx hb dX1_leastFrom_42 rfl (lv_at hl 0 rfl) ?_
              refine lv_iload_n hx hb dX1_leastFrom_43 rfl (lv_at hl 2 rfl) ?_
              refine zIald (n := 6) (f := b_w bz) (i := pp) hx hb hK hP 17 rfl (by omega) (by decide) dX1_leastFrom_44 ?_
              refine lv_iconst (v := nI (2)) hx hb dX1_leastFrom_45 (by decide) ?_
              refine lv_imul hx hb dX1_leastFrom_46 ?_
              refine lv_iconst (v := nI (5)) hx hb dX1_leastFrom_47 (by decide) ?_
              refine lv_iconst (v := nI (2)) hx hb dX1_leastFrom_48 (by decide) ?_
              refine lv_iload hx hb dX1_leastFrom_49 (lv_at hl 6 rfl) ?_
              refine zNmul hx hb dX1_leastFrom_51 ?_
              refine lv_isub hx hb dX1_leastFrom_52 ?_
              refine lv_imul hx hb dX1_leastFrom_53 ?_
              refine lv_iadd hx hb dX1_leastFrom_54 ?_
              refine lv_istore (lv' := [(7, .int ((x4 + (((b_w bz (pp)) * nI (2)) * (nI (5) - nI ((2 * j))))))), (0, .ref (d 1)), (1, .int (nI (cnt))), (2, .int (nI (pp))), (3, .int (x3)), (4, .int (x4)), (5, .int (acc)), (6, .int (nI (j)))]) hx hb dX1_leastFrom_55 hl (by decide) rfl (fun ls hl => ?_)
              refine lv_iload hx hb dX1_leastFrom_57 (lv_at hl 6 rfl) ?_
              refine lv_aload_n hx hb dX1_leastFrom_59 rfl (lv_at hl 1 rfl) ?_
              refine lv_iload_n hx hb dX1_leastFrom_60 rfl (lv_at hl 2 rfl) ?_
              refine lv_iload_n hx hb dX1_leastFrom_61 rfl (lv_at hl 3 rfl) ?_
              refine lv_iconst (v := nI (1)) hx hb dX1_leastFrom_62 (by decide) ?_
              refine zNadd hx hb dX1_leastFrom_63 ?_
              refine lv_iload_n hx hb dX1_leastFrom_64 rfl (lv_at hl 4 rfl) ?_
              refine lv_iconst (v := nI (1)) hx hb dX1_leastFrom_65 (by decide) ?_
              refine lv_iload hx hb dX1_leastFrom_66 (lv_at hl 7 rfl) ?_
              refine lv_ishl hx hb dX1_leastFrom_68 ?_
              refine lv_ior hx hb dX1_leastFrom_69 ?_
              refine lv_iload hx hb dX1_leastFrom_70 (lv_at hl 0 rfl) ?_
              refine zSI [.ref (d 1), .int (nI (cnt)), .int (nI ((pp + 1))), .int ((x3 ||| (nI (1) <<< (nI (j) &&& 31)))), .int ((x4 + (((b_w bz (pp)) * nI (2)) * (nI (5) - nI ((2 * j))))))] [.int (acc)] (kX1_leastFrom_0 (a) (y) (b) (rs) (d) (bz) (R) (cnt) ((pp + 1)) ((x3 ||| (nI (1) <<< (nI (j) &&& 31)))) ((x4 + (((b_w bz (pp)) * nI (2)) * (nI (5) - nI ((2 * j)))))) (show (cnt) = ((pp + 1)) + 0 from by omega) (show (cnt) ≤ 6 from by omega)) hx hb hml hown hts (va_cwS 5 hts gX1_leastFrom_X1_leastFrom rfl rfl rfl (by decide +kernel) ⟨(Nat.le_of_ble_eq_true rfl), (Nat.le_of_ble_eq_true rfl)⟩) hK hP hD hS hA rfl hl.1 rfl (Nat.le_of_ble_eq_true rfl) dX1_leastFrom_72 ⟨(Nat.le_of_ble_eq_true rfl), (Nat.le_of_ble_eq_true rfl)⟩ (fun r_72 _ H locs hr_72 hP hD hS => ?_)
              subst hr_72
              have hP : va_P D vwCl (YW ct a y (KR a b rs (BW ct a d bz R))) H := hP
              have hD : va_D A (YW ct a y (KR a b rs (BW ct a d bz R))) := hD
              refine va_mmin hx hb (hml.trans hl.1.symm) hown (hts (.methodLink RX1 60 Lib.Math.min.name) (by decide +kernel)) (hts (.static Lib.Math.min.name) (by decide +kernel)) (hts (.initialized "java/lang/Math") (by decide +kernel)) (hts (.code Lib.Math.min.name Lib.Math.min.code 2 (some .int)) (by decide +kernel)) (Nat.le_of_ble_eq_true rfl) (Nat.le_of_ble_eq_true rfl) (Nat.le_of_ble_eq_true rfl) (Nat.le_of_ble_eq_true rfl) dX1_leastFrom_75 ?_
              refine lv_istore (lv' := [(5, .int ((if (lsC (b_w bz) 0 ((pp + 1)) ((x3 ||| (nI (1) <<< (nI (j) &&& 31)))) ((x4 + (((b_w bz (pp)) * nI (2)) * (nI (5) - nI ((2 * j))))))) < acc then (lsC (b_w bz) 0 ((pp + 1)) ((x3 ||| (nI (1) <<< (nI (j) &&& 31)))) ((x4 + (((b_w bz (pp)) * nI (2)) * (nI (5) - nI ((2 * j))))))) else acc))), (7, .int ((x4 + (((b_w bz (pp)) * nI (2)) * (nI (5) - nI ((2 * j))))))), (0, .ref (d 1)), (1, .int (nI (cnt))), (2, .int (nI (pp))), (3, .int (x3)), (4, .int (x4)), (6, .int (nI (j)))]) hx hb dX1_leastFrom_78 hl (by decide) rfl (fun ls hl => ?_)
              refine lv_iinc (v := nI ((j + 1))) (lv' := [(6, .int (nI ((j + 1)))), (5, .int ((if (lsC (b_w bz) 0 ((pp + 1)) ((x3 ||| (nI (1) <<< (nI (j) &&& 31)))) ((x4 + (((b_w bz (pp)) * nI (2)) * (nI (5) - nI ((2 * j))))))) < acc then (lsC (b_w bz) 0 ((pp + 1)) ((x3 ||| (nI (1) <<< (nI (j) &&& 31)))) ((x4 + (((b_w bz (pp)) * nI (2)) * (nI (5) - nI ((2 * j))))))) else acc))), (7, .int ((x4 + (((b_w bz (pp)) * nI (2)) * (nI (5) - nI ((2 * j))))))), (0, .ref (d 1)), (1, .int (nI (cnt))), (2, .int (nI (pp))), (3, .int (x3)), (4, .int (x4))]) hx hb dX1_leastFrom_80 hl (k := 7) rfl (zInc _) (by decide) rfl (fun ls hl => ?_)
              refine lv_goto (tgt := 24) hx hb dX1_leastFrom_83 (by decide) ?_
              exact ih24 ((j + 1)) ((if (lsC (b_w bz) 0 ((pp + 1)) ((x3 ||| (nI (1) <<< (nI (j) &&& 31)))) ((x4 + (((b_w bz (pp)) * nI (2)) * (nI (5) - nI ((2 * j))))))) < acc then (lsC (b_w bz) 0 ((pp + 1)) ((x3 ||| (nI (1) <<< (nI (j) &&& 31)))) ((x4 + (((b_w bz (pp)) * nI (2)) * (nI (5) - nI ((2 * j))))))) else acc)) H locs ls (by omega) (by simp only [lsLc, ← hacc, nI_0, c2_1, c8_2, c28_3, eq_true c37_4, p_in, p_worn, p_wi, p_creak, p_le0, p_lt1, not_true_eq_false, not_false_eq_true, if_true, if_false, and_true, true_and, and_false, false_and, or_true, true_or, or_false, false_or, and_self, or_self, iff_true, true_iff, iff_false, false_iff, decide_eq_true_eq, decide_true, decide_false, Int32.add_zero, Nat.add_zero, ne_eq, Bool.false_eq_true, eq_self]) (by omega) hP hD hS (lv_sub hl [3, 4, 5, 6, 7, 1, 0] rfl)
      exact lp24 ((6 - (0)) + 1) (0) (nI 1000000) H locs ls (by omega) rfl (Nat.lt_succ_self _) hP hD hS (lv_sub hl [2, 3, 4, 5, 6, 1, 0] rfl)
    · skip
      exact absurd (show pp < 6 by omega) c8_2
abbrev rmX1_leastFrom_2 : Room := { frames := 3, cells := 0, slots := 0, locals := 84 }
set_option maxHeartbeats 4000000 in
set_option maxRecDepth 100000 in
theorem kX1_leastFrom_2 {D : va_G} {ct : Nat → ClassId} {l : Launch} (a : Nat → Nat) (y : YS) (b : Nat → Nat) (rs : RS) (d : Nat → Nat) (bz : BS) (R : va_W) (cnt : Nat) (pp : Nat) (x3 : Int32) (x4 : Int32) (hwm : cnt = pp + 2) (h6 : cnt ≤ 6) : MI D ct l yX1_leastFrom wsX1_leastFrom rmX1_leastFrom_2 (YW ct a y (KR a b rs (BW ct a d bz R))) [.ref (d 1), .int (nI (cnt)), .int (nI (pp)), .int (x3), .int (x4)] (fun r0 (_ : Unit) => r0 = lsC (b_w bz) 2 pp x3 x4) (fun _ : Unit => YW ct a y (KR a b rs (BW ct a d bz R))) := by
  refine MIof (cc := cX1_leastFrom) (maxL := 8) (ret := (some .int)) (by decide) rfl (Nat.le_of_ble_eq_true rfl) ?_
  intro p e s m args below meth c A H locs F hP hK hD hS hA ls hl
  obtain ⟨hx, hb, hr, hlocks, hml, hown, hts, hin⟩ := F
  have hl : lv_has ls 8 [(0, .ref (d 1)), (1, .int (nI (cnt))), (2, .int (nI (pp))), (3, .int (x3)), (4, .int (x4))] := hl
  refine lv_iload_n hx hb dX1_leastFrom_0 rfl (lv_at hl 2 rfl) ?_
  refine lv_iload_n hx hb dX1_leastFrom_1 rfl (lv_at hl 1 rfl) ?_
  refine zN_icmp_ge (tgt := 11) hx hb (by omega) (by omega) dX1_leastFrom_2 (by decide) (fun c2_1 => ?_) (fun c2_1 => ?_)
  · skip
    exact absurd c2_1 (by omega)
  · skip
    refine lv_iload_n hx hb dX1_leastFrom_5 rfl (lv_at hl 2 rfl) ?_
    refine lv_aload_n hx hb dX1_leastFrom_6 rfl (lv_at hl 0 rfl) ?_
    refine va_alen (x := (6, _)) (v := nI (6)) hx hb hK hP 17 0 rfl rfl rfl dX1_leastFrom_7 ?_
    refine zN_icmp_lt (tgt := 17) hx hb (by omega) (by omega) dX1_leastFrom_8 (by decide) (fun c8_2 => ?_) (fun c8_2 => ?_)
    · skip
      refine lv_ldc (v := nI (1000000)) hx hb hown (hts (.constant RX1 59 (1000000)) (by decide +kernel)) dX1_leastFrom_17 ?_
      refine lv_istore (lv' := [(5, .int (nI (1000000))), (0, .ref (d 1)), (1, .int (nI (cnt))), (2, .int (nI (pp))), (3, .int (x3)), (4, .int (x4))]) hx hb dX1_leastFrom_19 hl (by decide) rfl (fun ls hl => ?_)
      refine lv_iconst (v := nI (0)) hx hb dX1_leastFrom_21 (by decide) ?_
      refine lv_istore (lv' := [(6, .int (nI (0))), (5, .int (nI (1000000))), (0, .ref (d 1)), (1, .int (nI (cnt))), (2, .int (nI (pp))), (3, .int (x3)), (4, .int (x4))]) hx hb dX1_leastFrom_22 hl (by decide) rfl (fun ls hl => ?_)
      have lp24 : ∀ (fu : Nat) (j : Nat) (acc : Int32) (H : Heap) (locs : List Loc) (ls : Array Slot), (j ≤ 6) → (acc = lsLc (fun p => decide ((x3 >>> (nI p &&& 31)) &&& nI 1 = 0)) (fun q => lsC (b_w bz) 1 (pp + 1) (x3 ||| (nI 1 <<< (nI q &&& 31))) (x4 + (b_w bz pp * nI 2) * (nI 5 - nI (2 * q)))) j) → 6 - j < fu → va_P D vwCl (YW ct a y (KR a b rs (BW ct a d bz R))) H → va_D A (YW ct a y (KR a b rs (BW ct a d bz R))) → va_S A s.heap H locs → lv_has ls 8 [(0, .ref (d 1)), (1, .int (nI (cnt))), (2, .int (nI (pp))), (3, .int (x3)), (4, .int (x4)), (5, .int (acc)), (6, .int (nI (j)))] → W p l e rmX1_leastFrom_2 s m args below meth c H locs 0 0 (MQ below (va_Qi (fun r0 (_ : Unit) => r0 = lsC (b_w bz) 2 pp x3 x4) (zB D ct A (fun _ : Unit => YW ct a y (KR a b rs (BW ct a d bz R)))) A) args s rmX1_leastFrom_2.cells rmX1_leastFrom_2.slots A) (F0 m 24 ls []) := by
        intro fu
        induction fu with
        | zero => intro j acc H locs ls hj hacc hfu; exact absurd hfu (Nat.not_lt_zero _)
        | succ fu ih24 =>
          intro j acc H locs ls hj hacc hfu hP hD hS hl
          refine lv_iload hx hb dX1_leastFrom_24 (lv_at hl 6 rfl) ?_
          refine lv_bipush (v := nI (6)) hx hb dX1_leastFrom_26 (by decide) ?_
          refine zN_icmp_ge (tgt := 86) hx hb (by omega) (by omega) dX1_leastFrom_28 (by decide) (fun c28_3 => ?_) (fun c28_3 => ?_)
          · skip
            refine lv_iload hx hb dX1_leastFrom_86 (lv_at hl 5 rfl) ?_
            exact zIret () hx hb hr hlocks hK hP hD hS dX1_leastFrom_88 (show acc = lsC (b_w bz) 2 pp x3 x4 from (by obtain rfl : j = 6 := (by omega); exact hacc))
          · skip
            refine lv_iload_n hx hb dX1_leastFrom_31 rfl (lv_at hl 3 rfl) ?_
            refine lv_iload hx hb dX1_leastFrom_32 (lv_at hl 6 rfl) ?_
            refine lv_ishr hx hb dX1_leastFrom_34 ?_
            refine lv_iconst (v := nI (1)) hx hb dX1_leastFrom_35 (by decide) ?_
            refine lv_iand hx hb dX1_leastFrom_36 ?_
            refine lv_if_ne (tgt := 80) hx hb dX1_leastFrom_37 (by decide) (fun c37_4 => ?_) (fun c37_4 => ?_)
            · skip
              refine lv_iinc (v := nI ((j + 1))) (lv' := [(6, .int (nI ((j + 1)))), (0, .ref (d 1)), (1, .int (nI (cnt))), (2, .int (nI (pp))), (3, .int (x3)), (4, .int (x4)), (5, .int (acc))]) hx hb dX1_leastFrom_80 hl (k := 6) rfl (zInc _) (by decide) rfl (fun ls hl => ?_)
              refine lv_goto (tgt := 24) hx hb dX1_leastFrom_83 (by decide) ?_
              exact ih24 ((j + 1)) (acc) H locs ls (by omega) (by simp only [lsLc, ← hacc, nI_0, c2_1, c8_2, c28_3, c37_4, p_in, p_worn, p_wi, p_creak, p_le0, p_lt1, not_true_eq_false, not_false_eq_true, if_true, if_false, and_true, true_and, and_false, false_and, or_true, true_or, or_false, false_or, and_self, or_self, iff_true, true_iff, iff_false, false_iff, decide_eq_true_eq, decide_true, decide_false, Int32.add_zero, Nat.add_zero, ne_eq, Bool.false_eq_true, eq_self]) (by omega) hP hD hS (lv_sub hl [1, 2, 3, 4, 5, 6, 0] rfl)
            · skip
              refine lv_iload hx hb dX1_leastFrom_40 (lv_at hl 4 rfl) ?_
              refine lv_aload_n hx hb dX1_leastFrom_42 rfl (lv_at hl 0 rfl) ?_
              refine lv_iload_n hx hb dX1_leastFrom_43 rfl (lv_at hl 2 rfl) ?_
              refine zIald (n := 6) (f := b_w bz) (i := pp) hx hb hK hP 17 rfl (by omega) (by decide) dX1_leastFrom_44 ?_
              refine lv_iconst (v := nI (2)) hx hb dX1_leastFrom_45 (by decide) ?_
              refine lv_imul hx hb dX1_leastFrom_46 ?_
              refine lv_iconst (v := nI (5)) hx hb dX1_leastFrom_47 (by decide) ?_
              refine lv_iconst (v := nI (2)) hx hb dX1_leastFrom_48 (by decide) ?_
              refine lv_iload hx hb dX1_leastFrom_49 (lv_at hl 6 rfl) ?_
              refine zNmul hx hb dX1_leastFrom_51 ?_
              refine lv_isub hx hb dX1_leastFrom_52 ?_
              refine lv_imul hx hb dX1_leastFrom_53 ?_
              refine lv_iadd hx hb dX1_leastFrom_54 ?_
              refine lv_istore (lv' := [(7, .int ((x4 + (((b_w bz (pp)) * nI (2)) * (nI (5) - nI ((2 * j))))))), (0, .ref (d 1)), (1, .int (nI (cnt))), (2, .int (nI (pp))), (3, .int (x3)), (4, .int (x4)), (5, .int (acc)), (6, .int (nI (j)))]) hx hb dX1_leastFrom_55 hl (by decide) rfl (fun ls hl => ?_)
              refine lv_iload hx hb dX1_leastFrom_57 (lv_at hl 6 rfl) ?_
              refine lv_aload_n hx hb dX1_leastFrom_59 rfl (lv_at hl 1 rfl) ?_
              refine lv_iload_n hx hb dX1_leastFrom_60 rfl (lv_at hl 2 rfl) ?_
              refine lv_iload_n hx hb dX1_leastFrom_61 rfl (lv_at hl 3 rfl) ?_
              refine lv_iconst (v := nI (1)) hx hb dX1_leastFrom_62 (by decide) ?_
              refine zNadd hx hb dX1_leastFrom_63 ?_
              refine lv_iload_n hx hb dX1_leastFrom_64 rfl (lv_at hl 4 rfl) ?_
              refine lv_iconst (v := nI (1)) hx hb dX1_leastFrom_65 (by decide) ?_
              refine lv_iload hx hb dX1_leastFrom_66 (lv_at hl 7 rfl) ?_
              refine lv_ishl hx hb dX1_leastFrom_68 ?_
              refine lv_ior hx hb dX1_leastFrom_69 ?_
              refine lv_iload hx hb dX1_leastFrom_70 (lv_at hl 0 rfl) ?_
              refine zSI [.ref (d 1), .int (nI (cnt)), .int (nI ((pp + 1))), .int ((x3 ||| (nI (1) <<< (nI (j) &&& 31)))), .int ((x4 + (((b_w bz (pp)) * nI (2)) * (nI (5) - nI ((2 * j))))))] [.int (acc)] (kX1_leastFrom_1 (a) (y) (b) (rs) (d) (bz) (R) (cnt) ((pp + 1)) ((x3 ||| (nI (1) <<< (nI (j) &&& 31)))) ((x4 + (((b_w bz (pp)) * nI (2)) * (nI (5) - nI ((2 * j)))))) (show (cnt) = ((pp + 1)) + 1 from by omega) (show (cnt) ≤ 6 from by omega)) hx hb hml hown hts (va_cwS 5 hts gX1_leastFrom_X1_leastFrom rfl rfl rfl (by decide +kernel) ⟨(Nat.le_of_ble_eq_true rfl), (Nat.le_of_ble_eq_true rfl)⟩) hK hP hD hS hA rfl hl.1 rfl (Nat.le_of_ble_eq_true rfl) dX1_leastFrom_72 ⟨(Nat.le_of_ble_eq_true rfl), (Nat.le_of_ble_eq_true rfl)⟩ (fun r_72 _ H locs hr_72 hP hD hS => ?_)
              subst hr_72
              have hP : va_P D vwCl (YW ct a y (KR a b rs (BW ct a d bz R))) H := hP
              have hD : va_D A (YW ct a y (KR a b rs (BW ct a d bz R))) := hD
              refine va_mmin hx hb (hml.trans hl.1.symm) hown (hts (.methodLink RX1 60 Lib.Math.min.name) (by decide +kernel)) (hts (.static Lib.Math.min.name) (by decide +kernel)) (hts (.initialized "java/lang/Math") (by decide +kernel)) (hts (.code Lib.Math.min.name Lib.Math.min.code 2 (some .int)) (by decide +kernel)) (Nat.le_of_ble_eq_true rfl) (Nat.le_of_ble_eq_true rfl) (Nat.le_of_ble_eq_true rfl) (Nat.le_of_ble_eq_true rfl) dX1_leastFrom_75 ?_
              refine lv_istore (lv' := [(5, .int ((if (lsC (b_w bz) 1 ((pp + 1)) ((x3 ||| (nI (1) <<< (nI (j) &&& 31)))) ((x4 + (((b_w bz (pp)) * nI (2)) * (nI (5) - nI ((2 * j))))))) < acc then (lsC (b_w bz) 1 ((pp + 1)) ((x3 ||| (nI (1) <<< (nI (j) &&& 31)))) ((x4 + (((b_w bz (pp)) * nI (2)) * (nI (5) - nI ((2 * j))))))) else acc))), (7, .int ((x4 + (((b_w bz (pp)) * nI (2)) * (nI (5) - nI ((2 * j))))))), (0, .ref (d 1)), (1, .int (nI (cnt))), (2, .int (nI (pp))), (3, .int (x3)), (4, .int (x4)), (6, .int (nI (j)))]) hx hb dX1_leastFrom_78 hl (by decide) rfl (fun ls hl => ?_)
              refine lv_iinc (v := nI ((j + 1))) (lv' := [(6, .int (nI ((j + 1)))), (5, .int ((if (lsC (b_w bz) 1 ((pp + 1)) ((x3 ||| (nI (1) <<< (nI (j) &&& 31)))) ((x4 + (((b_w bz (pp)) * nI (2)) * (nI (5) - nI ((2 * j))))))) < acc then (lsC (b_w bz) 1 ((pp + 1)) ((x3 ||| (nI (1) <<< (nI (j) &&& 31)))) ((x4 + (((b_w bz (pp)) * nI (2)) * (nI (5) - nI ((2 * j))))))) else acc))), (7, .int ((x4 + (((b_w bz (pp)) * nI (2)) * (nI (5) - nI ((2 * j))))))), (0, .ref (d 1)), (1, .int (nI (cnt))), (2, .int (nI (pp))), (3, .int (x3)), (4, .int (x4))]) hx hb dX1_leastFrom_80 hl (k := 7) rfl (zInc _) (by decide) rfl (fun ls hl => ?_)
              refine lv_goto (tgt := 24) hx hb dX1_leastFrom_83 (by decide) ?_
              exact ih24 ((j + 1)) ((if (lsC (b_w bz) 1 ((pp + 1)) ((x3 ||| (nI (1) <<< (nI (j) &&& 31)))) ((x4 + (((b_w bz (pp)) * nI (2)) * (nI (5) - nI ((2 * j))))))) < acc then (lsC (b_w bz) 1 ((pp + 1)) ((x3 ||| (nI (1) <<< (nI (j) &&& 31)))) ((x4 + (((b_w bz (pp)) * nI (2)) * (nI (5) - nI ((2 * j))))))) else acc)) H locs ls (by omega) (by simp only [lsLc, ← hacc, nI_0, c2_1, c8_2, c28_3, eq_true c37_4, p_in, p_worn, p_wi, p_creak, p_le0, p_lt1, not_true_eq_false, not_false_eq_true, if_true, if_false, and_true, true_and, and_false, false_and, or_true, true_or, or_false, false_or, and_self, or_self, iff_true, true_iff, iff_false, false_iff, decide_eq_true_eq, decide_true, decide_false, Int32.add_zero, Nat.add_zero, ne_eq, Bool.false_eq_true, eq_self]) (by omega) hP hD hS (lv_sub hl [3, 4, 5, 6, 7, 1, 0] rfl)
      exact lp24 ((6 - (0)) + 1) (0) (nI 1000000) H locs ls (by omega) rfl (Nat.lt_succ_self _) hP hD hS (lv_sub hl [2, 3, 4, 5, 6, 1, 0] rfl)
    · skip
      exact absurd (show pp < 6 by omega) c8_2
abbrev rmX1_leastFrom_3 : Room := { frames := 4, cells := 0, slots := 0, locals := 111 }
set_option maxHeartbeats 4000000 in
set_option maxRecDepth 100000 in
theorem kX1_leastFrom_3 {D : va_G} {ct : Nat → ClassId} {l : Launch} (a : Nat → Nat) (y : YS) (b : Nat → Nat) (rs : RS) (d : Nat → Nat) (bz : BS) (R : va_W) (cnt : Nat) (pp : Nat) (x3 : Int32) (x4 : Int32) (hwm : cnt = pp + 3) (h6 : cnt ≤ 6) : MI D ct l yX1_leastFrom wsX1_leastFrom rmX1_leastFrom_3 (YW ct a y (KR a b rs (BW ct a d bz R))) [.ref (d 1), .int (nI (cnt)), .int (nI (pp)), .int (x3), .int (x4)] (fun r0 (_ : Unit) => r0 = lsC (b_w bz) 3 pp x3 x4) (fun _ : Unit => YW ct a y (KR a b rs (BW ct a d bz R))) := by
  refine MIof (cc := cX1_leastFrom) (maxL := 8) (ret := (some .int)) (by decide) rfl (Nat.le_of_ble_eq_true rfl) ?_
  intro p e s m args below meth c A H locs F hP hK hD hS hA ls hl
  obtain ⟨hx, hb, hr, hlocks, hml, hown, hts, hin⟩ := F
  have hl : lv_has ls 8 [(0, .ref (d 1)), (1, .int (nI (cnt))), (2, .int (nI (pp))), (3, .int (x3)), (4, .int (x4))] := hl
  refine lv_iload_n hx hb dX1_leastFrom_0 rfl (lv_at hl 2 rfl) ?_
  refine lv_iload_n hx hb dX1_leastFrom_1 rfl (lv_at hl 1 rfl) ?_
  refine zN_icmp_ge (tgt := 11) hx hb (by omega) (by omega) dX1_leastFrom_2 (by decide) (fun c2_1 => ?_) (fun c2_1 => ?_)
  · skip
    exact absurd c2_1 (by omega)
  · skip
    refine lv_iload_n hx hb dX1_leastFrom_5 rfl (lv_at hl 2 rfl) ?_
    refine lv_aload_n hx hb dX1_leastFrom_6 rfl (lv_at hl 0 rfl) ?_
    refine va_alen (x := (6, _)) (v := nI (6)) hx hb hK hP 17 0 rfl rfl rfl dX1_leastFrom_7 ?_
    refine zN_icmp_lt (tgt := 17) hx hb (by omega) (by omega) dX1_leastFrom_8 (by decide) (fun c8_2 => ?_) (fun c8_2 => ?_)
    · skip
      refine lv_ldc (v := nI (1000000)) hx hb hown (hts (.constant RX1 59 (1000000)) (by decide +kernel)) dX1_leastFrom_17 ?_
      refine lv_istore (lv' := [(5, .int (nI (1000000))), (0, .ref (d 1)), (1, .int (nI (cnt))), (2, .int (nI (pp))), (3, .int (x3)), (4, .int (x4))]) hx hb dX1_leastFrom_19 hl (by decide) rfl (fun ls hl => ?_)
      refine lv_iconst (v := nI (0)) hx hb dX1_leastFrom_21 (by decide) ?_
      refine lv_istore (lv' := [(6, .int (nI (0))), (5, .int (nI (1000000))), (0, .ref (d 1)), (1, .int (nI (cnt))), (2, .int (nI (pp))), (3, .int (x3)), (4, .int (x4))]) hx hb dX1_leastFrom_22 hl (by decide) rfl (fun ls hl => ?_)
      have lp24 : ∀ (fu : Nat) (j : Nat) (acc : Int32) (H : Heap) (locs : List Loc) (ls : Array Slot), (j ≤ 6) → (acc = lsLc (fun p => decide ((x3 >>> (nI p &&& 31)) &&& nI 1 = 0)) (fun q => lsC (b_w bz) 2 (pp + 1) (x3 ||| (nI 1 <<< (nI q &&& 31))) (x4 + (b_w bz pp * nI 2) * (nI 5 - nI (2 * q)))) j) → 6 - j < fu → va_P D vwCl (YW ct a y (KR a b rs (BW ct a d bz R))) H → va_D A (YW ct a y (KR a b rs (BW ct a d bz R))) → va_S A s.heap H locs → lv_has ls 8 [(0, .ref (d 1)), (1, .int (nI (cnt))), (2, .int (nI (pp))), (3, .int (x3)), (4, .int (x4)), (5, .int (acc)), (6, .int (nI (j)))] → W p l e rmX1_leastFrom_3 s m args below meth c H locs 0 0 (MQ below (va_Qi (fun r0 (_ : Unit) => r0 = lsC (b_w bz) 3 pp x3 x4) (zB D ct A (fun _ : Unit => YW ct a y (KR a b rs (BW ct a d bz R)))) A) args s rmX1_leastFrom_3.cells rmX1_leastFrom_3.slots A) (F0 m 24 ls []) := by
        intro fu
        induction fu with
        | zero => intro j acc H locs ls hj hacc hfu; exact absurd hfu (Nat.not_lt_zero _)
        | succ fu ih24 =>
          intro j acc H locs ls hj hacc hfu hP hD hS hl
          refine lv_iload hx hb dX1_leastFrom_24 (lv_at hl 6 rfl) ?_
          refine lv_bipush (v := nI (6)) hx hb dX1_leastFrom_26 (by decide) ?_
          refine zN_icmp_ge (tgt := 86) hx hb (by omega) (by omega) dX1_leastFrom_28 (by decide) (fun c28_3 => ?_) (fun c28_3 => ?_)
          · skip
            refine lv_iload hx hb dX1_leastFrom_86 (lv_at hl 5 rfl) ?_
            exact zIret () hx hb hr hlocks hK hP hD hS dX1_leastFrom_88 (show acc = lsC (b_w bz) 3 pp x3 x4 from (by obtain rfl : j = 6 := (by omega); exact hacc))
          · skip
            refine lv_iload_n hx hb dX1_leastFrom_31 rfl (lv_at hl 3 rfl) ?_
            refine lv_iload hx hb dX1_leastFrom_32 (lv_at hl 6 rfl) ?_
            refine lv_ishr hx hb dX1_leastFrom_34 ?_
            refine lv_iconst (v := nI (1)) hx hb dX1_leastFrom_35 (by decide) ?_
            refine lv_iand hx hb dX1_leastFrom_36 ?_
            refine lv_if_ne (tgt := 80) hx hb dX1_leastFrom_37 (by decide) (fun c37_4 => ?_) (fun c37_4 => ?_)
            · skip
              refine lv_iinc (v := nI ((j + 1))) (lv' := [(6, .int (nI ((j + 1)))), (0, .ref (d 1)), (1, .int (nI (cnt))), (2, .int (nI (pp))), (3, .int (x3)), (4, .int (x4)), (5, .int (acc))]) hx hb dX1_leastFrom_80 hl (k := 6) rfl (zInc _) (by decide) rfl (fun ls hl => ?_)
              refine lv_goto (tgt := 24) hx hb dX1_leastFrom_83 (by decide) ?_
              exact ih24 ((j + 1)) (acc) H locs ls (by omega) (by simp only [lsLc, ← hacc, nI_0, c2_1, c8_2, c28_3, c37_4, p_in, p_worn, p_wi, p_creak, p_le0, p_lt1, not_true_eq_false, not_false_eq_true, if_true, if_false, and_true, true_and, and_false, false_and, or_true, true_or, or_false, false_or, and_self, or_self, iff_true, true_iff, iff_false, false_iff, decide_eq_true_eq, decide_true, decide_false, Int32.add_zero, Nat.add_zero, ne_eq, Bool.false_eq_true, eq_self]) (by omega) hP hD hS (lv_sub hl [1, 2, 3, 4, 5, 6, 0] rfl)
            · skip
              refine lv_iload hx hb dX1_leastFrom_40 (lv_at hl 4 rfl) ?_
              refine lv_aload_n hx hb dX1_leastFrom_42 rfl (lv_at hl 0 rfl) ?_
              refine lv_iload_n hx hb dX1_leastFrom_43 rfl (lv_at hl 2 rfl) ?_
              refine zIald (n := 6) (f := b_w bz) (i := pp) hx hb hK hP 17 rfl (by omega) (by decide) dX1_leastFrom_44 ?_
              refine lv_iconst (v := nI (2)) hx hb dX1_leastFrom_45 (by decide) ?_
              refine lv_imul hx hb dX1_leastFrom_46 ?_
              refine lv_iconst (v := nI (5)) hx hb dX1_leastFrom_47 (by decide) ?_
              refine lv_iconst (v := nI (2)) hx hb dX1_leastFrom_48 (by decide) ?_
              refine lv_iload hx hb dX1_leastFrom_49 (lv_at hl 6 rfl) ?_
              refine zNmul hx hb dX1_leastFrom_51 ?_
              refine lv_isub hx hb dX1_leastFrom_52 ?_
              refine lv_imul hx hb dX1_leastFrom_53 ?_
              refine lv_iadd hx hb dX1_leastFrom_54 ?_
              refine lv_istore (lv' := [(7, .int ((x4 + (((b_w bz (pp)) * nI (2)) * (nI (5) - nI ((2 * j))))))), (0, .ref (d 1)), (1, .int (nI (cnt))), (2, .int (nI (pp))), (3, .int (x3)), (4, .int (x4)), (5, .int (acc)), (6, .int (nI (j)))]) hx hb dX1_leastFrom_55 hl (by decide) rfl (fun ls hl => ?_)
              refine lv_iload hx hb dX1_leastFrom_57 (lv_at hl 6 rfl) ?_
              refine lv_aload_n hx hb dX1_leastFrom_59 rfl (lv_at hl 1 rfl) ?_
              refine lv_iload_n hx hb dX1_leastFrom_60 rfl (lv_at hl 2 rfl) ?_
              refine lv_iload_n hx hb dX1_leastFrom_61 rfl (lv_at hl 3 rfl) ?_
              refine lv_iconst (v := nI (1)) hx hb dX1_leastFrom_62 (by decide) ?_
              refine zNadd hx hb dX1_leastFrom_63 ?_
              refine lv_iload_n hx hb dX1_leastFrom_64 rfl (lv_at hl 4 rfl) ?_
              refine lv_iconst (v := nI (1)) hx hb dX1_leastFrom_65 (by decide) ?_
              refine lv_iload hx hb dX1_leastFrom_66 (lv_at hl 7 rfl) ?_
              refine lv_ishl hx hb dX1_leastFrom_68 ?_
              refine lv_ior hx hb dX1_leastFrom_69 ?_
              refine lv_iload hx hb dX1_leastFrom_70 (lv_at hl 0 rfl) ?_
              refine zSI [.ref (d 1), .int (nI (cnt)), .int (nI ((pp + 1))), .int ((x3 ||| (nI (1) <<< (nI (j) &&& 31)))), .int ((x4 + (((b_w bz (pp)) * nI (2)) * (nI (5) - nI ((2 * j))))))] [.int (acc)] (kX1_leastFrom_2 (a) (y) (b) (rs) (d) (bz) (R) (cnt) ((pp + 1)) ((x3 ||| (nI (1) <<< (nI (j) &&& 31)))) ((x4 + (((b_w bz (pp)) * nI (2)) * (nI (5) - nI ((2 * j)))))) (show (cnt) = ((pp + 1)) + 2 from by omega) (show (cnt) ≤ 6 from by omega)) hx hb hml hown hts (va_cwS 5 hts gX1_leastFrom_X1_leastFrom rfl rfl rfl (by decide +kernel) ⟨(Nat.le_of_ble_eq_true rfl), (Nat.le_of_ble_eq_true rfl)⟩) hK hP hD hS hA rfl hl.1 rfl (Nat.le_of_ble_eq_true rfl) dX1_leastFrom_72 ⟨(Nat.le_of_ble_eq_true rfl), (Nat.le_of_ble_eq_true rfl)⟩ (fun r_72 _ H locs hr_72 hP hD hS => ?_)
              subst hr_72
              have hP : va_P D vwCl (YW ct a y (KR a b rs (BW ct a d bz R))) H := hP
              have hD : va_D A (YW ct a y (KR a b rs (BW ct a d bz R))) := hD
              refine va_mmin hx hb (hml.trans hl.1.symm) hown (hts (.methodLink RX1 60 Lib.Math.min.name) (by decide +kernel)) (hts (.static Lib.Math.min.name) (by decide +kernel)) (hts (.initialized "java/lang/Math") (by decide +kernel)) (hts (.code Lib.Math.min.name Lib.Math.min.code 2 (some .int)) (by decide +kernel)) (Nat.le_of_ble_eq_true rfl) (Nat.le_of_ble_eq_true rfl) (Nat.le_of_ble_eq_true rfl) (Nat.le_of_ble_eq_true rfl) dX1_leastFrom_75 ?_
              refine lv_istore (lv' := [(5, .int ((if (lsC (b_w bz) 2 ((pp + 1)) ((x3 ||| (nI (1) <<< (nI (j) &&& 31)))) ((x4 + (((b_w bz (pp)) * nI (2)) * (nI (5) - nI ((2 * j))))))) < acc then (lsC (b_w bz) 2 ((pp + 1)) ((x3 ||| (nI (1) <<< (nI (j) &&& 31)))) ((x4 + (((b_w bz (pp)) * nI (2)) * (nI (5) - nI ((2 * j))))))) else acc))), (7, .int ((x4 + (((b_w bz (pp)) * nI (2)) * (nI (5) - nI ((2 * j))))))), (0, .ref (d 1)), (1, .int (nI (cnt))), (2, .int (nI (pp))), (3, .int (x3)), (4, .int (x4)), (6, .int (nI (j)))]) hx hb dX1_leastFrom_78 hl (by decide) rfl (fun ls hl => ?_)
              refine lv_iinc (v := nI ((j + 1))) (lv' := [(6, .int (nI ((j + 1)))), (5, .int ((if (lsC (b_w bz) 2 ((pp + 1)) ((x3 ||| (nI (1) <<< (nI (j) &&& 31)))) ((x4 + (((b_w bz (pp)) * nI (2)) * (nI (5) - nI ((2 * j))))))) < acc then (lsC (b_w bz) 2 ((pp + 1)) ((x3 ||| (nI (1) <<< (nI (j) &&& 31)))) ((x4 + (((b_w bz (pp)) * nI (2)) * (nI (5) - nI ((2 * j))))))) else acc))), (7, .int ((x4 + (((b_w bz (pp)) * nI (2)) * (nI (5) - nI ((2 * j))))))), (0, .ref (d 1)), (1, .int (nI (cnt))), (2, .int (nI (pp))), (3, .int (x3)), (4, .int (x4))]) hx hb dX1_leastFrom_80 hl (k := 7) rfl (zInc _) (by decide) rfl (fun ls hl => ?_)
              refine lv_goto (tgt := 24) hx hb dX1_leastFrom_83 (by decide) ?_
              exact ih24 ((j + 1)) ((if (lsC (b_w bz) 2 ((pp + 1)) ((x3 ||| (nI (1) <<< (nI (j) &&& 31)))) ((x4 + (((b_w bz (pp)) * nI (2)) * (nI (5) - nI ((2 * j))))))) < acc then (lsC (b_w bz) 2 ((pp + 1)) ((x3 ||| (nI (1) <<< (nI (j) &&& 31)))) ((x4 + (((b_w bz (pp)) * nI (2)) * (nI (5) - nI ((2 * j))))))) else acc)) H locs ls (by omega) (by simp only [lsLc, ← hacc, nI_0, c2_1, c8_2, c28_3, eq_true c37_4, p_in, p_worn, p_wi, p_creak, p_le0, p_lt1, not_true_eq_false, not_false_eq_true, if_true, if_false, and_true, true_and, and_false, false_and, or_true, true_or, or_false, false_or, and_self, or_self, iff_true, true_iff, iff_false, false_iff, decide_eq_true_eq, decide_true, decide_false, Int32.add_zero, Nat.add_zero, ne_eq, Bool.false_eq_true, eq_self]) (by omega) hP hD hS (lv_sub hl [3, 4, 5, 6, 7, 1, 0] rfl)
      exact lp24 ((6 - (0)) + 1) (0) (nI 1000000) H locs ls (by omega) rfl (Nat.lt_succ_self _) hP hD hS (lv_sub hl [2, 3, 4, 5, 6, 1, 0] rfl)
    · skip
      exact absurd (show pp < 6 by omega) c8_2
abbrev rmX1_leastFrom_4 : Room := { frames := 5, cells := 0, slots := 0, locals := 138 }
set_option maxHeartbeats 4000000 in
set_option maxRecDepth 100000 in
theorem kX1_leastFrom_4 {D : va_G} {ct : Nat → ClassId} {l : Launch} (a : Nat → Nat) (y : YS) (b : Nat → Nat) (rs : RS) (d : Nat → Nat) (bz : BS) (R : va_W) (cnt : Nat) (pp : Nat) (x3 : Int32) (x4 : Int32) (hwm : cnt = pp + 4) (h6 : cnt ≤ 6) : MI D ct l yX1_leastFrom wsX1_leastFrom rmX1_leastFrom_4 (YW ct a y (KR a b rs (BW ct a d bz R))) [.ref (d 1), .int (nI (cnt)), .int (nI (pp)), .int (x3), .int (x4)] (fun r0 (_ : Unit) => r0 = lsC (b_w bz) 4 pp x3 x4) (fun _ : Unit => YW ct a y (KR a b rs (BW ct a d bz R))) := by
  refine MIof (cc := cX1_leastFrom) (maxL := 8) (ret := (some .int)) (by decide) rfl (Nat.le_of_ble_eq_true rfl) ?_
  intro p e s m args below meth c A H locs F hP hK hD hS hA ls hl
  obtain ⟨hx, hb, hr, hlocks, hml, hown, hts, hin⟩ := F
  have hl : lv_has ls 8 [(0, .ref (d 1)), (1, .int (nI (cnt))), (2, .int (nI (pp))), (3, .int (x3)), (4, .int (x4))] := hl
  refine lv_iload_n hx hb dX1_leastFrom_0 rfl (lv_at hl 2 rfl) ?_
  refine lv_iload_n hx hb dX1_leastFrom_1 rfl (lv_at hl 1 rfl) ?_
  refine zN_icmp_ge (tgt := 11) hx hb (by omega) (by omega) dX1_leastFrom_2 (by decide) (fun c2_1 => ?_) (fun c2_1 => ?_)
  · skip
    exact absurd c2_1 (by omega)
  · skip
    refine lv_iload_n hx hb dX1_leastFrom_5 rfl (lv_at hl 2 rfl) ?_
    refine lv_aload_n hx hb dX1_leastFrom_6 rfl (lv_at hl 0 rfl) ?_
    refine va_alen (x := (6, _)) (v := nI (6)) hx hb hK hP 17 0 rfl rfl rfl dX1_leastFrom_7 ?_
    refine zN_icmp_lt (tgt := 17) hx hb (by omega) (by omega) dX1_leastFrom_8 (by decide) (fun c8_2 => ?_) (fun c8_2 => ?_)
    · skip
      refine lv_ldc (v := nI (1000000)) hx hb hown (hts (.constant RX1 59 (1000000)) (by decide +kernel)) dX1_leastFrom_17 ?_
      refine lv_istore (lv' := [(5, .int (nI (1000000))), (0, .ref (d 1)), (1, .int (nI (cnt))), (2, .int (nI (pp))), (3, .int (x3)), (4, .int (x4))]) hx hb dX1_leastFrom_19 hl (by decide) rfl (fun ls hl => ?_)
      refine lv_iconst (v := nI (0)) hx hb dX1_leastFrom_21 (by decide) ?_
      refine lv_istore (lv' := [(6, .int (nI (0))), (5, .int (nI (1000000))), (0, .ref (d 1)), (1, .int (nI (cnt))), (2, .int (nI (pp))), (3, .int (x3)), (4, .int (x4))]) hx hb dX1_leastFrom_22 hl (by decide) rfl (fun ls hl => ?_)
      have lp24 : ∀ (fu : Nat) (j : Nat) (acc : Int32) (H : Heap) (locs : List Loc) (ls : Array Slot), (j ≤ 6) → (acc = lsLc (fun p => decide ((x3 >>> (nI p &&& 31)) &&& nI 1 = 0)) (fun q => lsC (b_w bz) 3 (pp + 1) (x3 ||| (nI 1 <<< (nI q &&& 31))) (x4 + (b_w bz pp * nI 2) * (nI 5 - nI (2 * q)))) j) → 6 - j < fu → va_P D vwCl (YW ct a y (KR a b rs (BW ct a d bz R))) H → va_D A (YW ct a y (KR a b rs (BW ct a d bz R))) → va_S A s.heap H locs → lv_has ls 8 [(0, .ref (d 1)), (1, .int (nI (cnt))), (2, .int (nI (pp))), (3, .int (x3)), (4, .int (x4)), (5, .int (acc)), (6, .int (nI (j)))] → W p l e rmX1_leastFrom_4 s m args below meth c H locs 0 0 (MQ below (va_Qi (fun r0 (_ : Unit) => r0 = lsC (b_w bz) 4 pp x3 x4) (zB D ct A (fun _ : Unit => YW ct a y (KR a b rs (BW ct a d bz R)))) A) args s rmX1_leastFrom_4.cells rmX1_leastFrom_4.slots A) (F0 m 24 ls []) := by
        intro fu
        induction fu with
        | zero => intro j acc H locs ls hj hacc hfu; exact absurd hfu (Nat.not_lt_zero _)
        | succ fu ih24 =>
          intro j acc H locs ls hj hacc hfu hP hD hS hl
          refine lv_iload hx hb dX1_leastFrom_24 (lv_at hl 6 rfl) ?_
          refine lv_bipush (v := nI (6)) hx hb dX1_leastFrom_26 (by decide) ?_
          refine zN_icmp_ge (tgt := 86) hx hb (by omega) (by omega) dX1_leastFrom_28 (by decide) (fun c28_3 => ?_) (fun c28_3 => ?_)
          · skip
            refine lv_iload hx hb dX1_leastFrom_86 (lv_at hl 5 rfl) ?_
            exact zIret () hx hb hr hlocks hK hP hD hS dX1_leastFrom_88 (show acc = lsC (b_w bz) 4 pp x3 x4 from (by obtain rfl : j = 6 := (by omega); exact hacc))
          · skip
            refine lv_iload_n hx hb dX1_leastFrom_31 rfl (lv_at hl 3 rfl) ?_
            refine lv_iload hx hb dX1_leastFrom_32 (lv_at hl 6 rfl) ?_
            refine lv_ishr hx hb dX1_leastFrom_34 ?_
            refine lv_iconst (v := nI (1)) hx hb dX1_leastFrom_35 (by decide) ?_
            refine lv_iand hx hb dX1_leastFrom_36 ?_
            refine lv_if_ne (tgt := 80) hx hb dX1_leastFrom_37 (by decide) (fun c37_4 => ?_) (fun c37_4 => ?_)
            · skip
              refine lv_iinc (v := nI ((j + 1))) (lv' := [(6, .int (nI ((j + 1)))), (0, .ref (d 1)), (1, .int (nI (cnt))), (2, .int (nI (pp))), (3, .int (x3)), (4, .int (x4)), (5, .int (acc))]) hx hb dX1_leastFrom_80 hl (k := 6) rfl (zInc _) (by decide) rfl (fun ls hl => ?_)
              refine lv_goto (tgt := 24) hx hb dX1_leastFrom_83 (by decide) ?_
              exact ih24 ((j + 1)) (acc) H locs ls (by omega) (by simp only [lsLc, ← hacc, nI_0, c2_1, c8_2, c28_3, c37_4, p_in, p_worn, p_wi, p_creak, p_le0, p_lt1, not_true_eq_false, not_false_eq_true, if_true, if_false, and_true, true_and, and_false, false_and, or_true, true_or, or_false, false_or, and_self, or_self, iff_true, true_iff, iff_false, false_iff, decide_eq_true_eq, decide_true, decide_false, Int32.add_zero, Nat.add_zero, ne_eq, Bool.false_eq_true, eq_self]) (by omega) hP hD hS (lv_sub hl [1, 2, 3, 4, 5, 6, 0] rfl)
            · skip
              refine lv_iload hx hb dX1_leastFrom_40 (lv_at hl 4 rfl) ?_
              refine lv_aload_n hx hb dX1_leastFrom_42 rfl (lv_at hl 0 rfl) ?_
              refine lv_iload_n hx hb dX1_leastFrom_43 rfl (lv_at hl 2 rfl) ?_
              refine zIald (n := 6) (f := b_w bz) (i := pp) hx hb hK hP 17 rfl (by omega) (by decide) dX1_leastFrom_44 ?_
              refine lv_iconst (v := nI (2)) hx hb dX1_leastFrom_45 (by decide) ?_
              refine lv_imul hx hb dX1_leastFrom_46 ?_
              refine lv_iconst (v := nI (5)) hx hb dX1_leastFrom_47 (by decide) ?_
              refine lv_iconst (v := nI (2)) hx hb dX1_leastFrom_48 (by decide) ?_
              refine lv_iload hx hb dX1_leastFrom_49 (lv_at hl 6 rfl) ?_
              refine zNmul hx hb dX1_leastFrom_51 ?_
              refine lv_isub hx hb dX1_leastFrom_52 ?_
              refine lv_imul hx hb dX1_leastFrom_53 ?_
              refine lv_iadd hx hb dX1_leastFrom_54 ?_
              refine lv_istore (lv' := [(7, .int ((x4 + (((b_w bz (pp)) * nI (2)) * (nI (5) - nI ((2 * j))))))), (0, .ref (d 1)), (1, .int (nI (cnt))), (2, .int (nI (pp))), (3, .int (x3)), (4, .int (x4)), (5, .int (acc)), (6, .int (nI (j)))]) hx hb dX1_leastFrom_55 hl (by decide) rfl (fun ls hl => ?_)
              refine lv_iload hx hb dX1_leastFrom_57 (lv_at hl 6 rfl) ?_
              refine lv_aload_n hx hb dX1_leastFrom_59 rfl (lv_at hl 1 rfl) ?_
              refine lv_iload_n hx hb dX1_leastFrom_60 rfl (lv_at hl 2 rfl) ?_
              refine lv_iload_n hx hb dX1_leastFrom_61 rfl (lv_at hl 3 rfl) ?_
              refine lv_iconst (v := nI (1)) hx hb dX1_leastFrom_62 (by decide) ?_
              refine zNadd hx hb dX1_leastFrom_63 ?_
              refine lv_iload_n hx hb dX1_leastFrom_64 rfl (lv_at hl 4 rfl) ?_
              refine lv_iconst (v := nI (1)) hx hb dX1_leastFrom_65 (by decide) ?_
              refine lv_iload hx hb dX1_leastFrom_66 (lv_at hl 7 rfl) ?_
              refine lv_ishl hx hb dX1_leastFrom_68 ?_
              refine lv_ior hx hb dX1_leastFrom_69 ?_
              refine lv_iload hx hb dX1_leastFrom_70 (lv_at hl 0 rfl) ?_
              refine zSI [.ref (d 1), .int (nI (cnt)), .int (nI ((pp + 1))), .int ((x3 ||| (nI (1) <<< (nI (j) &&& 31)))), .int ((x4 + (((b_w bz (pp)) * nI (2)) * (nI (5) - nI ((2 * j))))))] [.int (acc)] (kX1_leastFrom_3 (a) (y) (b) (rs) (d) (bz) (R) (cnt) ((pp + 1)) ((x3 ||| (nI (1) <<< (nI (j) &&& 31)))) ((x4 + (((b_w bz (pp)) * nI (2)) * (nI (5) - nI ((2 * j)))))) (show (cnt) = ((pp + 1)) + 3 from by omega) (show (cnt) ≤ 6 from by omega)) hx hb hml hown hts (va_cwS 5 hts gX1_leastFrom_X1_leastFrom rfl rfl rfl (by decide +kernel) ⟨(Nat.le_of_ble_eq_true rfl), (Nat.le_of_ble_eq_true rfl)⟩) hK hP hD hS hA rfl hl.1 rfl (Nat.le_of_ble_eq_true rfl) dX1_leastFrom_72 ⟨(Nat.le_of_ble_eq_true rfl), (Nat.le_of_ble_eq_true rfl)⟩ (fun r_72 _ H locs hr_72 hP hD hS => ?_)
              subst hr_72
              have hP : va_P D vwCl (YW ct a y (KR a b rs (BW ct a d bz R))) H := hP
              have hD : va_D A (YW ct a y (KR a b rs (BW ct a d bz R))) := hD
              refine va_mmin hx hb (hml.trans hl.1.symm) hown (hts (.methodLink RX1 60 Lib.Math.min.name) (by decide +kernel)) (hts (.static Lib.Math.min.name) (by decide +kernel)) (hts (.initialized "java/lang/Math") (by decide +kernel)) (hts (.code Lib.Math.min.name Lib.Math.min.code 2 (some .int)) (by decide +kernel)) (Nat.le_of_ble_eq_true rfl) (Nat.le_of_ble_eq_true rfl) (Nat.le_of_ble_eq_true rfl) (Nat.le_of_ble_eq_true rfl) dX1_leastFrom_75 ?_
              refine lv_istore (lv' := [(5, .int ((if (lsC (b_w bz) 3 ((pp + 1)) ((x3 ||| (nI (1) <<< (nI (j) &&& 31)))) ((x4 + (((b_w bz (pp)) * nI (2)) * (nI (5) - nI ((2 * j))))))) < acc then (lsC (b_w bz) 3 ((pp + 1)) ((x3 ||| (nI (1) <<< (nI (j) &&& 31)))) ((x4 + (((b_w bz (pp)) * nI (2)) * (nI (5) - nI ((2 * j))))))) else acc))), (7, .int ((x4 + (((b_w bz (pp)) * nI (2)) * (nI (5) - nI ((2 * j))))))), (0, .ref (d 1)), (1, .int (nI (cnt))), (2, .int (nI (pp))), (3, .int (x3)), (4, .int (x4)), (6, .int (nI (j)))]) hx hb dX1_leastFrom_78 hl (by decide) rfl (fun ls hl => ?_)
              refine lv_iinc (v := nI ((j + 1))) (lv' := [(6, .int (nI ((j + 1)))), (5, .int ((if (lsC (b_w bz) 3 ((pp + 1)) ((x3 ||| (nI (1) <<< (nI (j) &&& 31)))) ((x4 + (((b_w bz (pp)) * nI (2)) * (nI (5) - nI ((2 * j))))))) < acc then (lsC (b_w bz) 3 ((pp + 1)) ((x3 ||| (nI (1) <<< (nI (j) &&& 31)))) ((x4 + (((b_w bz (pp)) * nI (2)) * (nI (5) - nI ((2 * j))))))) else acc))), (7, .int ((x4 + (((b_w bz (pp)) * nI (2)) * (nI (5) - nI ((2 * j))))))), (0, .ref (d 1)), (1, .int (nI (cnt))), (2, .int (nI (pp))), (3, .int (x3)), (4, .int (x4))]) hx hb dX1_leastFrom_80 hl (k := 7) rfl (zInc _) (by decide) rfl (fun ls hl => ?_)
              refine lv_goto (tgt := 24) hx hb dX1_leastFrom_83 (by decide) ?_
              exact ih24 ((j + 1)) ((if (lsC (b_w bz) 3 ((pp + 1)) ((x3 ||| (nI (1) <<< (nI (j) &&& 31)))) ((x4 + (((b_w bz (pp)) * nI (2)) * (nI (5) - nI ((2 * j))))))) < acc then (lsC (b_w bz) 3 ((pp + 1)) ((x3 ||| (nI (1) <<< (nI (j) &&& 31)))) ((x4 + (((b_w bz (pp)) * nI (2)) * (nI (5) - nI ((2 * j))))))) else acc)) H locs ls (by omega) (by simp only [lsLc, ← hacc, nI_0, c2_1, c8_2, c28_3, eq_true c37_4, p_in, p_worn, p_wi, p_creak, p_le0, p_lt1, not_true_eq_false, not_false_eq_true, if_true, if_false, and_true, true_and, and_false, false_and, or_true, true_or, or_false, false_or, and_self, or_self, iff_true, true_iff, iff_false, false_iff, decide_eq_true_eq, decide_true, decide_false, Int32.add_zero, Nat.add_zero, ne_eq, Bool.false_eq_true, eq_self]) (by omega) hP hD hS (lv_sub hl [3, 4, 5, 6, 7, 1, 0] rfl)
      exact lp24 ((6 - (0)) + 1) (0) (nI 1000000) H locs ls (by omega) rfl (Nat.lt_succ_self _) hP hD hS (lv_sub hl [2, 3, 4, 5, 6, 1, 0] rfl)
    · skip
      exact absurd (show pp < 6 by omega) c8_2
abbrev rmX1_leastFrom_5 : Room := { frames := 6, cells := 0, slots := 0, locals := 165 }
set_option maxHeartbeats 4000000 in
set_option maxRecDepth 100000 in
theorem kX1_leastFrom_5 {D : va_G} {ct : Nat → ClassId} {l : Launch} (a : Nat → Nat) (y : YS) (b : Nat → Nat) (rs : RS) (d : Nat → Nat) (bz : BS) (R : va_W) (cnt : Nat) (pp : Nat) (x3 : Int32) (x4 : Int32) (hwm : cnt = pp + 5) (h6 : cnt ≤ 6) : MI D ct l yX1_leastFrom wsX1_leastFrom rmX1_leastFrom_5 (YW ct a y (KR a b rs (BW ct a d bz R))) [.ref (d 1), .int (nI (cnt)), .int (nI (pp)), .int (x3), .int (x4)] (fun r0 (_ : Unit) => r0 = lsC (b_w bz) 5 pp x3 x4) (fun _ : Unit => YW ct a y (KR a b rs (BW ct a d bz R))) := by
  refine MIof (cc := cX1_leastFrom) (maxL := 8) (ret := (some .int)) (by decide) rfl (Nat.le_of_ble_eq_true rfl) ?_
  intro p e s m args below meth c A H locs F hP hK hD hS hA ls hl
  obtain ⟨hx, hb, hr, hlocks, hml, hown, hts, hin⟩ := F
  have hl : lv_has ls 8 [(0, .ref (d 1)), (1, .int (nI (cnt))), (2, .int (nI (pp))), (3, .int (x3)), (4, .int (x4))] := hl
  refine lv_iload_n hx hb dX1_leastFrom_0 rfl (lv_at hl 2 rfl) ?_
  refine lv_iload_n hx hb dX1_leastFrom_1 rfl (lv_at hl 1 rfl) ?_
  refine zN_icmp_ge (tgt := 11) hx hb (by omega) (by omega) dX1_leastFrom_2 (by decide) (fun c2_1 => ?_) (fun c2_1 => ?_)
  · skip
    exact absurd c2_1 (by omega)
  · skip
    refine lv_iload_n hx hb dX1_leastFrom_5 rfl (lv_at hl 2 rfl) ?_
    refine lv_aload_n hx hb dX1_leastFrom_6 rfl (lv_at hl 0 rfl) ?_
    refine va_alen (x := (6, _)) (v := nI (6)) hx hb hK hP 17 0 rfl rfl rfl dX1_leastFrom_7 ?_
    refine zN_icmp_lt (tgt := 17) hx hb (by omega) (by omega) dX1_leastFrom_8 (by decide) (fun c8_2 => ?_) (fun c8_2 => ?_)
    · skip
      refine lv_ldc (v := nI (1000000)) hx hb hown (hts (.constant RX1 59 (1000000)) (by decide +kernel)) dX1_leastFrom_17 ?_
      refine lv_istore (lv' := [(5, .int (nI (1000000))), (0, .ref (d 1)), (1, .int (nI (cnt))), (2, .int (nI (pp))), (3, .int (x3)), (4, .int (x4))]) hx hb dX1_leastFrom_19 hl (by decide) rfl (fun ls hl => ?_)
      refine lv_iconst (v := nI (0)) hx hb dX1_leastFrom_21 (by decide) ?_
      refine lv_istore (lv' := [(6, .int (nI (0))), (5, .int (nI (1000000))), (0, .ref (d 1)), (1, .int (nI (cnt))), (2, .int (nI (pp))), (3, .int (x3)), (4, .int (x4))]) hx hb dX1_leastFrom_22 hl (by decide) rfl (fun ls hl => ?_)
      have lp24 : ∀ (fu : Nat) (j : Nat) (acc : Int32) (H : Heap) (locs : List Loc) (ls : Array Slot), (j ≤ 6) → (acc = lsLc (fun p => decide ((x3 >>> (nI p &&& 31)) &&& nI 1 = 0)) (fun q => lsC (b_w bz) 4 (pp + 1) (x3 ||| (nI 1 <<< (nI q &&& 31))) (x4 + (b_w bz pp * nI 2) * (nI 5 - nI (2 * q)))) j) → 6 - j < fu → va_P D vwCl (YW ct a y (KR a b rs (BW ct a d bz R))) H → va_D A (YW ct a y (KR a b rs (BW ct a d bz R))) → va_S A s.heap H locs → lv_has ls 8 [(0, .ref (d 1)), (1, .int (nI (cnt))), (2, .int (nI (pp))), (3, .int (x3)), (4, .int (x4)), (5, .int (acc)), (6, .int (nI (j)))] → W p l e rmX1_leastFrom_5 s m args below meth c H locs 0 0 (MQ below (va_Qi (fun r0 (_ : Unit) => r0 = lsC (b_w bz) 5 pp x3 x4) (zB D ct A (fun _ : Unit => YW ct a y (KR a b rs (BW ct a d bz R)))) A) args s rmX1_leastFrom_5.cells rmX1_leastFrom_5.slots A) (F0 m 24 ls []) := by
        intro fu
        induction fu with
        | zero => intro j acc H locs ls hj hacc hfu; exact absurd hfu (Nat.not_lt_zero _)
        | succ fu ih24 =>
          intro j acc H locs ls hj hacc hfu hP hD hS hl
          refine lv_iload hx hb dX1_leastFrom_24 (lv_at hl 6 rfl) ?_
          refine lv_bipush (v := nI (6)) hx hb dX1_leastFrom_26 (by decide) ?_
          refine zN_icmp_ge (tgt := 86) hx hb (by omega) (by omega) dX1_leastFrom_28 (by decide) (fun c28_3 => ?_) (fun c28_3 => ?_)
          · skip
            refine lv_iload hx hb dX1_leastFrom_86 (lv_at hl 5 rfl) ?_
            exact zIret () hx hb hr hlocks hK hP hD hS dX1_leastFrom_88 (show acc = lsC (b_w bz) 5 pp x3 x4 from (by obtain rfl : j = 6 := (by omega); exact hacc))
          · skip
            refine lv_iload_n hx hb dX1_leastFrom_31 rfl (lv_at hl 3 rfl) ?_
            refine lv_iload hx hb dX1_leastFrom_32 (lv_at hl 6 rfl) ?_
            refine lv_ishr hx hb dX1_leastFrom_34 ?_
            refine lv_iconst (v := nI (1)) hx hb dX1_leastFrom_35 (by decide) ?_
            refine lv_iand hx hb dX1_leastFrom_36 ?_
            refine lv_if_ne (tgt := 80) hx hb dX1_leastFrom_37 (by decide) (fun c37_4 => ?_) (fun c37_4 => ?_)
            · skip
              refine lv_iinc (v := nI ((j + 1))) (lv' := [(6, .int (nI ((j + 1)))), (0, .ref (d 1)), (1, .int (nI (cnt))), (2, .int (nI (pp))), (3, .int (x3)), (4, .int (x4)), (5, .int (acc))]) hx hb dX1_leastFrom_80 hl (k := 6) rfl (zInc _) (by decide) rfl (fun ls hl => ?_)
              refine lv_goto (tgt := 24) hx hb dX1_leastFrom_83 (by decide) ?_
              exact ih24 ((j + 1)) (acc) H locs ls (by omega) (by simp only [lsLc, ← hacc, nI_0, c2_1, c8_2, c28_3, c37_4, p_in, p_worn, p_wi, p_creak, p_le0, p_lt1, not_true_eq_false, not_false_eq_true, if_true, if_false, and_true, true_and, and_false, false_and, or_true, true_or, or_false, false_or, and_self, or_self, iff_true, true_iff, iff_false, false_iff, decide_eq_true_eq, decide_true, decide_false, Int32.add_zero, Nat.add_zero, ne_eq, Bool.false_eq_true, eq_self]) (by omega) hP hD hS (lv_sub hl [1, 2, 3, 4, 5, 6, 0] rfl)
            · skip
              refine lv_iload hx hb dX1_leastFrom_40 (lv_at hl 4 rfl) ?_
              refine lv_aload_n hx hb dX1_leastFrom_42 rfl (lv_at hl 0 rfl) ?_
              refine lv_iload_n hx hb dX1_leastFrom_43 rfl (lv_at hl 2 rfl) ?_
              refine zIald (n := 6) (f := b_w bz) (i := pp) hx hb hK hP 17 rfl (by omega) (by decide) dX1_leastFrom_44 ?_
              refine lv_iconst (v := nI (2)) hx hb dX1_leastFrom_45 (by decide) ?_
              refine lv_imul hx hb dX1_leastFrom_46 ?_
              refine lv_iconst (v := nI (5)) hx hb dX1_leastFrom_47 (by decide) ?_
              refine lv_iconst (v := nI (2)) hx hb dX1_leastFrom_48 (by decide) ?_
              refine lv_iload hx hb dX1_leastFrom_49 (lv_at hl 6 rfl) ?_
              refine zNmul hx hb dX1_leastFrom_51 ?_
              refine lv_isub hx hb dX1_leastFrom_52 ?_
              refine lv_imul hx hb dX1_leastFrom_53 ?_
              refine lv_iadd hx hb dX1_leastFrom_54 ?_
              refine lv_istore (lv' := [(7, .int ((x4 + (((b_w bz (pp)) * nI (2)) * (nI (5) - nI ((2 * j))))))), (0, .ref (d 1)), (1, .int (nI (cnt))), (2, .int (nI (pp))), (3, .int (x3)), (4, .int (x4)), (5, .int (acc)), (6, .int (nI (j)))]) hx hb dX1_leastFrom_55 hl (by decide) rfl (fun ls hl => ?_)
              refine lv_iload hx hb dX1_leastFrom_57 (lv_at hl 6 rfl) ?_
              refine lv_aload_n hx hb dX1_leastFrom_59 rfl (lv_at hl 1 rfl) ?_
              refine lv_iload_n hx hb dX1_leastFrom_60 rfl (lv_at hl 2 rfl) ?_
              refine lv_iload_n hx hb dX1_leastFrom_61 rfl (lv_at hl 3 rfl) ?_
              refine lv_iconst (v := nI (1)) hx hb dX1_leastFrom_62 (by decide) ?_
              refine zNadd hx hb dX1_leastFrom_63 ?_
              refine lv_iload_n hx hb dX1_leastFrom_64 rfl (lv_at hl 4 rfl) ?_
              refine lv_iconst (v := nI (1)) hx hb dX1_leastFrom_65 (by decide) ?_
              refine lv_iload hx hb dX1_leastFrom_66 (lv_at hl 7 rfl) ?_
              refine lv_ishl hx hb dX1_leastFrom_68 ?_
              refine lv_ior hx hb dX1_leastFrom_69 ?_
              refine lv_iload hx hb dX1_leastFrom_70 (lv_at hl 0 rfl) ?_
              refine zSI [.ref (d 1), .int (nI (cnt)), .int (nI ((pp + 1))), .int ((x3 ||| (nI (1) <<< (nI (j) &&& 31)))), .int ((x4 + (((b_w bz (pp)) * nI (2)) * (nI (5) - nI ((2 * j))))))] [.int (acc)] (kX1_leastFrom_4 (a) (y) (b) (rs) (d) (bz) (R) (cnt) ((pp + 1)) ((x3 ||| (nI (1) <<< (nI (j) &&& 31)))) ((x4 + (((b_w bz (pp)) * nI (2)) * (nI (5) - nI ((2 * j)))))) (show (cnt) = ((pp + 1)) + 4 from by omega) (show (cnt) ≤ 6 from by omega)) hx hb hml hown hts (va_cwS 5 hts gX1_leastFrom_X1_leastFrom rfl rfl rfl (by decide +kernel) ⟨(Nat.le_of_ble_eq_true rfl), (Nat.le_of_ble_eq_true rfl)⟩) hK hP hD hS hA rfl hl.1 rfl (Nat.le_of_ble_eq_true rfl) dX1_leastFrom_72 ⟨(Nat.le_of_ble_eq_true rfl), (Nat.le_of_ble_eq_true rfl)⟩ (fun r_72 _ H locs hr_72 hP hD hS => ?_)
              subst hr_72
              have hP : va_P D vwCl (YW ct a y (KR a b rs (BW ct a d bz R))) H := hP
              have hD : va_D A (YW ct a y (KR a b rs (BW ct a d bz R))) := hD
              refine va_mmin hx hb (hml.trans hl.1.symm) hown (hts (.methodLink RX1 60 Lib.Math.min.name) (by decide +kernel)) (hts (.static Lib.Math.min.name) (by decide +kernel)) (hts (.initialized "java/lang/Math") (by decide +kernel)) (hts (.code Lib.Math.min.name Lib.Math.min.code 2 (some .int)) (by decide +kernel)) (Nat.le_of_ble_eq_true rfl) (Nat.le_of_ble_eq_true rfl) (Nat.le_of_ble_eq_true rfl) (Nat.le_of_ble_eq_true rfl) dX1_leastFrom_75 ?_
              refine lv_istore (lv' := [(5, .int ((if (lsC (b_w bz) 4 ((pp + 1)) ((x3 ||| (nI (1) <<< (nI (j) &&& 31)))) ((x4 + (((b_w bz (pp)) * nI (2)) * (nI (5) - nI ((2 * j))))))) < acc then (lsC (b_w bz) 4 ((pp + 1)) ((x3 ||| (nI (1) <<< (nI (j) &&& 31)))) ((x4 + (((b_w bz (pp)) * nI (2)) * (nI (5) - nI ((2 * j))))))) else acc))), (7, .int ((x4 + (((b_w bz (pp)) * nI (2)) * (nI (5) - nI ((2 * j))))))), (0, .ref (d 1)), (1, .int (nI (cnt))), (2, .int (nI (pp))), (3, .int (x3)), (4, .int (x4)), (6, .int (nI (j)))]) hx hb dX1_leastFrom_78 hl (by decide) rfl (fun ls hl => ?_)
              refine lv_iinc (v := nI ((j + 1))) (lv' := [(6, .int (nI ((j + 1)))), (5, .int ((if (lsC (b_w bz) 4 ((pp + 1)) ((x3 ||| (nI (1) <<< (nI (j) &&& 31)))) ((x4 + (((b_w bz (pp)) * nI (2)) * (nI (5) - nI ((2 * j))))))) < acc then (lsC (b_w bz) 4 ((pp + 1)) ((x3 ||| (nI (1) <<< (nI (j) &&& 31)))) ((x4 + (((b_w bz (pp)) * nI (2)) * (nI (5) - nI ((2 * j))))))) else acc))), (7, .int ((x4 + (((b_w bz (pp)) * nI (2)) * (nI (5) - nI ((2 * j))))))), (0, .ref (d 1)), (1, .int (nI (cnt))), (2, .int (nI (pp))), (3, .int (x3)), (4, .int (x4))]) hx hb dX1_leastFrom_80 hl (k := 7) rfl (zInc _) (by decide) rfl (fun ls hl => ?_)
              refine lv_goto (tgt := 24) hx hb dX1_leastFrom_83 (by decide) ?_
              exact ih24 ((j + 1)) ((if (lsC (b_w bz) 4 ((pp + 1)) ((x3 ||| (nI (1) <<< (nI (j) &&& 31)))) ((x4 + (((b_w bz (pp)) * nI (2)) * (nI (5) - nI ((2 * j))))))) < acc then (lsC (b_w bz) 4 ((pp + 1)) ((x3 ||| (nI (1) <<< (nI (j) &&& 31)))) ((x4 + (((b_w bz (pp)) * nI (2)) * (nI (5) - nI ((2 * j))))))) else acc)) H locs ls (by omega) (by simp only [lsLc, ← hacc, nI_0, c2_1, c8_2, c28_3, eq_true c37_4, p_in, p_worn, p_wi, p_creak, p_le0, p_lt1, not_true_eq_false, not_false_eq_true, if_true, if_false, and_true, true_and, and_false, false_and, or_true, true_or, or_false, false_or, and_self, or_self, iff_true, true_iff, iff_false, false_iff, decide_eq_true_eq, decide_true, decide_false, Int32.add_zero, Nat.add_zero, ne_eq, Bool.false_eq_true, eq_self]) (by omega) hP hD hS (lv_sub hl [3, 4, 5, 6, 7, 1, 0] rfl)
      exact lp24 ((6 - (0)) + 1) (0) (nI 1000000) H locs ls (by omega) rfl (Nat.lt_succ_self _) hP hD hS (lv_sub hl [2, 3, 4, 5, 6, 1, 0] rfl)
    · skip
      exact absurd (show pp < 6 by omega) c8_2
abbrev rmX1_leastFrom_6 : Room := { frames := 7, cells := 0, slots := 0, locals := 192 }
set_option maxHeartbeats 4000000 in
set_option maxRecDepth 100000 in
theorem kX1_leastFrom_6 {D : va_G} {ct : Nat → ClassId} {l : Launch} (a : Nat → Nat) (y : YS) (b : Nat → Nat) (rs : RS) (d : Nat → Nat) (bz : BS) (R : va_W) (cnt : Nat) (pp : Nat) (x3 : Int32) (x4 : Int32) (hwm : cnt = pp + 6) (h6 : cnt ≤ 6) : MI D ct l yX1_leastFrom wsX1_leastFrom rmX1_leastFrom_6 (YW ct a y (KR a b rs (BW ct a d bz R))) [.ref (d 1), .int (nI (cnt)), .int (nI (pp)), .int (x3), .int (x4)] (fun r0 (_ : Unit) => r0 = lsC (b_w bz) 6 pp x3 x4) (fun _ : Unit => YW ct a y (KR a b rs (BW ct a d bz R))) := by
  refine MIof (cc := cX1_leastFrom) (maxL := 8) (ret := (some .int)) (by decide) rfl (Nat.le_of_ble_eq_true rfl) ?_
  intro p e s m args below meth c A H locs F hP hK hD hS hA ls hl
  obtain ⟨hx, hb, hr, hlocks, hml, hown, hts, hin⟩ := F
  have hl : lv_has ls 8 [(0, .ref (d 1)), (1, .int (nI (cnt))), (2, .int (nI (pp))), (3, .int (x3)), (4, .int (x4))] := hl
  refine lv_iload_n hx hb dX1_leastFrom_0 rfl (lv_at hl 2 rfl) ?_
  refine lv_iload_n hx hb dX1_leastFrom_1 rfl (lv_at hl 1 rfl) ?_
  refine zN_icmp_ge (tgt := 11) hx hb (by omega) (by omega) dX1_leastFrom_2 (by decide) (fun c2_1 => ?_) (fun c2_1 => ?_)
  · skip
    exact absurd c2_1 (by omega)
  · skip
    refine lv_iload_n hx hb dX1_leastFrom_5 rfl (lv_at hl 2 rfl) ?_
    refine lv_aload_n hx hb dX1_leastFrom_6 rfl (lv_at hl 0 rfl) ?_
    refine va_alen (x := (6, _)) (v := nI (6)) hx hb hK hP 17 0 rfl rfl rfl dX1_leastFrom_7 ?_
    refine zN_icmp_lt (tgt := 17) hx hb (by omega) (by omega) dX1_leastFrom_8 (by decide) (fun c8_2 => ?_) (fun c8_2 => ?_)
    · skip
      refine lv_ldc (v := nI (1000000)) hx hb hown (hts (.constant RX1 59 (1000000)) (by decide +kernel)) dX1_leastFrom_17 ?_
      refine lv_istore (lv' := [(5, .int (nI (1000000))), (0, .ref (d 1)), (1, .int (nI (cnt))), (2, .int (nI (pp))), (3, .int (x3)), (4, .int (x4))]) hx hb dX1_leastFrom_19 hl (by decide) rfl (fun ls hl => ?_)
      refine lv_iconst (v := nI (0)) hx hb dX1_leastFrom_21 (by decide) ?_
      refine lv_istore (lv' := [(6, .int (nI (0))), (5, .int (nI (1000000))), (0, .ref (d 1)), (1, .int (nI (cnt))), (2, .int (nI (pp))), (3, .int (x3)), (4, .int (x4))]) hx hb dX1_leastFrom_22 hl (by decide) rfl (fun ls hl => ?_)
      have lp24 : ∀ (fu : Nat) (j : Nat) (acc : Int32) (H : Heap) (locs : List Loc) (ls : Array Slot), (j ≤ 6) → (acc = lsLc (fun p => decide ((x3 >>> (nI p &&& 31)) &&& nI 1 = 0)) (fun q => lsC (b_w bz) 5 (pp + 1) (x3 ||| (nI 1 <<< (nI q &&& 31))) (x4 + (b_w bz pp * nI 2) * (nI 5 - nI (2 * q)))) j) → 6 - j < fu → va_P D vwCl (YW ct a y (KR a b rs (BW ct a d bz R))) H → va_D A (YW ct a y (KR a b rs (BW ct a d bz R))) → va_S A s.heap H locs → lv_has ls 8 [(0, .ref (d 1)), (1, .int (nI (cnt))), (2, .int (nI (pp))), (3, .int (x3)), (4, .int (x4)), (5, .int (acc)), (6, .int (nI (j)))] → W p l e rmX1_leastFrom_6 s m args below meth c H locs 0 0 (MQ below (va_Qi (fun r0 (_ : Unit) => r0 = lsC (b_w bz) 6 pp x3 x4) (zB D ct A (fun _ : Unit => YW ct a y (KR a b rs (BW ct a d bz R)))) A) args s rmX1_leastFrom_6.cells rmX1_leastFrom_6.slots A) (F0 m 24 ls []) := by
        intro fu
        induction fu with
        | zero => intro j acc H locs ls hj hacc hfu; exact absurd hfu (Nat.not_lt_zero _)
        | succ fu ih24 =>
          intro j acc H locs ls hj hacc hfu hP hD hS hl
          refine lv_iload hx hb dX1_leastFrom_24 (lv_at hl 6 rfl) ?_
          refine lv_bipush (v := nI (6)) hx hb dX1_leastFrom_26 (by decide) ?_
          refine zN_icmp_ge (tgt := 86) hx hb (by omega) (by omega) dX1_leastFrom_28 (by decide) (fun c28_3 => ?_) (fun c28_3 => ?_)
          · skip
            refine lv_iload hx hb dX1_leastFrom_86 (lv_at hl 5 rfl) ?_
            exact zIret () hx hb hr hlocks hK hP hD hS dX1_leastFrom_88 (show acc = lsC (b_w bz) 6 pp x3 x4 from (by obtain rfl : j = 6 := (by omega); exact hacc))
          · skip
            refine lv_iload_n hx hb dX1_leastFrom_31 rfl (lv_at hl 3 rfl) ?_
            refine lv_iload hx hb dX1_leastFrom_32 (lv_at hl 6 rfl) ?_
            refine lv_ishr hx hb dX1_leastFrom_34 ?_
            refine lv_iconst (v := nI (1)) hx hb dX1_leastFrom_35 (by decide) ?_
            refine lv_iand hx hb dX1_leastFrom_36 ?_
            refine lv_if_ne (tgt := 80) hx hb dX1_leastFrom_37 (by decide) (fun c37_4 => ?_) (fun c37_4 => ?_)
            · skip
              refine lv_iinc (v := nI ((j + 1))) (lv' := [(6, .int (nI ((j + 1)))), (0, .ref (d 1)), (1, .int (nI (cnt))), (2, .int (nI (pp))), (3, .int (x3)), (4, .int (x4)), (5, .int (acc))]) hx hb dX1_leastFrom_80 hl (k := 6) rfl (zInc _) (by decide) rfl (fun ls hl => ?_)
              refine lv_goto (tgt := 24) hx hb dX1_leastFrom_83 (by decide) ?_
              exact ih24 ((j + 1)) (acc) H locs ls (by omega) (by simp only [lsLc, ← hacc, nI_0, c2_1, c8_2, c28_3, c37_4, p_in, p_worn, p_wi, p_creak, p_le0, p_lt1, not_true_eq_false, not_false_eq_true, if_true, if_false, and_true, true_and, and_false, false_and, or_true, true_or, or_false, false_or, and_self, or_self, iff_true, true_iff, iff_false, false_iff, decide_eq_true_eq, decide_true, decide_false, Int32.add_zero, Nat.add_zero, ne_eq, Bool.false_eq_true, eq_self]) (by omega) hP hD hS (lv_sub hl [1, 2, 3, 4, 5, 6, 0] rfl)
            · skip
              refine lv_iload hx hb dX1_leastFrom_40 (lv_at hl 4 rfl) ?_
              refine lv_aload_n hx hb dX1_leastFrom_42 rfl (lv_at hl 0 rfl) ?_
              refine lv_iload_n hx hb dX1_leastFrom_43 rfl (lv_at hl 2 rfl) ?_
              refine zIald (n := 6) (f := b_w bz) (i := pp) hx hb hK hP 17 rfl (by omega) (by decide) dX1_leastFrom_44 ?_
              refine lv_iconst (v := nI (2)) hx hb dX1_leastFrom_45 (by decide) ?_
              refine lv_imul hx hb dX1_leastFrom_46 ?_
              refine lv_iconst (v := nI (5)) hx hb dX1_leastFrom_47 (by decide) ?_
              refine lv_iconst (v := nI (2)) hx hb dX1_leastFrom_48 (by decide) ?_
              refine lv_iload hx hb dX1_leastFrom_49 (lv_at hl 6 rfl) ?_
              refine zNmul hx hb dX1_leastFrom_51 ?_
              refine lv_isub hx hb dX1_leastFrom_52 ?_
              refine lv_imul hx hb dX1_leastFrom_53 ?_
              refine lv_iadd hx hb dX1_leastFrom_54 ?_
              refine lv_istore (lv' := [(7, .int ((x4 + (((b_w bz (pp)) * nI (2)) * (nI (5) - nI ((2 * j))))))), (0, .ref (d 1)), (1, .int (nI (cnt))), (2, .int (nI (pp))), (3, .int (x3)), (4, .int (x4)), (5, .int (acc)), (6, .int (nI (j)))]) hx hb dX1_leastFrom_55 hl (by decide) rfl (fun ls hl => ?_)
              refine lv_iload hx hb dX1_leastFrom_57 (lv_at hl 6 rfl) ?_
              refine lv_aload_n hx hb dX1_leastFrom_59 rfl (lv_at hl 1 rfl) ?_
              refine lv_iload_n hx hb dX1_leastFrom_60 rfl (lv_at hl 2 rfl) ?_
              refine lv_iload_n hx hb dX1_leastFrom_61 rfl (lv_at hl 3 rfl) ?_
              refine lv_iconst (v := nI (1)) hx hb dX1_leastFrom_62 (by decide) ?_
              refine zNadd hx hb dX1_leastFrom_63 ?_
              refine lv_iload_n hx hb dX1_leastFrom_64 rfl (lv_at hl 4 rfl) ?_
              refine lv_iconst (v := nI (1)) hx hb dX1_leastFrom_65 (by decide) ?_
              refine lv_iload hx hb dX1_leastFrom_66 (lv_at hl 7 rfl) ?_
              refine lv_ishl hx hb dX1_leastFrom_68 ?_
              refine lv_ior hx hb dX1_leastFrom_69 ?_
              refine lv_iload hx hb dX1_leastFrom_70 (lv_at hl 0 rfl) ?_
              refine zSI [.ref (d 1), .int (nI (cnt)), .int (nI ((pp + 1))), .int ((x3 ||| (nI (1) <<< (nI (j) &&& 31)))), .int ((x4 + (((b_w bz (pp)) * nI (2)) * (nI (5) - nI ((2 * j))))))] [.int (acc)] (kX1_leastFrom_5 (a) (y) (b) (rs) (d) (bz) (R) (cnt) ((pp + 1)) ((x3 ||| (nI (1) <<< (nI (j) &&& 31)))) ((x4 + (((b_w bz (pp)) * nI (2)) * (nI (5) - nI ((2 * j)))))) (show (cnt) = ((pp + 1)) + 5 from by omega) (show (cnt) ≤ 6 from by omega)) hx hb hml hown hts (va_cwS 5 hts gX1_leastFrom_X1_leastFrom rfl rfl rfl (by decide +kernel) ⟨(Nat.le_of_ble_eq_true rfl), (Nat.le_of_ble_eq_true rfl)⟩) hK hP hD hS hA rfl hl.1 rfl (Nat.le_of_ble_eq_true rfl) dX1_leastFrom_72 ⟨(Nat.le_of_ble_eq_true rfl), (Nat.le_of_ble_eq_true rfl)⟩ (fun r_72 _ H locs hr_72 hP hD hS => ?_)
              subst hr_72
              have hP : va_P D vwCl (YW ct a y (KR a b rs (BW ct a d bz R))) H := hP
              have hD : va_D A (YW ct a y (KR a b rs (BW ct a d bz R))) := hD
              refine va_mmin hx hb (hml.trans hl.1.symm) hown (hts (.methodLink RX1 60 Lib.Math.min.name) (by decide +kernel)) (hts (.static Lib.Math.min.name) (by decide +kernel)) (hts (.initialized "java/lang/Math") (by decide +kernel)) (hts (.code Lib.Math.min.name Lib.Math.min.code 2 (some .int)) (by decide +kernel)) (Nat.le_of_ble_eq_true rfl) (Nat.le_of_ble_eq_true rfl) (Nat.le_of_ble_eq_true rfl) (Nat.le_of_ble_eq_true rfl) dX1_leastFrom_75 ?_
              refine lv_istore (lv' := [(5, .int ((if (lsC (b_w bz) 5 ((pp + 1)) ((x3 ||| (nI (1) <<< (nI (j) &&& 31)))) ((x4 + (((b_w bz (pp)) * nI (2)) * (nI (5) - nI ((2 * j))))))) < acc then (lsC (b_w bz) 5 ((pp + 1)) ((x3 ||| (nI (1) <<< (nI (j) &&& 31)))) ((x4 + (((b_w bz (pp)) * nI (2)) * (nI (5) - nI ((2 * j))))))) else acc))), (7, .int ((x4 + (((b_w bz (pp)) * nI (2)) * (nI (5) - nI ((2 * j))))))), (0, .ref (d 1)), (1, .int (nI (cnt))), (2, .int (nI (pp))), (3, .int (x3)), (4, .int (x4)), (6, .int (nI (j)))]) hx hb dX1_leastFrom_78 hl (by decide) rfl (fun ls hl => ?_)
              refine lv_iinc (v := nI ((j + 1))) (lv' := [(6, .int (nI ((j + 1)))), (5, .int ((if (lsC (b_w bz) 5 ((pp + 1)) ((x3 ||| (nI (1) <<< (nI (j) &&& 31)))) ((x4 + (((b_w bz (pp)) * nI (2)) * (nI (5) - nI ((2 * j))))))) < acc then (lsC (b_w bz) 5 ((pp + 1)) ((x3 ||| (nI (1) <<< (nI (j) &&& 31)))) ((x4 + (((b_w bz (pp)) * nI (2)) * (nI (5) - nI ((2 * j))))))) else acc))), (7, .int ((x4 + (((b_w bz (pp)) * nI (2)) * (nI (5) - nI ((2 * j))))))), (0, .ref (d 1)), (1, .int (nI (cnt))), (2, .int (nI (pp))), (3, .int (x3)), (4, .int (x4))]) hx hb dX1_leastFrom_80 hl (k := 7) rfl (zInc _) (by decide) rfl (fun ls hl => ?_)
              refine lv_goto (tgt := 24) hx hb dX1_leastFrom_83 (by decide) ?_
              exact ih24 ((j + 1)) ((if (lsC (b_w bz) 5 ((pp + 1)) ((x3 ||| (nI (1) <<< (nI (j) &&& 31)))) ((x4 + (((b_w bz (pp)) * nI (2)) * (nI (5) - nI ((2 * j))))))) < acc then (lsC (b_w bz) 5 ((pp + 1)) ((x3 ||| (nI (1) <<< (nI (j) &&& 31)))) ((x4 + (((b_w bz (pp)) * nI (2)) * (nI (5) - nI ((2 * j))))))) else acc)) H locs ls (by omega) (by simp only [lsLc, ← hacc, nI_0, c2_1, c8_2, c28_3, eq_true c37_4, p_in, p_worn, p_wi, p_creak, p_le0, p_lt1, not_true_eq_false, not_false_eq_true, if_true, if_false, and_true, true_and, and_false, false_and, or_true, true_or, or_false, false_or, and_self, or_self, iff_true, true_iff, iff_false, false_iff, decide_eq_true_eq, decide_true, decide_false, Int32.add_zero, Nat.add_zero, ne_eq, Bool.false_eq_true, eq_self]) (by omega) hP hD hS (lv_sub hl [3, 4, 5, 6, 7, 1, 0] rfl)
      exact lp24 ((6 - (0)) + 1) (0) (nI 1000000) H locs ls (by omega) rfl (Nat.lt_succ_self _) hP hD hS (lv_sub hl [2, 3, 4, 5, 6, 1, 0] rfl)
    · skip
      exact absurd (show pp < 6 by omega) c8_2
abbrev rmX1_leastByWays : Room := { frames := 8, cells := 0, slots := 0, locals := 219 }
theorem in_X1_leastByWays_X1 : ∀ w ∈ u_ws RX1 TX1 6, w ∈ wsX1_leastByWays := by decide +kernel
set_option maxHeartbeats 4000000 in
set_option maxRecDepth 100000 in
theorem kX1_leastByWays {D : va_G} {ct : Nat → ClassId} {l : Launch} (a : Nat → Nat) (y : YS) (b : Nat → Nat) (rs : RS) (d : Nat → Nat) (bz : BS) (R : va_W) (x1 : Int32) (hn : y_n y ≤ 12) : MI D ct l yX1_leastByWays wsX1_leastByWays rmX1_leastByWays (YW ct a y (KR a b rs (BW ct a d bz R))) [.ref (d 0), .int (x1)] (fun r0 (_ : Unit) => r0 = lsC (b_w (gatB y x1 bz)) (b_n (gatB y x1 bz)) 0 (nI 0) (nI 0)) (fun _ : Unit => YW ct a y (KR a b rs (BW ct a d (gatB y x1 bz) R))) := by
  refine MIof (cc := cX1_leastByWays) (maxL := 2) (ret := (some .int)) (by decide) rfl (Nat.le_of_ble_eq_true rfl) ?_
  intro p e s m args below meth c A H locs F hP hK hD hS hA ls hl
  obtain ⟨hx, hb, hr, hlocks, hml, hown, hts, hin⟩ := F
  have hl : lv_has ls 2 [(0, .ref (d 0)), (1, .int (x1))] := hl
  have h_X1 := in_X1_leastByWays_X1
  have f15 := hts (.fieldLink RX1 15 "CartArguments$Balance" "weights" "[I") (by decide +kernel)
  have f29 := hts (.fieldLink RX1 29 "CartArguments$Balance" "count" "I") (by decide +kernel)
  refine lv_aload_n hx hb dX1_leastByWays_0 rfl (lv_at hl 0 rfl) ?_
  refine lv_iload_n hx hb dX1_leastByWays_1 rfl (lv_at hl 1 rfl) ?_
  refine zVV [.int (x1)] [] (kX1_gather (a) (y) (b) (rs) (d) (bz) (R) (x1) (show y_n y ≤ 12 from by omega)) hx hb hml hown hts (cwV 1 hts gX1_leastByWays_X1_gather rfl rfl rfl (by decide +kernel) ⟨(Nat.le_of_ble_eq_true rfl), (Nat.le_of_ble_eq_true rfl)⟩) hK hP hD hS hA (va_recv hK hP (ci := 1) (q0 := 16) rfl rfl) rfl hl.1 rfl (Nat.le_of_ble_eq_true rfl) dX1_leastByWays_2 ⟨(Nat.le_of_ble_eq_true rfl), (Nat.le_of_ble_eq_true rfl)⟩ (fun _ H locs hr_2 hP hD hS => ?_)
  have hP : va_P D vwCl (YW ct a y (KR a b rs (BW ct a d (gatB y (x1) bz) R))) H := hP
  have hD : va_D A (YW ct a y (KR a b rs (BW ct a d (gatB y (x1) bz) R))) := hD
  refine lv_aload_n hx hb dX1_leastByWays_5 rfl (lv_at hl 0 rfl) ?_
  refine va_get (ci := 1) (v := .ref (d 1)) hx hb hts h_X1 hown hK hP 16 rfl rfl 1 (by decide) f15 (fun _ h9 => h9) rfl dX1_leastByWays_6 ?_
  refine lv_aload_n hx hb dX1_leastByWays_9 rfl (lv_at hl 0 rfl) ?_
  refine va_get (ci := 1) (v := .int (nI (b_n (gatB y (x1) bz)))) hx hb hts h_X1 hown hK hP 16 rfl rfl 2 (by decide) f29 (fun _ h9 => h9) rfl dX1_leastByWays_10 ?_
  refine lv_iconst (v := nI (0)) hx hb dX1_leastByWays_13 (by decide) ?_
  refine lv_iconst (v := nI (0)) hx hb dX1_leastByWays_14 (by decide) ?_
  refine lv_iconst (v := nI (0)) hx hb dX1_leastByWays_15 (by decide) ?_
  have h66 := cGn_6 y x1 (y_n y)
  rcases (show cGn y x1 (y_n y) = 0 ∨ cGn y x1 (y_n y) = 1 ∨ cGn y x1 (y_n y) = 2 ∨ cGn y x1 (y_n y) = 3 ∨ cGn y x1 (y_n y) = 4 ∨ cGn y x1 (y_n y) = 5 ∨ cGn y x1 (y_n y) = 6 by omega) with e5 | e5 | e5 | e5 | e5 | e5 | e5
  · skip
    refine zSI [.ref (d 1), .int (nI (b_n (gatB y (x1) bz))), .int (nI (0)), .int (nI (0)), .int (nI (0))] [] (kX1_leastFrom_0 (a) (y) (b) (rs) (d) ((gatB y (x1) bz)) (R) (b_n (gatB y (x1) bz)) (0) (nI (0)) (nI (0)) (show (b_n (gatB y (x1) bz)) = (0) + 0 from (e5.trans (Nat.zero_add _).symm)) (show (b_n (gatB y (x1) bz)) ≤ 6 from h66)) hx hb hml hown hts (va_cwS 5 hts gX1_leastByWays_X1_leastFrom rfl rfl rfl (by decide +kernel) ⟨(Nat.le_of_ble_eq_true rfl), (Nat.le_of_ble_eq_true rfl)⟩) hK hP hD hS hA rfl hl.1 rfl (Nat.le_of_ble_eq_true rfl) dX1_leastByWays_16 ⟨(Nat.le_of_ble_eq_true rfl), (Nat.le_of_ble_eq_true rfl)⟩ (fun r_16 _ H locs hr_16 hP hD hS => ?_)
    refine zTop (y := (lsC ((b_w (gatB y (x1) bz))) 0 (0) (nI (0)) (nI (0)))) hr_16 ?_
    have hP : va_P D vwCl (YW ct a y (KR a b rs (BW ct a d (gatB y (x1) bz) R))) H := hP
    have hD : va_D A (YW ct a y (KR a b rs (BW ct a d (gatB y (x1) bz) R))) := hD
    exact zIret () hx hb hr hlocks hK hP hD hS dX1_leastByWays_19 (show (lsC ((b_w (gatB y (x1) bz))) 0 (0) (nI (0)) (nI (0))) = lsC (b_w (gatB y x1 bz)) (b_n (gatB y x1 bz)) 0 (nI 0) (nI 0) from (by rw [show b_n (gatB y x1 bz) = 0 from e5]))
  · skip
    refine zSI [.ref (d 1), .int (nI (b_n (gatB y (x1) bz))), .int (nI (0)), .int (nI (0)), .int (nI (0))] [] (kX1_leastFrom_1 (a) (y) (b) (rs) (d) ((gatB y (x1) bz)) (R) (b_n (gatB y (x1) bz)) (0) (nI (0)) (nI (0)) (show (b_n (gatB y (x1) bz)) = (0) + 1 from (e5.trans (Nat.zero_add _).symm)) (show (b_n (gatB y (x1) bz)) ≤ 6 from h66)) hx hb hml hown hts (va_cwS 5 hts gX1_leastByWays_X1_leastFrom rfl rfl rfl (by decide +kernel) ⟨(Nat.le_of_ble_eq_true rfl), (Nat.le_of_ble_eq_true rfl)⟩) hK hP hD hS hA rfl hl.1 rfl (Nat.le_of_ble_eq_true rfl) dX1_leastByWays_16 ⟨(Nat.le_of_ble_eq_true rfl), (Nat.le_of_ble_eq_true rfl)⟩ (fun r_16 _ H locs hr_16 hP hD hS => ?_)
    refine zTop (y := (lsC ((b_w (gatB y (x1) bz))) 1 (0) (nI (0)) (nI (0)))) hr_16 ?_
    have hP : va_P D vwCl (YW ct a y (KR a b rs (BW ct a d (gatB y (x1) bz) R))) H := hP
    have hD : va_D A (YW ct a y (KR a b rs (BW ct a d (gatB y (x1) bz) R))) := hD
    exact zIret () hx hb hr hlocks hK hP hD hS dX1_leastByWays_19 (show (lsC ((b_w (gatB y (x1) bz))) 1 (0) (nI (0)) (nI (0))) = lsC (b_w (gatB y x1 bz)) (b_n (gatB y x1 bz)) 0 (nI 0) (nI 0) from (by rw [show b_n (gatB y x1 bz) = 1 from e5]))
  · skip
    refine zSI [.ref (d 1), .int (nI (b_n (gatB y (x1) bz))), .int (nI (0)), .int (nI (0)), .int (nI (0))] [] (kX1_leastFrom_2 (a) (y) (b) (rs) (d) ((gatB y (x1) bz)) (R) (b_n (gatB y (x1) bz)) (0) (nI (0)) (nI (0)) (show (b_n (gatB y (x1) bz)) = (0) + 2 from (e5.trans (Nat.zero_add _).symm)) (show (b_n (gatB y (x1) bz)) ≤ 6 from h66)) hx hb hml hown hts (va_cwS 5 hts gX1_leastByWays_X1_leastFrom rfl rfl rfl (by decide +kernel) ⟨(Nat.le_of_ble_eq_true rfl), (Nat.le_of_ble_eq_true rfl)⟩) hK hP hD hS hA rfl hl.1 rfl (Nat.le_of_ble_eq_true rfl) dX1_leastByWays_16 ⟨(Nat.le_of_ble_eq_true rfl), (Nat.le_of_ble_eq_true rfl)⟩ (fun r_16 _ H locs hr_16 hP hD hS => ?_)
    refine zTop (y := (lsC ((b_w (gatB y (x1) bz))) 2 (0) (nI (0)) (nI (0)))) hr_16 ?_
    have hP : va_P D vwCl (YW ct a y (KR a b rs (BW ct a d (gatB y (x1) bz) R))) H := hP
    have hD : va_D A (YW ct a y (KR a b rs (BW ct a d (gatB y (x1) bz) R))) := hD
    exact zIret () hx hb hr hlocks hK hP hD hS dX1_leastByWays_19 (show (lsC ((b_w (gatB y (x1) bz))) 2 (0) (nI (0)) (nI (0))) = lsC (b_w (gatB y x1 bz)) (b_n (gatB y x1 bz)) 0 (nI 0) (nI 0) from (by rw [show b_n (gatB y x1 bz) = 2 from e5]))
  · skip
    refine zSI [.ref (d 1), .int (nI (b_n (gatB y (x1) bz))), .int (nI (0)), .int (nI (0)), .int (nI (0))] [] (kX1_leastFrom_3 (a) (y) (b) (rs) (d) ((gatB y (x1) bz)) (R) (b_n (gatB y (x1) bz)) (0) (nI (0)) (nI (0)) (show (b_n (gatB y (x1) bz)) = (0) + 3 from (e5.trans (Nat.zero_add _).symm)) (show (b_n (gatB y (x1) bz)) ≤ 6 from h66)) hx hb hml hown hts (va_cwS 5 hts gX1_leastByWays_X1_leastFrom rfl rfl rfl (by decide +kernel) ⟨(Nat.le_of_ble_eq_true rfl), (Nat.le_of_ble_eq_true rfl)⟩) hK hP hD hS hA rfl hl.1 rfl (Nat.le_of_ble_eq_true rfl) dX1_leastByWays_16 ⟨(Nat.le_of_ble_eq_true rfl), (Nat.le_of_ble_eq_true rfl)⟩ (fun r_16 _ H locs hr_16 hP hD hS => ?_)
    refine zTop (y := (lsC ((b_w (gatB y (x1) bz))) 3 (0) (nI (0)) (nI (0)))) hr_16 ?_
    have hP : va_P D vwCl (YW ct a y (KR a b rs (BW ct a d (gatB y (x1) bz) R))) H := hP
    have hD : va_D A (YW ct a y (KR a b rs (BW ct a d (gatB y (x1) bz) R))) := hD
    exact zIret () hx hb hr hlocks hK hP hD hS dX1_leastByWays_19 (show (lsC ((b_w (gatB y (x1) bz))) 3 (0) (nI (0)) (nI (0))) = lsC (b_w (gatB y x1 bz)) (b_n (gatB y x1 bz)) 0 (nI 0) (nI 0) from (by rw [show b_n (gatB y x1 bz) = 3 from e5]))
  · skip
    refine zSI [.ref (d 1), .int (nI (b_n (gatB y (x1) bz))), .int (nI (0)), .int (nI (0)), .int (nI (0))] [] (kX1_leastFrom_4 (a) (y) (b) (rs) (d) ((gatB y (x1) bz)) (R) (b_n (gatB y (x1) bz)) (0) (nI (0)) (nI (0)) (show (b_n (gatB y (x1) bz)) = (0) + 4 from (e5.trans (Nat.zero_add _).symm)) (show (b_n (gatB y (x1) bz)) ≤ 6 from h66)) hx hb hml hown hts (va_cwS 5 hts gX1_leastByWays_X1_leastFrom rfl rfl rfl (by decide +kernel) ⟨(Nat.le_of_ble_eq_true rfl), (Nat.le_of_ble_eq_true rfl)⟩) hK hP hD hS hA rfl hl.1 rfl (Nat.le_of_ble_eq_true rfl) dX1_leastByWays_16 ⟨(Nat.le_of_ble_eq_true rfl), (Nat.le_of_ble_eq_true rfl)⟩ (fun r_16 _ H locs hr_16 hP hD hS => ?_)
    refine zTop (y := (lsC ((b_w (gatB y (x1) bz))) 4 (0) (nI (0)) (nI (0)))) hr_16 ?_
    have hP : va_P D vwCl (YW ct a y (KR a b rs (BW ct a d (gatB y (x1) bz) R))) H := hP
    have hD : va_D A (YW ct a y (KR a b rs (BW ct a d (gatB y (x1) bz) R))) := hD
    exact zIret () hx hb hr hlocks hK hP hD hS dX1_leastByWays_19 (show (lsC ((b_w (gatB y (x1) bz))) 4 (0) (nI (0)) (nI (0))) = lsC (b_w (gatB y x1 bz)) (b_n (gatB y x1 bz)) 0 (nI 0) (nI 0) from (by rw [show b_n (gatB y x1 bz) = 4 from e5]))
  · skip
    refine zSI [.ref (d 1), .int (nI (b_n (gatB y (x1) bz))), .int (nI (0)), .int (nI (0)), .int (nI (0))] [] (kX1_leastFrom_5 (a) (y) (b) (rs) (d) ((gatB y (x1) bz)) (R) (b_n (gatB y (x1) bz)) (0) (nI (0)) (nI (0)) (show (b_n (gatB y (x1) bz)) = (0) + 5 from (e5.trans (Nat.zero_add _).symm)) (show (b_n (gatB y (x1) bz)) ≤ 6 from h66)) hx hb hml hown hts (va_cwS 5 hts gX1_leastByWays_X1_leastFrom rfl rfl rfl (by decide +kernel) ⟨(Nat.le_of_ble_eq_true rfl), (Nat.le_of_ble_eq_true rfl)⟩) hK hP hD hS hA rfl hl.1 rfl (Nat.le_of_ble_eq_true rfl) dX1_leastByWays_16 ⟨(Nat.le_of_ble_eq_true rfl), (Nat.le_of_ble_eq_true rfl)⟩ (fun r_16 _ H locs hr_16 hP hD hS => ?_)
    refine zTop (y := (lsC ((b_w (gatB y (x1) bz))) 5 (0) (nI (0)) (nI (0)))) hr_16 ?_
    have hP : va_P D vwCl (YW ct a y (KR a b rs (BW ct a d (gatB y (x1) bz) R))) H := hP
    have hD : va_D A (YW ct a y (KR a b rs (BW ct a d (gatB y (x1) bz) R))) := hD
    exact zIret () hx hb hr hlocks hK hP hD hS dX1_leastByWays_19 (show (lsC ((b_w (gatB y (x1) bz))) 5 (0) (nI (0)) (nI (0))) = lsC (b_w (gatB y x1 bz)) (b_n (gatB y x1 bz)) 0 (nI 0) (nI 0) from (by rw [show b_n (gatB y x1 bz) = 5 from e5]))
  · skip
    refine zSI [.ref (d 1), .int (nI (b_n (gatB y (x1) bz))), .int (nI (0)), .int (nI (0)), .int (nI (0))] [] (kX1_leastFrom_6 (a) (y) (b) (rs) (d) ((gatB y (x1) bz)) (R) (b_n (gatB y (x1) bz)) (0) (nI (0)) (nI (0)) (show (b_n (gatB y (x1) bz)) = (0) + 6 from (e5.trans (Nat.zero_add _).symm)) (show (b_n (gatB y (x1) bz)) ≤ 6 from h66)) hx hb hml hown hts (va_cwS 5 hts gX1_leastByWays_X1_leastFrom rfl rfl rfl (by decide +kernel) ⟨(Nat.le_of_ble_eq_true rfl), (Nat.le_of_ble_eq_true rfl)⟩) hK hP hD hS hA rfl hl.1 rfl (Nat.le_of_ble_eq_true rfl) dX1_leastByWays_16 ⟨(Nat.le_of_ble_eq_true rfl), (Nat.le_of_ble_eq_true rfl)⟩ (fun r_16 _ H locs hr_16 hP hD hS => ?_)
    refine zTop (y := (lsC ((b_w (gatB y (x1) bz))) 6 (0) (nI (0)) (nI (0)))) hr_16 ?_
    have hP : va_P D vwCl (YW ct a y (KR a b rs (BW ct a d (gatB y (x1) bz) R))) H := hP
    have hD : va_D A (YW ct a y (KR a b rs (BW ct a d (gatB y (x1) bz) R))) := hD
    exact zIret () hx hb hr hlocks hK hP hD hS dX1_leastByWays_19 (show (lsC ((b_w (gatB y (x1) bz))) 6 (0) (nI (0)) (nI (0))) = lsC (b_w (gatB y x1 bz)) (b_n (gatB y x1 bz)) 0 (nI 0) (nI 0) from (by rw [show b_n (gatB y x1 bz) = 6 from e5]))
abbrev rmX1_addShifted : Room := { frames := 0, cells := 0, slots := 0, locals := 0 }
theorem in_X1_addShifted_X1 : ∀ w ∈ u_ws RX1 TX1 6, w ∈ wsX1_addShifted := by decide +kernel
set_option maxHeartbeats 4000000 in
set_option maxRecDepth 100000 in
theorem kX1_addShifted {D : va_G} {ct : Nat → ClassId} {l : Launch} (a : Nat → Nat) (y : YS) (b : Nat → Nat) (rs : RS) (d : Nat → Nat) (bz : BS) (R : va_W) (zs : Nat) (zf : Nat) (zn : Nat) (hs6 : zs < 64) (hf6 : zf < 64) (hn63 : zn ≤ 63) : MV D ct l yX1_addShifted wsX1_addShifted rmX1_addShifted (YW ct a y (KR a b rs (BW ct a d bz R))) [.ref (d 0), .int (nI (zs)), .int (nI (zf)), .int (nI (zn))] (fun _ : Unit => True) (fun _ : Unit => YW ct a y (KR a b rs (BW ct a d (shS bz zs zf zn) R))) := by
  refine MVof (cc := cX1_addShifted) (maxL := 5) (ret := none) (by decide) rfl (Nat.le_of_ble_eq_true rfl) ?_
  intro p e s m args below meth c A H locs F hP hK hD hS hA ls hl
  obtain ⟨hx, hb, hr, hlocks, hml, hown, hts, hin⟩ := F
  have hl : lv_has ls 5 [(0, .ref (d 0)), (1, .int (nI (zs))), (2, .int (nI (zf))), (3, .int (nI (zn)))] := hl
  have h_X1 := in_X1_addShifted_X1
  have f19 := hts (.fieldLink RX1 19 "CartArguments$Balance" "low" "[J") (by decide +kernel)
  have f23 := hts (.fieldLink RX1 23 "CartArguments$Balance" "middle" "[J") (by decide +kernel)
  have f26 := hts (.fieldLink RX1 26 "CartArguments$Balance" "high" "[J") (by decide +kernel)
  refine lv_bipush (v := nI (63)) hx hb dX1_addShifted_0 (by decide) ?_
  refine lv_iload_n hx hb dX1_addShifted_2 rfl (lv_at hl 3 rfl) ?_
  refine zNsub hx hb (by omega) dX1_addShifted_3 ?_
  refine lv_istore (lv' := [(4, .int (nI ((63 - zn)))), (0, .ref (d 0)), (1, .int (nI (zs))), (2, .int (nI (zf))), (3, .int (nI (zn)))]) hx hb dX1_addShifted_4 hl (by decide) rfl (fun ls hl => ?_)
  refine lv_aload_n hx hb dX1_addShifted_6 rfl (lv_at hl 1 rfl) ?_
  refine va_get (ci := 1) (v := .ref (d 4)) hx hb hts h_X1 hown hK hP 16 rfl rfl 5 (by decide) f26 (fun _ h9 => h9) rfl dX1_addShifted_7 ?_
  refine lv_iload_n hx hb dX1_addShifted_10 rfl (lv_at hl 2 rfl) ?_
  refine lv_dup2_11 hx hb dX1_addShifted_11 rfl rfl ?_
  refine zLald (n := 64) (f := b_hi bz) (i := zs) hx hb hK hP 20 rfl (by omega) (by decide) dX1_addShifted_12 ?_
  refine lv_aload_n hx hb dX1_addShifted_13 rfl (lv_at hl 1 rfl) ?_
  refine va_get (ci := 1) (v := .ref (d 4)) hx hb hts h_X1 hown hK hP 16 rfl rfl 5 (by decide) f26 (fun _ h9 => h9) rfl dX1_addShifted_14 ?_
  refine lv_iload_n hx hb dX1_addShifted_17 rfl (lv_at hl 3 rfl) ?_
  refine zLald (n := 64) (f := b_hi bz) (i := zf) hx hb hK hP 20 rfl (by omega) (by decide) dX1_addShifted_18 ?_
  refine lv_iload_n hx hb dX1_addShifted_19 rfl (lv_at hl 4 rfl) ?_
  refine lv_lshl (v := (((b_hi bz (zf))) <<< ((nI (zn)).toInt64 &&& 63))) hx hb dX1_addShifted_20 rfl ?_
  refine lv_aload_n hx hb dX1_addShifted_21 rfl (lv_at hl 1 rfl) ?_
  refine va_get (ci := 1) (v := .ref (d 3)) hx hb hts h_X1 hown hK hP 16 rfl rfl 4 (by decide) f23 (fun _ h9 => h9) rfl dX1_addShifted_22 ?_
  refine lv_iload_n hx hb dX1_addShifted_25 rfl (lv_at hl 3 rfl) ?_
  refine zLald (n := 64) (f := b_mi bz) (i := zf) hx hb hK hP 19 rfl (by omega) (by decide) dX1_addShifted_26 ?_
  refine lv_iconst (v := nI (1)) hx hb dX1_addShifted_27 (by decide) ?_
  refine lv_lushr (v := (((b_mi bz (zf))).toUInt64 >>> ((nI (1)).toInt64.toUInt64 &&& Int64.toUInt64 63)).toInt64) hx hb dX1_addShifted_28 rfl ?_
  refine lv_iload hx hb dX1_addShifted_29 (lv_at hl 0 rfl) ?_
  refine lv_lushr (v := (((((b_mi bz (zf))).toUInt64 >>> ((nI (1)).toInt64.toUInt64 &&& Int64.toUInt64 63)).toInt64).toUInt64 >>> ((nI ((63 - zn))).toInt64.toUInt64 &&& Int64.toUInt64 63)).toInt64) hx hb dX1_addShifted_31 rfl ?_
  refine lv_lor hx hb dX1_addShifted_32 ?_
  refine lv_lor hx hb dX1_addShifted_33 ?_
  refine zLast (n := 64) (f := b_hi bz) (i := zs) hx hb hK hP hD hS 20 rfl (by omega) (by decide) dX1_addShifted_34 (fun H locs hP hD hS => ?_)
  have hP : va_P D vwCl (YW ct a y (KR a b rs (BW ct a d (b_w bz, b_n bz, b_lo bz, b_mi bz, (vp_updL (b_hi bz) (zs) (((b_hi bz (zs)) ||| ((((b_hi bz (zf))) <<< ((nI (zn)).toInt64 &&& 63)) ||| (((((b_mi bz (zf))).toUInt64 >>> ((nI (1)).toInt64.toUInt64 &&& Int64.toUInt64 63)).toInt64).toUInt64 >>> ((nI ((63 - zn))).toInt64.toUInt64 &&& Int64.toUInt64 63)).toInt64))))) R))) H := hP
  have hD : va_D A (YW ct a y (KR a b rs (BW ct a d (b_w bz, b_n bz, b_lo bz, b_mi bz, (vp_updL (b_hi bz) (zs) (((b_hi bz (zs)) ||| ((((b_hi bz (zf))) <<< ((nI (zn)).toInt64 &&& 63)) ||| (((((b_mi bz (zf))).toUInt64 >>> ((nI (1)).toInt64.toUInt64 &&& Int64.toUInt64 63)).toInt64).toUInt64 >>> ((nI ((63 - zn))).toInt64.toUInt64 &&& Int64.toUInt64 63)).toInt64))))) R))) := hD
  refine lv_aload_n hx hb dX1_addShifted_35 rfl (lv_at hl 1 rfl) ?_
  refine va_get (ci := 1) (v := .ref (d 3)) hx hb hts h_X1 hown hK hP 16 rfl rfl 4 (by decide) f23 (fun _ h9 => h9) rfl dX1_addShifted_36 ?_
  refine lv_iload_n hx hb dX1_addShifted_39 rfl (lv_at hl 2 rfl) ?_
  refine lv_dup2_11 hx hb dX1_addShifted_40 rfl rfl ?_
  refine zLald (n := 64) (f := b_mi bz) (i := zs) hx hb hK hP 19 rfl (by omega) (by decide) dX1_addShifted_41 ?_
  refine lv_aload_n hx hb dX1_addShifted_42 rfl (lv_at hl 1 rfl) ?_
  refine va_get (ci := 1) (v := .ref (d 3)) hx hb hts h_X1 hown hK hP 16 rfl rfl 4 (by decide) f23 (fun _ h9 => h9) rfl dX1_addShifted_43 ?_
  refine lv_iload_n hx hb dX1_addShifted_46 rfl (lv_at hl 3 rfl) ?_
  refine zLald (n := 64) (f := b_mi bz) (i := zf) hx hb hK hP 19 rfl (by omega) (by decide) dX1_addShifted_47 ?_
  refine lv_iload_n hx hb dX1_addShifted_48 rfl (lv_at hl 4 rfl) ?_
  refine lv_lshl (v := (((b_mi bz (zf))) <<< ((nI (zn)).toInt64 &&& 63))) hx hb dX1_addShifted_49 rfl ?_
  refine lv_aload_n hx hb dX1_addShifted_50 rfl (lv_at hl 1 rfl) ?_
  refine va_get (ci := 1) (v := .ref (d 2)) hx hb hts h_X1 hown hK hP 16 rfl rfl 3 (by decide) f19 (fun _ h9 => h9) rfl dX1_addShifted_51 ?_
  refine lv_iload_n hx hb dX1_addShifted_54 rfl (lv_at hl 3 rfl) ?_
  refine zLald (n := 64) (f := b_lo bz) (i := zf) hx hb hK hP 18 rfl (by omega) (by decide) dX1_addShifted_55 ?_
  refine lv_iconst (v := nI (1)) hx hb dX1_addShifted_56 (by decide) ?_
  refine lv_lushr (v := (((b_lo bz (zf))).toUInt64 >>> ((nI (1)).toInt64.toUInt64 &&& Int64.toUInt64 63)).toInt64) hx hb dX1_addShifted_57 rfl ?_
  refine lv_iload hx hb dX1_addShifted_58 (lv_at hl 0 rfl) ?_
  refine lv_lushr (v := (((((b_lo bz (zf))).toUInt64 >>> ((nI (1)).toInt64.toUInt64 &&& Int64.toUInt64 63)).toInt64).toUInt64 >>> ((nI ((63 - zn))).toInt64.toUInt64 &&& Int64.toUInt64 63)).toInt64) hx hb dX1_addShifted_60 rfl ?_
  refine lv_lor hx hb dX1_addShifted_61 ?_
  refine lv_lor hx hb dX1_addShifted_62 ?_
  refine zLast (n := 64) (f := b_mi bz) (i := zs) hx hb hK hP hD hS 19 rfl (by omega) (by decide) dX1_addShifted_63 (fun H locs hP hD hS => ?_)
  have hP : va_P D vwCl (YW ct a y (KR a b rs (BW ct a d (b_w bz, b_n bz, b_lo bz, (vp_updL (b_mi bz) (zs) (((b_mi bz (zs)) ||| ((((b_mi bz (zf))) <<< ((nI (zn)).toInt64 &&& 63)) ||| (((((b_lo bz (zf))).toUInt64 >>> ((nI (1)).toInt64.toUInt64 &&& Int64.toUInt64 63)).toInt64).toUInt64 >>> ((nI ((63 - zn))).toInt64.toUInt64 &&& Int64.toUInt64 63)).toInt64)))), (vp_updL (b_hi bz) (zs) (((b_hi bz (zs)) ||| ((((b_hi bz (zf))) <<< ((nI (zn)).toInt64 &&& 63)) ||| (((((b_mi bz (zf))).toUInt64 >>> ((nI (1)).toInt64.toUInt64 &&& Int64.toUInt64 63)).toInt64).toUInt64 >>> ((nI ((63 - zn))).toInt64.toUInt64 &&& Int64.toUInt64 63)).toInt64))))) R))) H := hP
  have hD : va_D A (YW ct a y (KR a b rs (BW ct a d (b_w bz, b_n bz, b_lo bz, (vp_updL (b_mi bz) (zs) (((b_mi bz (zs)) ||| ((((b_mi bz (zf))) <<< ((nI (zn)).toInt64 &&& 63)) ||| (((((b_lo bz (zf))).toUInt64 >>> ((nI (1)).toInt64.toUInt64 &&& Int64.toUInt64 63)).toInt64).toUInt64 >>> ((nI ((63 - zn))).toInt64.toUInt64 &&& Int64.toUInt64 63)).toInt64)))), (vp_updL (b_hi bz) (zs) (((b_hi bz (zs)) ||| ((((b_hi bz (zf))) <<< ((nI (zn)).toInt64 &&& 63)) ||| (((((b_mi bz (zf))).toUInt64 >>> ((nI (1)).toInt64.toUInt64 &&& Int64.toUInt64 63)).toInt64).toUInt64 >>> ((nI ((63 - zn))).toInt64.toUInt64 &&& Int64.toUInt64 63)).toInt64))))) R))) := hD
  refine lv_aload_n hx hb dX1_addShifted_64 rfl (lv_at hl 1 rfl) ?_
  refine va_get (ci := 1) (v := .ref (d 2)) hx hb hts h_X1 hown hK hP 16 rfl rfl 3 (by decide) f19 (fun _ h9 => h9) rfl dX1_addShifted_65 ?_
  refine lv_iload_n hx hb dX1_addShifted_68 rfl (lv_at hl 2 rfl) ?_
  refine lv_dup2_11 hx hb dX1_addShifted_69 rfl rfl ?_
  refine zLald (n := 64) (f := b_lo bz) (i := zs) hx hb hK hP 18 rfl (by omega) (by decide) dX1_addShifted_70 ?_
  refine lv_aload_n hx hb dX1_addShifted_71 rfl (lv_at hl 1 rfl) ?_
  refine va_get (ci := 1) (v := .ref (d 2)) hx hb hts h_X1 hown hK hP 16 rfl rfl 3 (by decide) f19 (fun _ h9 => h9) rfl dX1_addShifted_72 ?_
  refine lv_iload_n hx hb dX1_addShifted_75 rfl (lv_at hl 3 rfl) ?_
  refine zLald (n := 64) (f := b_lo bz) (i := zf) hx hb hK hP 18 rfl (by omega) (by decide) dX1_addShifted_76 ?_
  refine lv_iload_n hx hb dX1_addShifted_77 rfl (lv_at hl 4 rfl) ?_
  refine lv_lshl (v := (((b_lo bz (zf))) <<< ((nI (zn)).toInt64 &&& 63))) hx hb dX1_addShifted_78 rfl ?_
  refine lv_lor hx hb dX1_addShifted_79 ?_
  refine zLast (n := 64) (f := b_lo bz) (i := zs) hx hb hK hP hD hS 18 rfl (by omega) (by decide) dX1_addShifted_80 (fun H locs hP hD hS => ?_)
  have hP : va_P D vwCl (YW ct a y (KR a b rs (BW ct a d (b_w bz, b_n bz, (vp_updL (b_lo bz) (zs) (((b_lo bz (zs)) ||| (((b_lo bz (zf))) <<< ((nI (zn)).toInt64 &&& 63))))), (vp_updL (b_mi bz) (zs) (((b_mi bz (zs)) ||| ((((b_mi bz (zf))) <<< ((nI (zn)).toInt64 &&& 63)) ||| (((((b_lo bz (zf))).toUInt64 >>> ((nI (1)).toInt64.toUInt64 &&& Int64.toUInt64 63)).toInt64).toUInt64 >>> ((nI ((63 - zn))).toInt64.toUInt64 &&& Int64.toUInt64 63)).toInt64)))), (vp_updL (b_hi bz) (zs) (((b_hi bz (zs)) ||| ((((b_hi bz (zf))) <<< ((nI (zn)).toInt64 &&& 63)) ||| (((((b_mi bz (zf))).toUInt64 >>> ((nI (1)).toInt64.toUInt64 &&& Int64.toUInt64 63)).toInt64).toUInt64 >>> ((nI ((63 - zn))).toInt64.toUInt64 &&& Int64.toUInt64 63)).toInt64))))) R))) H := hP
  have hD : va_D A (YW ct a y (KR a b rs (BW ct a d (b_w bz, b_n bz, (vp_updL (b_lo bz) (zs) (((b_lo bz (zs)) ||| (((b_lo bz (zf))) <<< ((nI (zn)).toInt64 &&& 63))))), (vp_updL (b_mi bz) (zs) (((b_mi bz (zs)) ||| ((((b_mi bz (zf))) <<< ((nI (zn)).toInt64 &&& 63)) ||| (((((b_lo bz (zf))).toUInt64 >>> ((nI (1)).toInt64.toUInt64 &&& Int64.toUInt64 63)).toInt64).toUInt64 >>> ((nI ((63 - zn))).toInt64.toUInt64 &&& Int64.toUInt64 63)).toInt64)))), (vp_updL (b_hi bz) (zs) (((b_hi bz (zs)) ||| ((((b_hi bz (zf))) <<< ((nI (zn)).toInt64 &&& 63)) ||| (((((b_mi bz (zf))).toUInt64 >>> ((nI (1)).toInt64.toUInt64 &&& Int64.toUInt64 63)).toInt64).toUInt64 >>> ((nI ((63 - zn))).toInt64.toUInt64 &&& Int64.toUInt64 63)).toInt64))))) R))) := hD
  have hP : va_P D vwCl (YW ct a y (KR a b rs (BW ct a d (shS bz zs zf zn) R))) H := hP
  have hD : va_D A (YW ct a y (KR a b rs (BW ct a d (shS bz zs zf zn) R))) := hD
  exact zVret () hx hb hr hlocks hK hP hD hS dX1_addShifted_81 trivial
abbrev rmX1_addPlace : Room := { frames := 1, cells := 0, slots := 0, locals := 24 }
theorem in_X1_addPlace_X1 : ∀ w ∈ u_ws RX1 TX1 6, w ∈ wsX1_addPlace := by decide +kernel
set_option maxHeartbeats 4000000 in
set_option maxRecDepth 100000 in
theorem kX1_addPlace {D : va_G} {ct : Nat → ClassId} {l : Launch} (a : Nat → Nat) (y : YS) (b : Nat → Nat) (rs : RS) (d : Nat → Nat) (bz : BS) (R : va_W) (pl : Nat) (st9 : Nat) (hwB : wB bz) (hpl : pl < 6) (hst1 : 1 ≤ st9) (hst : st9 ≤ 64) : MV D ct l yX1_addPlace wsX1_addPlace rmX1_addPlace (YW ct a y (KR a b rs (BW ct a d bz R))) [.ref (d 0), .int (nI (pl)), .int (nI (st9))] (fun _ : Unit => True) (fun _ : Unit => YW ct a y (KR a b rs (BW ct a d (apO pl (st9 - 1) bz) R))) := by
  refine MVof (cc := cX1_addPlace) (maxL := 5) (ret := none) (by decide) rfl (Nat.le_of_ble_eq_true rfl) ?_
  intro p e s m args below meth c A H locs F hP hK hD hS hA ls hl
  obtain ⟨hx, hb, hr, hlocks, hml, hown, hts, hin⟩ := F
  have hl : lv_has ls 5 [(0, .ref (d 0)), (1, .int (nI (pl))), (2, .int (nI (st9)))] := hl
  have h_X1 := in_X1_addPlace_X1
  have f15 := hts (.fieldLink RX1 15 "CartArguments$Balance" "weights" "[I") (by decide +kernel)
  have f29 := hts (.fieldLink RX1 29 "CartArguments$Balance" "count" "I") (by decide +kernel)
  refine lv_iload_n hx hb dX1_addPlace_0 rfl (lv_at hl 2 rfl) ?_
  refine lv_iconst (v := nI (1)) hx hb dX1_addPlace_1 (by decide) ?_
  refine zNsub hx hb (by omega) dX1_addPlace_2 ?_
  refine lv_istore_n (lv' := [(3, .int (nI ((st9 - 1)))), (0, .ref (d 0)), (1, .int (nI (pl))), (2, .int (nI (st9)))]) hx hb dX1_addPlace_3 rfl hl (by decide) rfl (fun ls hl => ?_)
  have lp4 : ∀ (fu : Nat) (zs : Nat) (b1 : BS) (H : Heap) (locs : List Loc) (ls : Array Slot), (zs < 64) → (wB b1) → (apO pl zs b1 = apO pl (st9 - 1) bz) → zs < fu → va_P D vwCl (YW ct a y (KR a b rs (BW ct a d b1 R))) H → va_D A (YW ct a y (KR a b rs (BW ct a d b1 R))) → va_S A s.heap H locs → lv_has ls 5 [(0, .ref (d 0)), (1, .int (nI (pl))), (2, .int (nI (st9))), (3, .int (nI (zs)))] → W p l e rmX1_addPlace s m args below meth c H locs 0 0 (MQ below (va_Qv (fun _ : Unit => True) (zB D ct A (fun _ : Unit => YW ct a y (KR a b rs (BW ct a d (apO pl (st9 - 1) bz) R)))) A) args s rmX1_addPlace.cells rmX1_addPlace.slots A) (F0 m 4 ls []) := by
    intro fu
    induction fu with
    | zero => intro zs b1 H locs ls hs6 hw1 htot hfu; exact absurd hfu (Nat.not_lt_zero _)
    | succ fu ih4 =>
      intro zs b1 H locs ls hs6 hw1 htot hfu hP hD hS hl
      have hn61 : b_n b1 ≤ 6 := hw1.1
      refine lv_iload_n hx hb dX1_addPlace_4 rfl (lv_at hl 3 rfl) ?_
      refine zN_if_le (tgt := 63) hx hb (by omega) dX1_addPlace_5 (by decide) (fun c5_1 => ?_) (fun c5_1 => ?_)
      · skip
        obtain rfl : zs = 0 := by omega
        have e9 : b1 = apO pl (st9 - 1) bz := htot
        subst e9
        exact zVret () hx hb hr hlocks hK hP hD hS dX1_addPlace_63 trivial
      · skip
        refine lv_iconst (v := nI (0)) hx hb dX1_addPlace_8 (by decide) ?_
        refine lv_istore (lv' := [(4, .int (nI (0))), (0, .ref (d 0)), (1, .int (nI (pl))), (2, .int (nI (st9))), (3, .int (nI (zs)))]) hx hb dX1_addPlace_9 hl (by decide) rfl (fun ls hl => ?_)
        have lp11 : ∀ (fu : Nat) (p9 : Nat) (H : Heap) (locs : List Loc) (ls : Array Slot), (p9 ≤ b_n b1) → b_n b1 - p9 < fu → va_P D vwCl (YW ct a y (KR a b rs (BW ct a d (apI b1 pl zs p9) R))) H → va_D A (YW ct a y (KR a b rs (BW ct a d (apI b1 pl zs p9) R))) → va_S A s.heap H locs → lv_has ls 5 [(0, .ref (d 0)), (1, .int (nI (pl))), (2, .int (nI (st9))), (3, .int (nI (zs))), (4, .int (nI (p9)))] → W p l e rmX1_addPlace s m args below meth c H locs 0 0 (MQ below (va_Qv (fun _ : Unit => True) (zB D ct A (fun _ : Unit => YW ct a y (KR a b rs (BW ct a d (apO pl (st9 - 1) bz) R)))) A) args s rmX1_addPlace.cells rmX1_addPlace.slots A) (F0 m 11 ls []) := by
          intro fu
          induction fu with
          | zero => intro p9 H locs ls hp9 hfu; exact absurd hfu (Nat.not_lt_zero _)
          | succ fu ih11 =>
            intro p9 H locs ls hp9 hfu hP hD hS hl
            refine lv_iload hx hb dX1_addPlace_11 (lv_at hl 4 rfl) ?_
            refine lv_aload_n hx hb dX1_addPlace_13 rfl (lv_at hl 0 rfl) ?_
            refine va_get (ci := 1) (v := .int (nI (b_n (apI b1 pl zs p9)))) hx hb hts h_X1 hown hK hP 16 rfl rfl 2 (by decide) f29 (fun _ h9 => h9) rfl dX1_addPlace_14 ?_
            refine zTop (y := nI (b_n b1)) (by rw [apI_n]) ?_
            refine zN_icmp_ge (tgt := 57) hx hb (by omega) (by omega) dX1_addPlace_17 (by decide) (fun c17_2 => ?_) (fun c17_2 => ?_)
            · skip
              obtain rfl : p9 = b_n b1 := by omega
              refine lv_iinc (v := nI ((zs - 1))) (lv' := [(3, .int (nI ((zs - 1)))), (0, .ref (d 0)), (1, .int (nI (pl))), (2, .int (nI (st9))), (4, .int (nI (b_n b1)))]) hx hb dX1_addPlace_57 hl (k := 3) rfl (zDec (by omega)) (by decide) rfl (fun ls hl => ?_)
              refine lv_goto (tgt := 4) hx hb dX1_addPlace_60 (by decide) ?_
              exact ih4 ((zs - 1)) (apI b1 pl zs (b_n b1)) H locs ls (by omega) (by unfold wB; rw [apI_w, apI_n]; exact hw1) ((apO_s (by omega)).trans htot) (by omega) hP hD hS (lv_sub hl [1, 2, 3, 0] rfl)
            · skip
              refine lv_iload_n hx hb dX1_addPlace_20 rfl (lv_at hl 3 rfl) ?_
              refine lv_iload hx hb dX1_addPlace_21 (lv_at hl 4 rfl) ?_
              refine lv_ishr hx hb dX1_addPlace_23 ?_
              refine lv_iconst (v := nI (1)) hx hb dX1_addPlace_24 (by decide) ?_
              refine lv_iand hx hb dX1_addPlace_25 ?_
              refine lv_if_eq (tgt := 51) hx hb dX1_addPlace_26 (by decide) (fun c26_3 => ?_) (fun c26_3 => ?_)
              · skip
                refine lv_iinc (v := nI ((p9 + 1))) (lv' := [(4, .int (nI ((p9 + 1)))), (0, .ref (d 0)), (1, .int (nI (pl))), (2, .int (nI (st9))), (3, .int (nI (zs)))]) hx hb dX1_addPlace_51 hl (k := 4) rfl (zInc _) (by decide) rfl (fun ls hl => ?_)
                refine lv_goto (tgt := 11) hx hb dX1_addPlace_54 (by decide) ?_
                have hs9 : apI b1 pl zs (p9 + 1) = (apI b1 pl zs p9) := by simp only [apI, bitP, c5_1, c17_2, eq_true c26_3, p_in, p_worn, p_wi, p_creak, p_le0, p_lt1, not_true_eq_false, not_false_eq_true, if_true, if_false, and_true, true_and, and_false, false_and, or_true, true_or, or_false, false_or, and_self, or_self, iff_true, true_iff, iff_false, false_iff, decide_eq_true_eq, decide_true, decide_false, Int32.add_zero, Nat.add_zero, ne_eq, Bool.false_eq_true, eq_self]
                have hP : va_P D vwCl (YW ct a y (KR a b rs (BW ct a d (apI b1 pl zs (p9 + 1)) R))) H := by rw [hs9]; exact hP
                have hD : va_D A (YW ct a y (KR a b rs (BW ct a d (apI b1 pl zs (p9 + 1)) R))) := by rw [hs9]; exact hD
                exact ih11 ((p9 + 1)) H locs ls (by omega) (by omega) hP hD hS (lv_sub hl [1, 2, 3, 4, 0] rfl)
              · skip
                refine lv_aload_n hx hb dX1_addPlace_29 rfl (lv_at hl 0 rfl) ?_
                refine lv_iload_n hx hb dX1_addPlace_30 rfl (lv_at hl 3 rfl) ?_
                refine lv_iload_n hx hb dX1_addPlace_31 rfl (lv_at hl 3 rfl) ?_
                refine lv_iconst (v := nI (1)) hx hb dX1_addPlace_32 (by decide) ?_
                refine lv_iload hx hb dX1_addPlace_33 (lv_at hl 4 rfl) ?_
                refine lv_ishl hx hb dX1_addPlace_35 ?_
                refine lv_ixor hx hb dX1_addPlace_36 ?_
                refine zTop (y := nI (zs ^^^ 2 ^ p9)) (xor_n hs6 (by have := hw1.1; omega)) ?_
                refine lv_aload_n hx hb dX1_addPlace_37 rfl (lv_at hl 0 rfl) ?_
                refine va_get (ci := 1) (v := .ref (d 1)) hx hb hts h_X1 hown hK hP 16 rfl rfl 1 (by decide) f15 (fun _ h9 => h9) rfl dX1_addPlace_38 ?_
                refine lv_iload hx hb dX1_addPlace_41 (lv_at hl 4 rfl) ?_
                refine zIald (n := 6) (f := b_w (apI b1 pl zs p9)) (i := p9) hx hb hK hP 17 rfl (by have := hw1.1; omega) (by decide) dX1_addPlace_43 ?_
                refine zTop (y := nI (ixI (b_w b1 p9))) (by rw [apI_w]; exact (hw1.at (by omega)).1) ?_
                refine lv_iconst (v := nI (5)) hx hb dX1_addPlace_44 (by decide) ?_
                refine lv_iload_n hx hb dX1_addPlace_45 rfl (lv_at hl 1 rfl) ?_
                refine zNsub hx hb (by omega) dX1_addPlace_46 ?_
                refine zNmul hx hb dX1_addPlace_47 ?_
                refine zVV [.int (nI (zs)), .int (nI (zs ^^^ 2 ^ p9)), .int (nI ((ixI (b_w b1 p9) * (5 - pl))))] [] (kX1_addShifted (a) (y) (b) (rs) (d) ((apI b1 pl zs p9)) (R) (zs) (zs ^^^ 2 ^ p9) ((ixI (b_w b1 p9) * (5 - pl))) (show (zs) < 64 from hs6) (show (zs ^^^ 2 ^ p9) < 64 from (xor_lt hs6 (by have := hw1.1; omega))) (show ((ixI (b_w b1 p9) * (5 - pl))) ≤ 63 from (by have q := mul_45 (pl := pl) (hw1.at (p := p9) (by omega)).2; omega))) hx hb hml hown hts (cwV 3 hts gX1_addPlace_X1_addShifted rfl rfl rfl (by decide +kernel) ⟨(Nat.le_of_ble_eq_true rfl), (Nat.le_of_ble_eq_true rfl)⟩) hK hP hD hS hA (va_recv hK hP (ci := 1) (q0 := 16) rfl rfl) rfl hl.1 rfl (Nat.le_of_ble_eq_true rfl) dX1_addPlace_48 ⟨(Nat.le_of_ble_eq_true rfl), (Nat.le_of_ble_eq_true rfl)⟩ (fun _ H locs hr_48 hP hD hS => ?_)
                have hP : va_P D vwCl (YW ct a y (KR a b rs (BW ct a d (shS (apI b1 pl zs p9) (zs) (zs ^^^ 2 ^ p9) ((ixI (b_w b1 p9) * (5 - pl)))) R))) H := hP
                have hD : va_D A (YW ct a y (KR a b rs (BW ct a d (shS (apI b1 pl zs p9) (zs) (zs ^^^ 2 ^ p9) ((ixI (b_w b1 p9) * (5 - pl)))) R))) := hD
                refine lv_iinc (v := nI ((p9 + 1))) (lv' := [(4, .int (nI ((p9 + 1)))), (0, .ref (d 0)), (1, .int (nI (pl))), (2, .int (nI (st9))), (3, .int (nI (zs)))]) hx hb dX1_addPlace_51 hl (k := 4) rfl (zInc _) (by decide) rfl (fun ls hl => ?_)
                refine lv_goto (tgt := 11) hx hb dX1_addPlace_54 (by decide) ?_
                have hs9 : apI b1 pl zs (p9 + 1) = (shS (apI b1 pl zs p9) (zs) (zs ^^^ 2 ^ p9) ((ixI (b_w b1 p9) * (5 - pl)))) := by simp only [apI, bitP, c5_1, c17_2, c26_3, p_in, p_worn, p_wi, p_creak, p_le0, p_lt1, not_true_eq_false, not_false_eq_true, if_true, if_false, and_true, true_and, and_false, false_and, or_true, true_or, or_false, false_or, and_self, or_self, iff_true, true_iff, iff_false, false_iff, decide_eq_true_eq, decide_true, decide_false, Int32.add_zero, Nat.add_zero, ne_eq, Bool.false_eq_true, eq_self]
                have hP : va_P D vwCl (YW ct a y (KR a b rs (BW ct a d (apI b1 pl zs (p9 + 1)) R))) H := by rw [hs9]; exact hP
                have hD : va_D A (YW ct a y (KR a b rs (BW ct a d (apI b1 pl zs (p9 + 1)) R))) := by rw [hs9]; exact hD
                exact ih11 ((p9 + 1)) H locs ls (by omega) (by omega) hP hD hS (lv_sub hl [1, 2, 3, 4, 0] rfl)
        have hP : va_P D vwCl (YW ct a y (KR a b rs (BW ct a d (apI b1 pl zs (0)) R))) H := by rw [show apI b1 pl zs 0 = b1 from rfl]; exact hP
        have hD : va_D A (YW ct a y (KR a b rs (BW ct a d (apI b1 pl zs (0)) R))) := by rw [show apI b1 pl zs 0 = b1 from rfl]; exact hD
        exact lp11 ((b_n b1 - (0)) + 1) (0) H locs ls (by omega) (Nat.lt_succ_self _) hP hD hS (lv_sub hl [1, 2, 3, 4, 0] rfl)
  exact lp4 (((st9 - 1)) + 1) (st9 - 1) (bz) H locs ls (by omega) hwB rfl (Nat.lt_succ_self _) hP hD hS (lv_sub hl [1, 2, 3, 0] rfl)
abbrev rmX1_hasSum : Room := { frames := 0, cells := 0, slots := 0, locals := 0 }
theorem in_X1_hasSum_X1 : ∀ w ∈ u_ws RX1 TX1 6, w ∈ wsX1_hasSum := by decide +kernel
set_option maxHeartbeats 4000000 in
set_option maxRecDepth 100000 in
theorem kX1_hasSum {D : va_G} {ct : Nat → ClassId} {l : Launch} (a : Nat → Nat) (y : YS) (b : Nat → Nat) (rs : RS) (d : Nat → Nat) (bz : BS) (R : va_W) (zs : Nat) (j : Nat) (hs6 : zs < 64) (hj : j ≤ 135) : MI D ct l yX1_hasSum wsX1_hasSum rmX1_hasSum (YW ct a y (KR a b rs (BW ct a d bz R))) [.ref (d 0), .int (nI (zs)), .int (nI (j))] (fun r0 (_ : Unit) => r0 = bI (p_hs bz zs j)) (fun _ : Unit => YW ct a y (KR a b rs (BW ct a d bz R))) := by
  refine MIof (cc := cX1_hasSum) (maxL := 5) (ret := (some .boolean)) (by decide) rfl (Nat.le_of_ble_eq_true rfl) ?_
  intro p e s m args below meth c A H locs F hP hK hD hS hA ls hl
  obtain ⟨hx, hb, hr, hlocks, hml, hown, hts, hin⟩ := F
  have hl : lv_has ls 5 [(0, .ref (d 0)), (1, .int (nI (zs))), (2, .int (nI (j)))] := hl
  have h_X1 := in_X1_hasSum_X1
  have f19 := hts (.fieldLink RX1 19 "CartArguments$Balance" "low" "[J") (by decide +kernel)
  have f23 := hts (.fieldLink RX1 23 "CartArguments$Balance" "middle" "[J") (by decide +kernel)
  have f26 := hts (.fieldLink RX1 26 "CartArguments$Balance" "high" "[J") (by decide +kernel)
  refine lv_iload_n hx hb dX1_hasSum_0 rfl (lv_at hl 2 rfl) ?_
  refine lv_bipush (v := nI (64)) hx hb dX1_hasSum_1 (by decide) ?_
  refine zN_icmp_ge (tgt := 15) hx hb (by omega) (by omega) dX1_hasSum_3 (by decide) (fun c3_1 => ?_) (fun c3_1 => ?_)
  · skip
    refine lv_iload_n hx hb dX1_hasSum_15 rfl (lv_at hl 2 rfl) ?_
    refine lv_sipush (v := nI (128)) hx hb dX1_hasSum_16 (by decide) ?_
    refine zN_icmp_ge (tgt := 31) hx hb (by omega) (by omega) dX1_hasSum_19 (by decide) (fun c19_2 => ?_) (fun c19_2 => ?_)
    · skip
      refine lv_aload_n hx hb dX1_hasSum_31 rfl (lv_at hl 0 rfl) ?_
      refine va_get (ci := 1) (v := .ref (d 4)) hx hb hts h_X1 hown hK hP 16 rfl rfl 5 (by decide) f26 (fun _ h9 => h9) rfl dX1_hasSum_32 ?_
      refine lv_iload_n hx hb dX1_hasSum_35 rfl (lv_at hl 1 rfl) ?_
      refine zLald (n := 64) (f := b_hi bz) (i := zs) hx hb hK hP 20 rfl (by omega) (by decide) dX1_hasSum_36 ?_
      refine lv_lstore_n (lv' := [(3, .long ((b_hi bz (zs)))), (0, .ref (d 0)), (1, .int (nI (zs))), (2, .int (nI (j)))]) hx hb dX1_hasSum_37 rfl hl (by decide) rfl (fun ls hl => ?_)
      refine lv_lload_n hx hb dX1_hasSum_38 rfl (lv_at hl 0 rfl) ?_
      refine lv_iload_n hx hb dX1_hasSum_39 rfl (lv_at hl 3 rfl) ?_
      refine lv_bipush (v := nI (63)) hx hb dX1_hasSum_40 (by decide) ?_
      refine lv_iand hx hb dX1_hasSum_42 ?_
      refine lv_lushr (v := (((b_hi bz (zs))).toUInt64 >>> (((nI (j) &&& nI (63))).toInt64.toUInt64 &&& Int64.toUInt64 63)).toInt64) hx hb dX1_hasSum_43 rfl ?_
      refine lv_lconst (v := 1) hx hb dX1_hasSum_44 rfl ?_
      refine lv_land hx hb dX1_hasSum_45 ?_
      refine lv_lconst (v := 0) hx hb dX1_hasSum_46 rfl ?_
      refine W.lcmp hx hb dX1_hasSum_47 ?_
      refine lv_if_eq (tgt := 55) hx hb dX1_hasSum_48 (by decide) (fun c48_3 => ?_) (fun c48_3 => ?_)
      · skip
        refine lv_iconst (v := nI (0)) hx hb dX1_hasSum_55 (by decide) ?_
        exact zZret () (by decide) hx hb hr hlocks hK hP hD hS dX1_hasSum_56 (show nI (0) = bI (p_hs bz zs j) from (by simp only [bI, p_hs, wdB, c3_1, c19_2, eq_true c48_3, p_in, p_worn, p_wi, p_creak, p_le0, p_lt1, not_true_eq_false, not_false_eq_true, if_true, if_false, and_true, true_and, and_false, false_and, or_true, true_or, or_false, false_or, and_self, or_self, iff_true, true_iff, iff_false, false_iff, decide_eq_true_eq, decide_true, decide_false, Int32.add_zero, Nat.add_zero, ne_eq, Bool.false_eq_true, eq_self]))
      · skip
        refine lv_iconst (v := nI (1)) hx hb dX1_hasSum_51 (by decide) ?_
        refine lv_goto (tgt := 56) hx hb dX1_hasSum_52 (by decide) ?_
        exact zZret () (by decide) hx hb hr hlocks hK hP hD hS dX1_hasSum_56 (show nI (1) = bI (p_hs bz zs j) from (by simp only [bI, p_hs, wdB, c3_1, c19_2, c48_3, p_in, p_worn, p_wi, p_creak, p_le0, p_lt1, not_true_eq_false, not_false_eq_true, if_true, if_false, and_true, true_and, and_false, false_and, or_true, true_or, or_false, false_or, and_self, or_self, iff_true, true_iff, iff_false, false_iff, decide_eq_true_eq, decide_true, decide_false, Int32.add_zero, Nat.add_zero, ne_eq, Bool.false_eq_true, eq_self]))
    · skip
      refine lv_aload_n hx hb dX1_hasSum_22 rfl (lv_at hl 0 rfl) ?_
      refine va_get (ci := 1) (v := .ref (d 3)) hx hb hts h_X1 hown hK hP 16 rfl rfl 4 (by decide) f23 (fun _ h9 => h9) rfl dX1_hasSum_23 ?_
      refine lv_iload_n hx hb dX1_hasSum_26 rfl (lv_at hl 1 rfl) ?_
      refine zLald (n := 64) (f := b_mi bz) (i := zs) hx hb hK hP 19 rfl (by omega) (by decide) dX1_hasSum_27 ?_
      refine lv_goto (tgt := 37) hx hb dX1_hasSum_28 (by decide) ?_
      refine lv_lstore_n (lv' := [(3, .long ((b_mi bz (zs)))), (0, .ref (d 0)), (1, .int (nI (zs))), (2, .int (nI (j)))]) hx hb dX1_hasSum_37 rfl hl (by decide) rfl (fun ls hl => ?_)
      refine lv_lload_n hx hb dX1_hasSum_38 rfl (lv_at hl 0 rfl) ?_
      refine lv_iload_n hx hb dX1_hasSum_39 rfl (lv_at hl 3 rfl) ?_
      refine lv_bipush (v := nI (63)) hx hb dX1_hasSum_40 (by decide) ?_
      refine lv_iand hx hb dX1_hasSum_42 ?_
      refine lv_lushr (v := (((b_mi bz (zs))).toUInt64 >>> (((nI (j) &&& nI (63))).toInt64.toUInt64 &&& Int64.toUInt64 63)).toInt64) hx hb dX1_hasSum_43 rfl ?_
      refine lv_lconst (v := 1) hx hb dX1_hasSum_44 rfl ?_
      refine lv_land hx hb dX1_hasSum_45 ?_
      refine lv_lconst (v := 0) hx hb dX1_hasSum_46 rfl ?_
      refine W.lcmp hx hb dX1_hasSum_47 ?_
      refine lv_if_eq (tgt := 55) hx hb dX1_hasSum_48 (by decide) (fun c48_4 => ?_) (fun c48_4 => ?_)
      · skip
        refine lv_iconst (v := nI (0)) hx hb dX1_hasSum_55 (by decide) ?_
        exact zZret () (by decide) hx hb hr hlocks hK hP hD hS dX1_hasSum_56 (show nI (0) = bI (p_hs bz zs j) from (by simp only [bI, p_hs, wdB, c3_1, c19_2, eq_true c48_4, p_in, p_worn, p_wi, p_creak, p_le0, p_lt1, not_true_eq_false, not_false_eq_true, if_true, if_false, and_true, true_and, and_false, false_and, or_true, true_or, or_false, false_or, and_self, or_self, iff_true, true_iff, iff_false, false_iff, decide_eq_true_eq, decide_true, decide_false, Int32.add_zero, Nat.add_zero, ne_eq, Bool.false_eq_true, eq_self]))
      · skip
        refine lv_iconst (v := nI (1)) hx hb dX1_hasSum_51 (by decide) ?_
        refine lv_goto (tgt := 56) hx hb dX1_hasSum_52 (by decide) ?_
        exact zZret () (by decide) hx hb hr hlocks hK hP hD hS dX1_hasSum_56 (show nI (1) = bI (p_hs bz zs j) from (by simp only [bI, p_hs, wdB, c3_1, c19_2, c48_4, p_in, p_worn, p_wi, p_creak, p_le0, p_lt1, not_true_eq_false, not_false_eq_true, if_true, if_false, and_true, true_and, and_false, false_and, or_true, true_or, or_false, false_or, and_self, or_self, iff_true, true_iff, iff_false, false_iff, decide_eq_true_eq, decide_true, decide_false, Int32.add_zero, Nat.add_zero, ne_eq, Bool.false_eq_true, eq_self]))
  · skip
    refine lv_aload_n hx hb dX1_hasSum_6 rfl (lv_at hl 0 rfl) ?_
    refine va_get (ci := 1) (v := .ref (d 2)) hx hb hts h_X1 hown hK hP 16 rfl rfl 3 (by decide) f19 (fun _ h9 => h9) rfl dX1_hasSum_7 ?_
    refine lv_iload_n hx hb dX1_hasSum_10 rfl (lv_at hl 1 rfl) ?_
    refine zLald (n := 64) (f := b_lo bz) (i := zs) hx hb hK hP 18 rfl (by omega) (by decide) dX1_hasSum_11 ?_
    refine lv_goto (tgt := 37) hx hb dX1_hasSum_12 (by decide) ?_
    refine lv_lstore_n (lv' := [(3, .long ((b_lo bz (zs)))), (0, .ref (d 0)), (1, .int (nI (zs))), (2, .int (nI (j)))]) hx hb dX1_hasSum_37 rfl hl (by decide) rfl (fun ls hl => ?_)
    refine lv_lload_n hx hb dX1_hasSum_38 rfl (lv_at hl 0 rfl) ?_
    refine lv_iload_n hx hb dX1_hasSum_39 rfl (lv_at hl 3 rfl) ?_
    refine lv_bipush (v := nI (63)) hx hb dX1_hasSum_40 (by decide) ?_
    refine lv_iand hx hb dX1_hasSum_42 ?_
    refine lv_lushr (v := (((b_lo bz (zs))).toUInt64 >>> (((nI (j) &&& nI (63))).toInt64.toUInt64 &&& Int64.toUInt64 63)).toInt64) hx hb dX1_hasSum_43 rfl ?_
    refine lv_lconst (v := 1) hx hb dX1_hasSum_44 rfl ?_
    refine lv_land hx hb dX1_hasSum_45 ?_
    refine lv_lconst (v := 0) hx hb dX1_hasSum_46 rfl ?_
    refine W.lcmp hx hb dX1_hasSum_47 ?_
    refine lv_if_eq (tgt := 55) hx hb dX1_hasSum_48 (by decide) (fun c48_5 => ?_) (fun c48_5 => ?_)
    · skip
      refine lv_iconst (v := nI (0)) hx hb dX1_hasSum_55 (by decide) ?_
      exact zZret () (by decide) hx hb hr hlocks hK hP hD hS dX1_hasSum_56 (show nI (0) = bI (p_hs bz zs j) from (by simp only [bI, p_hs, wdB, c3_1, eq_true c48_5, p_in, p_worn, p_wi, p_creak, p_le0, p_lt1, not_true_eq_false, not_false_eq_true, if_true, if_false, and_true, true_and, and_false, false_and, or_true, true_or, or_false, false_or, and_self, or_self, iff_true, true_iff, iff_false, false_iff, decide_eq_true_eq, decide_true, decide_false, Int32.add_zero, Nat.add_zero, ne_eq, Bool.false_eq_true, eq_self]))
    · skip
      refine lv_iconst (v := nI (1)) hx hb dX1_hasSum_51 (by decide) ?_
      refine lv_goto (tgt := 56) hx hb dX1_hasSum_52 (by decide) ?_
      exact zZret () (by decide) hx hb hr hlocks hK hP hD hS dX1_hasSum_56 (show nI (1) = bI (p_hs bz zs j) from (by simp only [bI, p_hs, wdB, c3_1, c48_5, p_in, p_worn, p_wi, p_creak, p_le0, p_lt1, not_true_eq_false, not_false_eq_true, if_true, if_false, and_true, true_and, and_false, false_and, or_true, true_or, or_false, false_or, and_self, or_self, iff_true, true_iff, iff_false, false_iff, decide_eq_true_eq, decide_true, decide_false, Int32.add_zero, Nat.add_zero, ne_eq, Bool.false_eq_true, eq_self]))
abbrev rmX1_leastOfSums : Room := { frames := 1, cells := 0, slots := 0, locals := 30 }
theorem in_X1_leastOfSums_X1 : ∀ w ∈ u_ws RX1 TX1 6, w ∈ wsX1_leastOfSums := by decide +kernel
set_option maxHeartbeats 4000000 in
set_option maxRecDepth 100000 in
theorem kX1_leastOfSums {D : va_G} {ct : Nat → ClassId} {l : Launch} (a : Nat → Nat) (y : YS) (b : Nat → Nat) (rs : RS) (d : Nat → Nat) (bz : BS) (R : va_W) (zs : Nat) (hs6 : zs < 64) (hn6 : b_n bz ≤ 6) : MI D ct l yX1_leastOfSums wsX1_leastOfSums rmX1_leastOfSums (YW ct a y (KR a b rs (BW ct a d bz R))) [.ref (d 0), .int (nI (zs))] (fun r0 (_ : Unit) => r0 = losB bz zs) (fun _ : Unit => YW ct a y (KR a b rs (BW ct a d bz R))) := by
  refine MIof (cc := cX1_leastOfSums) (maxL := 5) (ret := (some .int)) (by decide) rfl (Nat.le_of_ble_eq_true rfl) ?_
  intro p e s m args below meth c A H locs F hP hK hD hS hA ls hl
  obtain ⟨hx, hb, hr, hlocks, hml, hown, hts, hin⟩ := F
  have hl : lv_has ls 5 [(0, .ref (d 0)), (1, .int (nI (zs)))] := hl
  have h_X1 := in_X1_leastOfSums_X1
  have f15 := hts (.fieldLink RX1 15 "CartArguments$Balance" "weights" "[I") (by decide +kernel)
  have f29 := hts (.fieldLink RX1 29 "CartArguments$Balance" "count" "I") (by decide +kernel)
  refine lv_iconst (v := nI (0)) hx hb dX1_leastOfSums_0 (by decide) ?_
  refine lv_istore_n (lv' := [(2, .int (nI (0))), (0, .ref (d 0)), (1, .int (nI (zs)))]) hx hb dX1_leastOfSums_1 rfl hl (by decide) rfl (fun ls hl => ?_)
  refine lv_iconst (v := nI (0)) hx hb dX1_leastOfSums_2 (by decide) ?_
  refine lv_istore_n (lv' := [(3, .int (nI (0))), (2, .int (nI (0))), (0, .ref (d 0)), (1, .int (nI (zs)))]) hx hb dX1_leastOfSums_3 rfl hl (by decide) rfl (fun ls hl => ?_)
  have lp4 : ∀ (fu : Nat) (k : Nat) (acc : Int32) (H : Heap) (locs : List Loc) (ls : Array Slot), (k ≤ b_n bz) → (acc = sI (b_w bz) k) → b_n bz - k < fu → va_P D vwCl (YW ct a y (KR a b rs (BW ct a d bz R))) H → va_D A (YW ct a y (KR a b rs (BW ct a d bz R))) → va_S A s.heap H locs → lv_has ls 5 [(0, .ref (d 0)), (1, .int (nI (zs))), (2, .int (acc)), (3, .int (nI (k)))] → W p l e rmX1_leastOfSums s m args below meth c H locs 0 0 (MQ below (va_Qi (fun r0 (_ : Unit) => r0 = losB bz zs) (zB D ct A (fun _ : Unit => YW ct a y (KR a b rs (BW ct a d bz R)))) A) args s rmX1_leastOfSums.cells rmX1_leastOfSums.slots A) (F0 m 4 ls []) := by
    intro fu
    induction fu with
    | zero => intro k acc H locs ls hk hacc hfu; exact absurd hfu (Nat.not_lt_zero _)
    | succ fu ih4 =>
      intro k acc H locs ls hk hacc hfu hP hD hS hl
      refine lv_iload_n hx hb dX1_leastOfSums_4 rfl (lv_at hl 3 rfl) ?_
      refine lv_aload_n hx hb dX1_leastOfSums_5 rfl (lv_at hl 0 rfl) ?_
      refine va_get (ci := 1) (v := .int (nI (b_n bz))) hx hb hts h_X1 hown hK hP 16 rfl rfl 2 (by decide) f29 (fun _ h9 => h9) rfl dX1_leastOfSums_6 ?_
      refine zN_icmp_ge (tgt := 27) hx hb (by omega) (by omega) dX1_leastOfSums_9 (by decide) (fun c9_1 => ?_) (fun c9_1 => ?_)
      · skip
        refine lv_ldc (v := nI (1000000)) hx hb hown (hts (.constant RX1 59 (1000000)) (by decide +kernel)) dX1_leastOfSums_27 ?_
        refine lv_istore_n (lv' := [(3, .int (nI (1000000))), (0, .ref (d 0)), (1, .int (nI (zs))), (2, .int (acc))]) hx hb dX1_leastOfSums_29 rfl hl (by decide) rfl (fun ls hl => ?_)
        refine lv_iconst (v := nI (0)) hx hb dX1_leastOfSums_30 (by decide) ?_
        refine lv_istore (lv' := [(4, .int (nI (0))), (3, .int (nI (1000000))), (0, .ref (d 0)), (1, .int (nI (zs))), (2, .int (acc))]) hx hb dX1_leastOfSums_31 hl (by decide) rfl (fun ls hl => ?_)
        have lp33 : ∀ (fu : Nat) (j : Nat) (le : Int32) (H : Heap) (locs : List Loc) (ls : Array Slot), (j ≤ 136) → (le = lsS (fun j => decide (p_hs bz zs j)) acc j) → 136 - j < fu → va_P D vwCl (YW ct a y (KR a b rs (BW ct a d bz R))) H → va_D A (YW ct a y (KR a b rs (BW ct a d bz R))) → va_S A s.heap H locs → lv_has ls 5 [(0, .ref (d 0)), (1, .int (nI (zs))), (2, .int (acc)), (3, .int (le)), (4, .int (nI (j)))] → W p l e rmX1_leastOfSums s m args below meth c H locs 0 0 (MQ below (va_Qi (fun r0 (_ : Unit) => r0 = losB bz zs) (zB D ct A (fun _ : Unit => YW ct a y (KR a b rs (BW ct a d bz R)))) A) args s rmX1_leastOfSums.cells rmX1_leastOfSums.slots A) (F0 m 33 ls []) := by
          intro fu
          induction fu with
          | zero => intro j le H locs ls hj hle hfu; exact absurd hfu (Nat.not_lt_zero _)
          | succ fu ih33 =>
            intro j le H locs ls hj hle hfu hP hD hS hl
            refine lv_iload hx hb dX1_leastOfSums_33 (lv_at hl 4 rfl) ?_
            refine lv_sipush (v := nI (135)) hx hb dX1_leastOfSums_35 (by decide) ?_
            refine zN_icmp_gt (tgt := 74) hx hb (by omega) (by omega) dX1_leastOfSums_38 (by decide) (fun c38_2 => ?_) (fun c38_2 => ?_)
            · skip
              refine lv_iload_n hx hb dX1_leastOfSums_74 rfl (lv_at hl 3 rfl) ?_
              exact zIret () hx hb hr hlocks hK hP hD hS dX1_leastOfSums_75 (show le = losB bz zs from (by obtain rfl : j = 136 := (by omega); obtain rfl : k = b_n bz := (by omega); rw [hle, losB, hacc]))
            · skip
              refine lv_aload_n hx hb dX1_leastOfSums_41 rfl (lv_at hl 0 rfl) ?_
              refine lv_iload_n hx hb dX1_leastOfSums_42 rfl (lv_at hl 1 rfl) ?_
              refine lv_iload hx hb dX1_leastOfSums_43 (lv_at hl 4 rfl) ?_
              refine zVI [.int (nI (zs)), .int (nI (j))] [] (kX1_hasSum (a) (y) (b) (rs) (d) (bz) (R) (zs) (j) (show (zs) < 64 from by omega) (show (j) ≤ 135 from by omega)) hx hb hml hown hts (cwV 2 hts gX1_leastOfSums_X1_hasSum rfl rfl rfl (by decide +kernel) ⟨(Nat.le_of_ble_eq_true rfl), (Nat.le_of_ble_eq_true rfl)⟩) hK hP hD hS hA (va_recv hK hP (ci := 1) (q0 := 16) rfl rfl) rfl hl.1 rfl (Nat.le_of_ble_eq_true rfl) dX1_leastOfSums_45 ⟨(Nat.le_of_ble_eq_true rfl), (Nat.le_of_ble_eq_true rfl)⟩ (fun r_45 _ H locs hr_45 hP hD hS => ?_)
              subst hr_45
              have hP : va_P D vwCl (YW ct a y (KR a b rs (BW ct a d bz R))) H := hP
              have hD : va_D A (YW ct a y (KR a b rs (BW ct a d bz R))) := hD
              refine zB_if_eq (tgt := 68) hx hb dX1_leastOfSums_48 (by decide) (fun c48_3 => ?_) (fun c48_3 => ?_)
              · skip
                refine lv_iinc (v := nI ((j + 1))) (lv' := [(4, .int (nI ((j + 1)))), (0, .ref (d 0)), (1, .int (nI (zs))), (2, .int (acc)), (3, .int (le))]) hx hb dX1_leastOfSums_68 hl (k := 4) rfl (zInc _) (by decide) rfl (fun ls hl => ?_)
                refine lv_goto (tgt := 33) hx hb dX1_leastOfSums_71 (by decide) ?_
                exact ih33 ((j + 1)) (le) H locs ls (by omega) (by simp only [lsS, ← hle, q_ab, decide_eq_true_eq, c9_1, c38_2, c48_3, p_in, p_worn, p_wi, p_creak, p_le0, p_lt1, not_true_eq_false, not_false_eq_true, if_true, if_false, and_true, true_and, and_false, false_and, or_true, true_or, or_false, false_or, and_self, or_self, iff_true, true_iff, iff_false, false_iff, decide_eq_true_eq, decide_true, decide_false, Int32.add_zero, Nat.add_zero, ne_eq, Bool.false_eq_true, eq_self]) (by omega) hP hD hS (lv_sub hl [1, 2, 3, 4, 0] rfl)
              · skip
                refine lv_iload_n hx hb dX1_leastOfSums_51 rfl (lv_at hl 3 rfl) ?_
                refine lv_iconst (v := nI (4)) hx hb dX1_leastOfSums_52 (by decide) ?_
                refine lv_iload hx hb dX1_leastOfSums_53 (lv_at hl 4 rfl) ?_
                refine zNmul hx hb dX1_leastOfSums_55 ?_
                refine lv_bipush (v := nI (10)) hx hb dX1_leastOfSums_56 (by decide) ?_
                refine lv_iload_n hx hb dX1_leastOfSums_58 rfl (lv_at hl 2 rfl) ?_
                refine lv_imul hx hb dX1_leastOfSums_59 ?_
                refine lv_isub hx hb dX1_leastOfSums_60 ?_
                refine va_mabs hx hb (hml.trans hl.1.symm) hown (hts (.methodLink RX1 53 Lib.Math.abs.name) (by decide +kernel)) (hts (.static Lib.Math.abs.name) (by decide +kernel)) (hts (.initialized "java/lang/Math") (by decide +kernel)) (hts (.code Lib.Math.abs.name Lib.Math.abs.code 1 (some .int)) (by decide +kernel)) (Nat.le_of_ble_eq_true rfl) (Nat.le_of_ble_eq_true rfl) (Nat.le_of_ble_eq_true rfl) (Nat.le_of_ble_eq_true rfl) dX1_leastOfSums_61 ?_
                refine va_mmin hx hb (hml.trans hl.1.symm) hown (hts (.methodLink RX1 60 Lib.Math.min.name) (by decide +kernel)) (hts (.static Lib.Math.min.name) (by decide +kernel)) (hts (.initialized "java/lang/Math") (by decide +kernel)) (hts (.code Lib.Math.min.name Lib.Math.min.code 2 (some .int)) (by decide +kernel)) (Nat.le_of_ble_eq_true rfl) (Nat.le_of_ble_eq_true rfl) (Nat.le_of_ble_eq_true rfl) (Nat.le_of_ble_eq_true rfl) dX1_leastOfSums_64 ?_
                refine lv_istore_n (lv' := [(3, .int ((if (if 0 ≤ (nI ((4 * j)) - (nI (10) * acc)) then (nI ((4 * j)) - (nI (10) * acc)) else 0 - (nI ((4 * j)) - (nI (10) * acc))) < le then (if 0 ≤ (nI ((4 * j)) - (nI (10) * acc)) then (nI ((4 * j)) - (nI (10) * acc)) else 0 - (nI ((4 * j)) - (nI (10) * acc))) else le))), (0, .ref (d 0)), (1, .int (nI (zs))), (2, .int (acc)), (4, .int (nI (j)))]) hx hb dX1_leastOfSums_67 rfl hl (by decide) rfl (fun ls hl => ?_)
                refine lv_iinc (v := nI ((j + 1))) (lv' := [(4, .int (nI ((j + 1)))), (3, .int ((if (if 0 ≤ (nI ((4 * j)) - (nI (10) * acc)) then (nI ((4 * j)) - (nI (10) * acc)) else 0 - (nI ((4 * j)) - (nI (10) * acc))) < le then (if 0 ≤ (nI ((4 * j)) - (nI (10) * acc)) then (nI ((4 * j)) - (nI (10) * acc)) else 0 - (nI ((4 * j)) - (nI (10) * acc))) else le))), (0, .ref (d 0)), (1, .int (nI (zs))), (2, .int (acc))]) hx hb dX1_leastOfSums_68 hl (k := 4) rfl (zInc _) (by decide) rfl (fun ls hl => ?_)
                refine lv_goto (tgt := 33) hx hb dX1_leastOfSums_71 (by decide) ?_
                exact ih33 ((j + 1)) ((if (if 0 ≤ (nI ((4 * j)) - (nI (10) * acc)) then (nI ((4 * j)) - (nI (10) * acc)) else 0 - (nI ((4 * j)) - (nI (10) * acc))) < le then (if 0 ≤ (nI ((4 * j)) - (nI (10) * acc)) then (nI ((4 * j)) - (nI (10) * acc)) else 0 - (nI ((4 * j)) - (nI (10) * acc))) else le)) H locs ls (by omega) (by simp only [lsS, ← hle, q_ab, decide_eq_true_eq, c9_1, c38_2, c48_3, p_in, p_worn, p_wi, p_creak, p_le0, p_lt1, not_true_eq_false, not_false_eq_true, if_true, if_false, and_true, true_and, and_false, false_and, or_true, true_or, or_false, false_or, and_self, or_self, iff_true, true_iff, iff_false, false_iff, decide_eq_true_eq, decide_true, decide_false, Int32.add_zero, Nat.add_zero, ne_eq, Bool.false_eq_true, eq_self]) (by omega) hP hD hS (lv_sub hl [2, 3, 4, 1, 0] rfl)
        exact lp33 ((136 - (0)) + 1) (0) (nI 1000000) H locs ls (by omega) rfl (Nat.lt_succ_self _) hP hD hS (lv_sub hl [2, 3, 4, 1, 0] rfl)
      · skip
        refine lv_iload_n hx hb dX1_leastOfSums_12 rfl (lv_at hl 2 rfl) ?_
        refine lv_aload_n hx hb dX1_leastOfSums_13 rfl (lv_at hl 0 rfl) ?_
        refine va_get (ci := 1) (v := .ref (d 1)) hx hb hts h_X1 hown hK hP 16 rfl rfl 1 (by decide) f15 (fun _ h9 => h9) rfl dX1_leastOfSums_14 ?_
        refine lv_iload_n hx hb dX1_leastOfSums_17 rfl (lv_at hl 3 rfl) ?_
        refine zIald (n := 6) (f := b_w bz) (i := k) hx hb hK hP 17 rfl (by omega) (by decide) dX1_leastOfSums_18 ?_
        refine lv_iadd hx hb dX1_leastOfSums_19 ?_
        refine lv_istore_n (lv' := [(2, .int ((acc + (b_w bz (k))))), (0, .ref (d 0)), (1, .int (nI (zs))), (3, .int (nI (k)))]) hx hb dX1_leastOfSums_20 rfl hl (by decide) rfl (fun ls hl => ?_)
        refine lv_iinc (v := nI ((k + 1))) (lv' := [(3, .int (nI ((k + 1)))), (2, .int ((acc + (b_w bz (k))))), (0, .ref (d 0)), (1, .int (nI (zs)))]) hx hb dX1_leastOfSums_21 hl (k := 3) rfl (zInc _) (by decide) rfl (fun ls hl => ?_)
        refine lv_goto (tgt := 4) hx hb dX1_leastOfSums_24 (by decide) ?_
        exact ih4 ((k + 1)) ((acc + (b_w bz (k)))) H locs ls (by omega) (by rw [sI, hacc]) (by omega) hP hD hS (lv_sub hl [2, 3, 1, 0] rfl)
  exact lp4 ((b_n bz - (0)) + 1) (0) (nI 0) H locs ls (by omega) rfl (Nat.lt_succ_self _) hP hD hS (lv_sub hl [2, 3, 1, 0] rfl)
abbrev rmX1_leastBySets : Room := { frames := 2, cells := 0, slots := 0, locals := 54 }
theorem in_X1_leastBySets_X1 : ∀ w ∈ u_ws RX1 TX1 6, w ∈ wsX1_leastBySets := by decide +kernel
set_option maxHeartbeats 4000000 in
set_option maxRecDepth 100000 in
theorem kX1_leastBySets {D : va_G} {ct : Nat → ClassId} {l : Launch} (a : Nat → Nat) (y : YS) (b : Nat → Nat) (rs : RS) (d : Nat → Nat) (bz : BS) (R : va_W) (x1 : Int32) (hn : y_n y ≤ 12) (hw9 : wB (gatB y x1 bz)) : MI D ct l yX1_leastBySets wsX1_leastBySets rmX1_leastBySets (YW ct a y (KR a b rs (BW ct a d bz R))) [.ref (d 0), .int (x1)] (fun r0 (_ : Unit) => r0 = losB (setB (gatB y x1 bz)) (2 ^ b_n (gatB y x1 bz) - 1)) (fun _ : Unit => YW ct a y (KR a b rs (BW ct a d (setB (gatB y x1 bz)) R))) := by
  refine MIof (cc := cX1_leastBySets) (maxL := 4) (ret := (some .int)) (by decide) rfl (Nat.le_of_ble_eq_true rfl) ?_
  intro p e s m args below meth c A H locs F hP hK hD hS hA ls hl
  obtain ⟨hx, hb, hr, hlocks, hml, hown, hts, hin⟩ := F
  have hl : lv_has ls 4 [(0, .ref (d 0)), (1, .int (x1))] := hl
  have h_X1 := in_X1_leastBySets_X1
  have f19 := hts (.fieldLink RX1 19 "CartArguments$Balance" "low" "[J") (by decide +kernel)
  have f23 := hts (.fieldLink RX1 23 "CartArguments$Balance" "middle" "[J") (by decide +kernel)
  have f26 := hts (.fieldLink RX1 26 "CartArguments$Balance" "high" "[J") (by decide +kernel)
  have f29 := hts (.fieldLink RX1 29 "CartArguments$Balance" "count" "I") (by decide +kernel)
  refine lv_aload_n hx hb dX1_leastBySets_0 rfl (lv_at hl 0 rfl) ?_
  refine lv_iload_n hx hb dX1_leastBySets_1 rfl (lv_at hl 1 rfl) ?_
  refine zVV [.int (x1)] [] (kX1_gather (a) (y) (b) (rs) (d) (bz) (R) (x1) (show y_n y ≤ 12 from by omega)) hx hb hml hown hts (cwV 1 hts gX1_leastBySets_X1_gather rfl rfl rfl (by decide +kernel) ⟨(Nat.le_of_ble_eq_true rfl), (Nat.le_of_ble_eq_true rfl)⟩) hK hP hD hS hA (va_recv hK hP (ci := 1) (q0 := 16) rfl rfl) rfl hl.1 rfl (Nat.le_of_ble_eq_true rfl) dX1_leastBySets_2 ⟨(Nat.le_of_ble_eq_true rfl), (Nat.le_of_ble_eq_true rfl)⟩ (fun _ H locs hr_2 hP hD hS => ?_)
  have hP : va_P D vwCl (YW ct a y (KR a b rs (BW ct a d (gatB y (x1) bz) R))) H := hP
  have hD : va_D A (YW ct a y (KR a b rs (BW ct a d (gatB y (x1) bz) R))) := hD
  refine lv_iconst (v := nI (1)) hx hb dX1_leastBySets_5 (by decide) ?_
  refine lv_aload_n hx hb dX1_leastBySets_6 rfl (lv_at hl 0 rfl) ?_
  refine va_get (ci := 1) (v := .int (nI (b_n (gatB y (x1) bz)))) hx hb hts h_X1 hown hK hP 16 rfl rfl 2 (by decide) f29 (fun _ h9 => h9) rfl dX1_leastBySets_7 ?_
  refine lv_ishl hx hb dX1_leastBySets_10 ?_
  have h2 := shl_n (c := b_n (gatB y x1 bz)) (cGn_6 y x1 (y_n y))
  have h21 : 1 ≤ (2 ^ b_n (gatB y x1 bz)) := h2.2.1
  have h22 : (2 ^ b_n (gatB y x1 bz)) ≤ 64 := h2.2.2
  refine zTop (y := nI (2 ^ b_n (gatB y x1 bz))) h2.1 ?_
  refine lv_istore_n (lv' := [(2, .int (nI ((2 ^ b_n (gatB y x1 bz))))), (0, .ref (d 0)), (1, .int (x1))]) hx hb dX1_leastBySets_11 rfl hl (by decide) rfl (fun ls hl => ?_)
  refine lv_iconst (v := nI (0)) hx hb dX1_leastBySets_12 (by decide) ?_
  refine lv_istore_n (lv' := [(3, .int (nI (0))), (2, .int (nI ((2 ^ b_n (gatB y x1 bz))))), (0, .ref (d 0)), (1, .int (x1))]) hx hb dX1_leastBySets_13 rfl hl (by decide) rfl (fun ls hl => ?_)
  have lp14 : ∀ (fu : Nat) (k : Nat) (H : Heap) (locs : List Loc) (ls : Array Slot), (k ≤ (2 ^ b_n (gatB y x1 bz))) → (2 ^ b_n (gatB y x1 bz)) - k < fu → va_P D vwCl (YW ct a y (KR a b rs (BW ct a d (b_w (gatB y (x1) bz), b_n (gatB y (x1) bz), (zrL (b_lo (gatB y x1 bz)) k), (zrL (b_mi (gatB y x1 bz)) k), (zrL (b_hi (gatB y x1 bz)) k)) R))) H → va_D A (YW ct a y (KR a b rs (BW ct a d (b_w (gatB y (x1) bz), b_n (gatB y (x1) bz), (zrL (b_lo (gatB y x1 bz)) k), (zrL (b_mi (gatB y x1 bz)) k), (zrL (b_hi (gatB y x1 bz)) k)) R))) → va_S A s.heap H locs → lv_has ls 4 [(0, .ref (d 0)), (1, .int (x1)), (2, .int (nI ((2 ^ b_n (gatB y x1 bz))))), (3, .int (nI (k)))] → W p l e rmX1_leastBySets s m args below meth c H locs 0 0 (MQ below (va_Qi (fun r0 (_ : Unit) => r0 = losB (setB (gatB y x1 bz)) (2 ^ b_n (gatB y x1 bz) - 1)) (zB D ct A (fun _ : Unit => YW ct a y (KR a b rs (BW ct a d (setB (gatB y x1 bz)) R)))) A) args s rmX1_leastBySets.cells rmX1_leastBySets.slots A) (F0 m 14 ls []) := by
    intro fu
    induction fu with
    | zero => intro k H locs ls hk hfu; exact absurd hfu (Nat.not_lt_zero _)
    | succ fu ih14 =>
      intro k H locs ls hk hfu hP hD hS hl
      refine lv_iload_n hx hb dX1_leastBySets_14 rfl (lv_at hl 3 rfl) ?_
      refine lv_iload_n hx hb dX1_leastBySets_15 rfl (lv_at hl 2 rfl) ?_
      refine zN_icmp_ge (tgt := 46) hx hb (by omega) (by omega) dX1_leastBySets_16 (by decide) (fun c16_1 => ?_) (fun c16_1 => ?_)
      · skip
        obtain rfl : k = (2 ^ b_n (gatB y x1 bz)) := by omega
        refine lv_aload_n hx hb dX1_leastBySets_46 rfl (lv_at hl 0 rfl) ?_
        refine va_get (ci := 1) (v := .ref (d 2)) hx hb hts h_X1 hown hK hP 16 rfl rfl 3 (by decide) f19 (fun _ h9 => h9) rfl dX1_leastBySets_47 ?_
        refine lv_iconst (v := nI (0)) hx hb dX1_leastBySets_50 (by decide) ?_
        refine lv_lconst (v := 1) hx hb dX1_leastBySets_51 rfl ?_
        refine zLast (n := 64) (f := (zrL (b_lo (gatB y x1 bz)) (2 ^ b_n (gatB y x1 bz)))) (i := 0) hx hb hK hP hD hS 18 rfl (by omega) (by decide) dX1_leastBySets_52 (fun H locs hP hD hS => ?_)
        have hP : va_P D vwCl (YW ct a y (KR a b rs (BW ct a d (b_w (gatB y (x1) bz), b_n (gatB y (x1) bz), (vp_updL ((zrL (b_lo (gatB y x1 bz)) (2 ^ b_n (gatB y x1 bz)))) (0) (1)), (zrL (b_mi (gatB y x1 bz)) (2 ^ b_n (gatB y x1 bz))), (zrL (b_hi (gatB y x1 bz)) (2 ^ b_n (gatB y x1 bz)))) R))) H := hP
        have hD : va_D A (YW ct a y (KR a b rs (BW ct a d (b_w (gatB y (x1) bz), b_n (gatB y (x1) bz), (vp_updL ((zrL (b_lo (gatB y x1 bz)) (2 ^ b_n (gatB y x1 bz)))) (0) (1)), (zrL (b_mi (gatB y x1 bz)) (2 ^ b_n (gatB y x1 bz))), (zrL (b_hi (gatB y x1 bz)) (2 ^ b_n (gatB y x1 bz)))) R))) := hD
        have hP : va_P D vwCl (YW ct a y (KR a b rs (BW ct a d (iniB (gatB y x1 bz) (2 ^ b_n (gatB y x1 bz))) R))) H := hP
        have hD : va_D A (YW ct a y (KR a b rs (BW ct a d (iniB (gatB y x1 bz) (2 ^ b_n (gatB y x1 bz))) R))) := hD
        refine lv_iconst (v := nI (0)) hx hb dX1_leastBySets_53 (by decide) ?_
        refine lv_istore_n (lv' := [(3, .int (nI (0))), (0, .ref (d 0)), (1, .int (x1)), (2, .int (nI ((2 ^ b_n (gatB y x1 bz)))))]) hx hb dX1_leastBySets_54 rfl hl (by decide) rfl (fun ls hl => ?_)
        have lp55 : ∀ (fu : Nat) (k : Nat) (H : Heap) (locs : List Loc) (ls : Array Slot), (k ≤ 6) → 6 - k < fu → va_P D vwCl (YW ct a y (KR a b rs (BW ct a d (plO (2 ^ b_n (gatB y x1 bz)) (iniB (gatB y x1 bz) (2 ^ b_n (gatB y x1 bz))) k) R))) H → va_D A (YW ct a y (KR a b rs (BW ct a d (plO (2 ^ b_n (gatB y x1 bz)) (iniB (gatB y x1 bz) (2 ^ b_n (gatB y x1 bz))) k) R))) → va_S A s.heap H locs → lv_has ls 4 [(0, .ref (d 0)), (1, .int (x1)), (2, .int (nI ((2 ^ b_n (gatB y x1 bz))))), (3, .int (nI (k)))] → W p l e rmX1_leastBySets s m args below meth c H locs 0 0 (MQ below (va_Qi (fun r0 (_ : Unit) => r0 = losB (setB (gatB y x1 bz)) (2 ^ b_n (gatB y x1 bz) - 1)) (zB D ct A (fun _ : Unit => YW ct a y (KR a b rs (BW ct a d (setB (gatB y x1 bz)) R)))) A) args s rmX1_leastBySets.cells rmX1_leastBySets.slots A) (F0 m 55 ls []) := by
          intro fu
          induction fu with
          | zero => intro k H locs ls hk hfu; exact absurd hfu (Nat.not_lt_zero _)
          | succ fu ih55 =>
            intro k H locs ls hk hfu hP hD hS hl
            refine lv_iload_n hx hb dX1_leastBySets_55 rfl (lv_at hl 3 rfl) ?_
            refine lv_bipush (v := nI (6)) hx hb dX1_leastBySets_56 (by decide) ?_
            refine zN_icmp_ge (tgt := 73) hx hb (by omega) (by omega) dX1_leastBySets_58 (by decide) (fun c58_2 => ?_) (fun c58_2 => ?_)
            · skip
              obtain rfl : k = 6 := by omega
              have hP : va_P D vwCl (YW ct a y (KR a b rs (BW ct a d (setB (gatB y x1 bz)) R))) H := hP
              have hD : va_D A (YW ct a y (KR a b rs (BW ct a d (setB (gatB y x1 bz)) R))) := hD
              refine lv_aload_n hx hb dX1_leastBySets_73 rfl (lv_at hl 0 rfl) ?_
              refine lv_iload_n hx hb dX1_leastBySets_74 rfl (lv_at hl 2 rfl) ?_
              refine lv_iconst (v := nI (1)) hx hb dX1_leastBySets_75 (by decide) ?_
              refine zNsub hx hb (by omega) dX1_leastBySets_76 ?_
              refine zVI [.int (nI (((2 ^ b_n (gatB y x1 bz)) - 1)))] [] (kX1_leastOfSums (a) (y) (b) (rs) (d) ((setB (gatB y x1 bz))) (R) (((2 ^ b_n (gatB y x1 bz)) - 1)) (show (((2 ^ b_n (gatB y x1 bz)) - 1)) < 64 from (by omega)) (show (b_n (setB (gatB y x1 bz))) ≤ 6 from (by show b_n (plO _ _ 6) ≤ 6; rw [plO_n]; exact cGn_6 y x1 (y_n y)))) hx hb hml hown hts (cwV 1 hts gX1_leastBySets_X1_leastOfSums rfl rfl rfl (by decide +kernel) ⟨(Nat.le_of_ble_eq_true rfl), (Nat.le_of_ble_eq_true rfl)⟩) hK hP hD hS hA (va_recv hK hP (ci := 1) (q0 := 16) rfl rfl) rfl hl.1 rfl (Nat.le_of_ble_eq_true rfl) dX1_leastBySets_77 ⟨(Nat.le_of_ble_eq_true rfl), (Nat.le_of_ble_eq_true rfl)⟩ (fun r_77 _ H locs hr_77 hP hD hS => ?_)
              subst hr_77
              have hP : va_P D vwCl (YW ct a y (KR a b rs (BW ct a d (setB (gatB y x1 bz)) R))) H := hP
              have hD : va_D A (YW ct a y (KR a b rs (BW ct a d (setB (gatB y x1 bz)) R))) := hD
              exact zIret () hx hb hr hlocks hK hP hD hS dX1_leastBySets_80 (show (losB (setB (gatB y x1 bz)) (((2 ^ b_n (gatB y x1 bz)) - 1))) = losB (setB (gatB y x1 bz)) (2 ^ b_n (gatB y x1 bz) - 1) from rfl)
            · skip
              refine lv_aload_n hx hb dX1_leastBySets_61 rfl (lv_at hl 0 rfl) ?_
              refine lv_iload_n hx hb dX1_leastBySets_62 rfl (lv_at hl 3 rfl) ?_
              refine lv_iload_n hx hb dX1_leastBySets_63 rfl (lv_at hl 2 rfl) ?_
              refine zVV [.int (nI (k)), .int (nI ((2 ^ b_n (gatB y x1 bz))))] [] (kX1_addPlace (a) (y) (b) (rs) (d) ((plO (2 ^ b_n (gatB y x1 bz)) (iniB (gatB y x1 bz) (2 ^ b_n (gatB y x1 bz))) k)) (R) (k) ((2 ^ b_n (gatB y x1 bz))) (show wB (plO (2 ^ b_n (gatB y x1 bz)) (iniB (gatB y x1 bz) (2 ^ b_n (gatB y x1 bz))) k) from (by unfold wB; rw [plO_w, plO_n]; exact hw9)) (show (k) < 6 from (by omega)) (show 1 ≤ ((2 ^ b_n (gatB y x1 bz))) from h21) (show ((2 ^ b_n (gatB y x1 bz))) ≤ 64 from h22)) hx hb hml hown hts (cwV 2 hts gX1_leastBySets_X1_addPlace rfl rfl rfl (by decide +kernel) ⟨(Nat.le_of_ble_eq_true rfl), (Nat.le_of_ble_eq_true rfl)⟩) hK hP hD hS hA (va_recv hK hP (ci := 1) (q0 := 16) rfl rfl) rfl hl.1 rfl (Nat.le_of_ble_eq_true rfl) dX1_leastBySets_64 ⟨(Nat.le_of_ble_eq_true rfl), (Nat.le_of_ble_eq_true rfl)⟩ (fun _ H locs hr_64 hP hD hS => ?_)
              have hP : va_P D vwCl (YW ct a y (KR a b rs (BW ct a d (apO (k) (((2 ^ b_n (gatB y x1 bz))) - 1) (plO (2 ^ b_n (gatB y x1 bz)) (iniB (gatB y x1 bz) (2 ^ b_n (gatB y x1 bz))) k)) R))) H := hP
              have hD : va_D A (YW ct a y (KR a b rs (BW ct a d (apO (k) (((2 ^ b_n (gatB y x1 bz))) - 1) (plO (2 ^ b_n (gatB y x1 bz)) (iniB (gatB y x1 bz) (2 ^ b_n (gatB y x1 bz))) k)) R))) := hD
              refine lv_iinc (v := nI ((k + 1))) (lv' := [(3, .int (nI ((k + 1)))), (0, .ref (d 0)), (1, .int (x1)), (2, .int (nI ((2 ^ b_n (gatB y x1 bz)))))]) hx hb dX1_leastBySets_67 hl (k := 3) rfl (zInc _) (by decide) rfl (fun ls hl => ?_)
              refine lv_goto (tgt := 55) hx hb dX1_leastBySets_70 (by decide) ?_
              exact ih55 ((k + 1)) H locs ls (by omega) (by omega) hP hD hS (lv_sub hl [1, 2, 3, 0] rfl)
        have hP : va_P D vwCl (YW ct a y (KR a b rs (BW ct a d (plO (2 ^ b_n (gatB y x1 bz)) (iniB (gatB y x1 bz) (2 ^ b_n (gatB y x1 bz))) (0)) R))) H := by rw [show plO (2 ^ b_n (gatB y x1 bz)) (iniB (gatB y x1 bz) (2 ^ b_n (gatB y x1 bz))) 0 = iniB (gatB y x1 bz) (2 ^ b_n (gatB y x1 bz)) from rfl]; exact hP
        have hD : va_D A (YW ct a y (KR a b rs (BW ct a d (plO (2 ^ b_n (gatB y x1 bz)) (iniB (gatB y x1 bz) (2 ^ b_n (gatB y x1 bz))) (0)) R))) := by rw [show plO (2 ^ b_n (gatB y x1 bz)) (iniB (gatB y x1 bz) (2 ^ b_n (gatB y x1 bz))) 0 = iniB (gatB y x1 bz) (2 ^ b_n (gatB y x1 bz)) from rfl]; exact hD
        exact lp55 ((6 - (0)) + 1) (0) H locs ls (by omega) (Nat.lt_succ_self _) hP hD hS (lv_sub hl [1, 2, 3, 0] rfl)
      · skip
        refine lv_aload_n hx hb dX1_leastBySets_19 rfl (lv_at hl 0 rfl) ?_
        refine va_get (ci := 1) (v := .ref (d 2)) hx hb hts h_X1 hown hK hP 16 rfl rfl 3 (by decide) f19 (fun _ h9 => h9) rfl dX1_leastBySets_20 ?_
        refine lv_iload_n hx hb dX1_leastBySets_23 rfl (lv_at hl 3 rfl) ?_
        refine lv_lconst (v := 0) hx hb dX1_leastBySets_24 rfl ?_
        refine zLast (n := 64) (f := (zrL (b_lo (gatB y x1 bz)) k)) (i := k) hx hb hK hP hD hS 18 rfl (by omega) (by decide) dX1_leastBySets_25 (fun H locs hP hD hS => ?_)
        have hP : va_P D vwCl (YW ct a y (KR a b rs (BW ct a d (b_w (gatB y (x1) bz), b_n (gatB y (x1) bz), (vp_updL ((zrL (b_lo (gatB y x1 bz)) k)) (k) (0)), (zrL (b_mi (gatB y x1 bz)) k), (zrL (b_hi (gatB y x1 bz)) k)) R))) H := hP
        have hD : va_D A (YW ct a y (KR a b rs (BW ct a d (b_w (gatB y (x1) bz), b_n (gatB y (x1) bz), (vp_updL ((zrL (b_lo (gatB y x1 bz)) k)) (k) (0)), (zrL (b_mi (gatB y x1 bz)) k), (zrL (b_hi (gatB y x1 bz)) k)) R))) := hD
        refine lv_aload_n hx hb dX1_leastBySets_26 rfl (lv_at hl 0 rfl) ?_
        refine va_get (ci := 1) (v := .ref (d 3)) hx hb hts h_X1 hown hK hP 16 rfl rfl 4 (by decide) f23 (fun _ h9 => h9) rfl dX1_leastBySets_27 ?_
        refine lv_iload_n hx hb dX1_leastBySets_30 rfl (lv_at hl 3 rfl) ?_
        refine lv_lconst (v := 0) hx hb dX1_leastBySets_31 rfl ?_
        refine zLast (n := 64) (f := (zrL (b_mi (gatB y x1 bz)) k)) (i := k) hx hb hK hP hD hS 19 rfl (by omega) (by decide) dX1_leastBySets_32 (fun H locs hP hD hS => ?_)
        have hP : va_P D vwCl (YW ct a y (KR a b rs (BW ct a d (b_w (gatB y (x1) bz), b_n (gatB y (x1) bz), (vp_updL ((zrL (b_lo (gatB y x1 bz)) k)) (k) (0)), (vp_updL ((zrL (b_mi (gatB y x1 bz)) k)) (k) (0)), (zrL (b_hi (gatB y x1 bz)) k)) R))) H := hP
        have hD : va_D A (YW ct a y (KR a b rs (BW ct a d (b_w (gatB y (x1) bz), b_n (gatB y (x1) bz), (vp_updL ((zrL (b_lo (gatB y x1 bz)) k)) (k) (0)), (vp_updL ((zrL (b_mi (gatB y x1 bz)) k)) (k) (0)), (zrL (b_hi (gatB y x1 bz)) k)) R))) := hD
        refine lv_aload_n hx hb dX1_leastBySets_33 rfl (lv_at hl 0 rfl) ?_
        refine va_get (ci := 1) (v := .ref (d 4)) hx hb hts h_X1 hown hK hP 16 rfl rfl 5 (by decide) f26 (fun _ h9 => h9) rfl dX1_leastBySets_34 ?_
        refine lv_iload_n hx hb dX1_leastBySets_37 rfl (lv_at hl 3 rfl) ?_
        refine lv_lconst (v := 0) hx hb dX1_leastBySets_38 rfl ?_
        refine zLast (n := 64) (f := (zrL (b_hi (gatB y x1 bz)) k)) (i := k) hx hb hK hP hD hS 20 rfl (by omega) (by decide) dX1_leastBySets_39 (fun H locs hP hD hS => ?_)
        have hP : va_P D vwCl (YW ct a y (KR a b rs (BW ct a d (b_w (gatB y (x1) bz), b_n (gatB y (x1) bz), (vp_updL ((zrL (b_lo (gatB y x1 bz)) k)) (k) (0)), (vp_updL ((zrL (b_mi (gatB y x1 bz)) k)) (k) (0)), (vp_updL ((zrL (b_hi (gatB y x1 bz)) k)) (k) (0))) R))) H := hP
        have hD : va_D A (YW ct a y (KR a b rs (BW ct a d (b_w (gatB y (x1) bz), b_n (gatB y (x1) bz), (vp_updL ((zrL (b_lo (gatB y x1 bz)) k)) (k) (0)), (vp_updL ((zrL (b_mi (gatB y x1 bz)) k)) (k) (0)), (vp_updL ((zrL (b_hi (gatB y x1 bz)) k)) (k) (0))) R))) := hD
        refine lv_iinc (v := nI ((k + 1))) (lv' := [(3, .int (nI ((k + 1)))), (0, .ref (d 0)), (1, .int (x1)), (2, .int (nI ((2 ^ b_n (gatB y x1 bz)))))]) hx hb dX1_leastBySets_40 hl (k := 3) rfl (zInc _) (by decide) rfl (fun ls hl => ?_)
        refine lv_goto (tgt := 14) hx hb dX1_leastBySets_43 (by decide) ?_
        have hP : va_P D vwCl (YW ct a y (KR a b rs (BW ct a d (b_w (gatB y (x1) bz), b_n (gatB y (x1) bz), (zrL (b_lo (gatB y x1 bz)) (k + 1)), (zrL (b_mi (gatB y x1 bz)) (k + 1)), (zrL (b_hi (gatB y x1 bz)) (k + 1))) R))) H := by rw [← zrL_s, ← zrL_s, ← zrL_s]; exact hP
        have hD : va_D A (YW ct a y (KR a b rs (BW ct a d (b_w (gatB y (x1) bz), b_n (gatB y (x1) bz), (zrL (b_lo (gatB y x1 bz)) (k + 1)), (zrL (b_mi (gatB y x1 bz)) (k + 1)), (zrL (b_hi (gatB y x1 bz)) (k + 1))) R))) := by rw [← zrL_s, ← zrL_s, ← zrL_s]; exact hD
        exact ih14 ((k + 1)) H locs ls (by omega) (by omega) hP hD hS (lv_sub hl [1, 2, 3, 0] rfl)
  have hP : va_P D vwCl (YW ct a y (KR a b rs (BW ct a d (b_w (gatB y (x1) bz), b_n (gatB y (x1) bz), (zrL (b_lo (gatB y x1 bz)) (0)), (zrL (b_mi (gatB y x1 bz)) (0)), (zrL (b_hi (gatB y x1 bz)) (0))) R))) H := by rw [zrL_0, zrL_0, zrL_0]; exact hP
  have hD : va_D A (YW ct a y (KR a b rs (BW ct a d (b_w (gatB y (x1) bz), b_n (gatB y (x1) bz), (zrL (b_lo (gatB y x1 bz)) (0)), (zrL (b_mi (gatB y x1 bz)) (0)), (zrL (b_hi (gatB y x1 bz)) (0))) R))) := by rw [zrL_0, zrL_0, zrL_0]; exact hD
  exact lp14 (((2 ^ b_n (gatB y x1 bz)) - (0)) + 1) (0) H locs ls (by omega) (Nat.lt_succ_self _) hP hD hS (lv_sub hl [2, 3, 1, 0] rfl)
