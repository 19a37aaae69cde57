/-! SCALE, REASONS -/
abbrev rmX7_tenthsByThings : Room := { frames := 0, cells := 0, slots := 0, locals := 0 }
theorem in_X7_tenthsByThings_X7 : ∀ w ∈ u_ws RX7 TX7 1, w ∈ wsX7_tenthsByThings := by decide +kernel
theorem in_X7_tenthsByThings_X9 : ∀ w ∈ u_ws RX9 TX9 16, w ∈ wsX7_tenthsByThings := by decide +kernel
set_option maxHeartbeats 4000000 in
set_option maxRecDepth 100000 in
theorem kX7_tenthsByThings {D : va_G} {ct : Nat → ClassId} {l : Launch} (a : Nat → Nat) (y : YS) (b : Nat → Nat) (rs : RS) (R : va_W) (x1 : Int32) (x2 : Int32) (hn : y_n y ≤ 12) (hkd : ∀ j9, j9 < y_n y → y_kd y j9 = nI 0 ∨ y_kd y j9 = nI 1) : MI D ct l yX7_tenthsByThings wsX7_tenthsByThings rmX7_tenthsByThings (YW ct a y (KR a b rs R)) [.ref (b 0), .int (x1), .int (x2)] (fun r0 (_ : Unit) => r0 = t_te y x1 x2) (fun _ : Unit => YW ct a y (KR a b rs R)) := by
  refine MIof (cc := cX7_tenthsByThings) (maxL := 6) (ret := (some .int)) (by decide) rfl (Nat.le_of_ble_eq_true rfl) ?_
  intro p e s m args below meth c A H locs F hP hK hD hS hA ls hl
  obtain ⟨hx, hb, hr, hlocks, hml, hown, hts, hin⟩ := F
  have hl : lv_has ls 6 [(0, .ref (b 0)), (1, .int (x1)), (2, .int (x2))] := hl
  have h_X7 := in_X7_tenthsByThings_X7
  have h_X9 := in_X7_tenthsByThings_X9
  have f9 := hts (.fieldLink RX7 9 "CartArguments$Scale" "yard" "LCartArguments$Yard;") (by decide +kernel)
  have f15 := hts (.fieldLink RX7 15 "CartArguments$Yard" "things" "I") (by decide +kernel)
  have f21 := hts (.fieldLink RX7 21 "CartArguments$Yard" "cartsUnder" "[I") (by decide +kernel)
  have f25 := hts (.fieldLink RX7 25 "CartArguments$Yard" "kinds" "[I") (by decide +kernel)
  have f28 := hts (.fieldLink RX7 28 "CartArguments$Yard" "places" "[I") (by decide +kernel)
  have f31 := hts (.fieldLink RX7 31 "CartArguments$Yard" "weights" "[I") (by decide +kernel)
  refine lv_iconst (v := nI (0)) hx hb dX7_tenthsByThings_0 (by decide) ?_
  refine lv_istore_n (lv' := [(3, .int (nI (0))), (0, .ref (b 0)), (1, .int (x1)), (2, .int (x2))]) hx hb dX7_tenthsByThings_1 rfl hl (by decide) rfl (fun ls hl => ?_)
  refine lv_iconst (v := nI (0)) hx hb dX7_tenthsByThings_2 (by decide) ?_
  refine lv_istore (lv' := [(4, .int (nI (0))), (3, .int (nI (0))), (0, .ref (b 0)), (1, .int (x1)), (2, .int (x2))]) hx hb dX7_tenthsByThings_3 hl (by decide) rfl (fun ls hl => ?_)
  have lp5 : ∀ (fu : Nat) (k : Nat) (acc : Int32) (H : Heap) (locs : List Loc) (ls : Array Slot), (k ≤ y_n y) → (acc = sI (fun k => if y_cu y k = x1 then t_tt y k x2 else 0) k) → y_n y - k < fu → va_P D vwCl (YW ct a y (KR a b rs R)) H → va_D A (YW ct a y (KR a b rs R)) → va_S A s.heap H locs → lv_has ls 6 [(0, .ref (b 0)), (1, .int (x1)), (2, .int (x2)), (3, .int (acc)), (4, .int (nI (k)))] → W p l e rmX7_tenthsByThings s m args below meth c H locs 0 0 (MQ below (va_Qi (fun r0 (_ : Unit) => r0 = t_te y x1 x2) (zB D ct A (fun _ : Unit => YW ct a y (KR a b rs R))) A) args s rmX7_tenthsByThings.cells rmX7_tenthsByThings.slots A) (F0 m 5 ls []) := by
    intro fu
    induction fu with
    | zero => intro k acc H locs ls hk hacc hfu; exact absurd hfu (Nat.not_lt_zero _)
    | succ fu ih5 =>
      intro k acc H locs ls hk hacc hfu hP hD hS hl
      refine lv_iload hx hb dX7_tenthsByThings_5 (lv_at hl 4 rfl) ?_
      refine lv_aload_n hx hb dX7_tenthsByThings_7 rfl (lv_at hl 0 rfl) ?_
      refine va_get (ci := 6) (v := .ref (a 0)) hx hb hts h_X7 hown hK hP 12 rfl rfl 0 (by decide) f9 (fun _ h9 => h9) rfl dX7_tenthsByThings_8 ?_
      refine va_get (ci := 8) (v := .int (nI (y_n y))) hx hb hts h_X9 hown hK hP 0 rfl rfl 0 (by decide) f15 (fun _ h9 => h9) rfl dX7_tenthsByThings_11 ?_
      refine zN_icmp_ge (tgt := 102) hx hb (by omega) (by omega) dX7_tenthsByThings_14 (by decide) (fun c14_1 => ?_) (fun c14_1 => ?_)
      · skip
        refine lv_iload_n hx hb dX7_tenthsByThings_102 rfl (lv_at hl 3 rfl) ?_
        exact zIret () hx hb hr hlocks hK hP hD hS dX7_tenthsByThings_103 (show acc = t_te y x1 x2 from (by rw [hacc, t_te]; congr 1; omega))
      · skip
        refine lv_aload_n hx hb dX7_tenthsByThings_17 rfl (lv_at hl 0 rfl) ?_
        refine va_get (ci := 6) (v := .ref (a 0)) hx hb hts h_X7 hown hK hP 12 rfl rfl 0 (by decide) f9 (fun _ h9 => h9) rfl dX7_tenthsByThings_18 ?_
        refine va_get (ci := 8) (v := .ref (a 3)) hx hb hts h_X9 hown hK hP 0 rfl rfl 3 (by decide) f21 (fun _ h9 => h9) rfl dX7_tenthsByThings_21 ?_
        refine lv_iload hx hb dX7_tenthsByThings_24 (lv_at hl 4 rfl) ?_
        refine zIald (n := 12) (f := y_cu y) (i := k) hx hb hK hP 3 rfl (by omega) (by decide) dX7_tenthsByThings_26 ?_
        refine lv_iload_n hx hb dX7_tenthsByThings_27 rfl (lv_at hl 1 rfl) ?_
        refine lv_icmp_ne (tgt := 96) hx hb dX7_tenthsByThings_28 (by decide) (fun c28_2 => ?_) (fun c28_2 => ?_)
        · skip
          refine lv_iinc (v := nI ((k + 1))) (lv' := [(4, .int (nI ((k + 1)))), (0, .ref (b 0)), (1, .int (x1)), (2, .int (x2)), (3, .int (acc))]) hx hb dX7_tenthsByThings_96 hl (k := 4) rfl (zInc _) (by decide) rfl (fun ls hl => ?_)
          refine lv_goto (tgt := 5) hx hb dX7_tenthsByThings_99 (by decide) ?_
          exact ih5 ((k + 1)) (acc) H locs ls (by omega) (by have q9 := tt_z (z := x2) (hkd k (by omega)); simp only [sI, hacc, q9, c14_1, c28_2, p_in, p_worn, p_wi, p_creak, p_over, p_le0, p_lt1, not_true_eq_false, not_false_eq_true, if_true, if_false, and_true, true_and, and_false, false_and, or_true, true_or, or_false, false_or, and_self, or_self, iff_true, true_iff, iff_false, false_iff, decide_eq_true_eq, decide_true, decide_false, Int32.add_zero, Nat.add_zero, ne_eq, Bool.false_eq_true, eq_self]) (by omega) hP hD hS (lv_sub hl [1, 2, 3, 4, 0] rfl)
        · skip
          refine lv_iconst (v := nI (5)) hx hb dX7_tenthsByThings_31 (by decide) ?_
          refine lv_istore (lv' := [(5, .int (nI (5))), (0, .ref (b 0)), (1, .int (x1)), (2, .int (x2)), (3, .int (acc)), (4, .int (nI (k)))]) hx hb dX7_tenthsByThings_32 hl (by decide) rfl (fun ls hl => ?_)
          refine lv_aload_n hx hb dX7_tenthsByThings_34 rfl (lv_at hl 1 rfl) ?_
          refine va_get (ci := 6) (v := .ref (a 0)) hx hb hts h_X7 hown hK hP 12 rfl rfl 0 (by decide) f9 (fun _ h9 => h9) rfl dX7_tenthsByThings_35 ?_
          refine va_get (ci := 8) (v := .ref (a 1)) hx hb hts h_X9 hown hK hP 0 rfl rfl 1 (by decide) f25 (fun _ h9 => h9) rfl dX7_tenthsByThings_38 ?_
          refine lv_iload hx hb dX7_tenthsByThings_41 (lv_at hl 5 rfl) ?_
          refine zIald (n := 12) (f := y_kd y) (i := k) hx hb hK hP 1 rfl (by omega) (by decide) dX7_tenthsByThings_43 ?_
          refine lv_if_ne (tgt := 80) hx hb dX7_tenthsByThings_44 (by decide) (fun c44_3 => ?_) (fun c44_3 => ?_)
          · skip
            refine lv_iload_n hx hb dX7_tenthsByThings_80 rfl (lv_at hl 4 rfl) ?_
            refine lv_aload_n hx hb dX7_tenthsByThings_81 rfl (lv_at hl 1 rfl) ?_
            refine va_get (ci := 6) (v := .ref (a 0)) hx hb hts h_X7 hown hK hP 12 rfl rfl 0 (by decide) f9 (fun _ h9 => h9) rfl dX7_tenthsByThings_82 ?_
            refine va_get (ci := 8) (v := .ref (a 2)) hx hb hts h_X9 hown hK hP 0 rfl rfl 2 (by decide) f31 (fun _ h9 => h9) rfl dX7_tenthsByThings_85 ?_
            refine lv_iload hx hb dX7_tenthsByThings_88 (lv_at hl 5 rfl) ?_
            refine zIald (n := 12) (f := y_w y) (i := k) hx hb hK hP 2 rfl (by omega) (by decide) dX7_tenthsByThings_90 ?_
            refine lv_iload hx hb dX7_tenthsByThings_91 (lv_at hl 0 rfl) ?_
            refine lv_imul hx hb dX7_tenthsByThings_93 ?_
            refine lv_iadd hx hb dX7_tenthsByThings_94 ?_
            refine lv_istore_n (lv' := [(3, .int ((acc + ((y_w y (k)) * nI (5))))), (5, .int (nI (5))), (0, .ref (b 0)), (1, .int (x1)), (2, .int (x2)), (4, .int (nI (k)))]) hx hb dX7_tenthsByThings_95 rfl hl (by decide) rfl (fun ls hl => ?_)
            refine lv_iinc (v := nI ((k + 1))) (lv' := [(4, .int (nI ((k + 1)))), (3, .int ((acc + ((y_w y (k)) * nI (5))))), (5, .int (nI (5))), (0, .ref (b 0)), (1, .int (x1)), (2, .int (x2))]) hx hb dX7_tenthsByThings_96 hl (k := 5) rfl (zInc _) (by decide) rfl (fun ls hl => ?_)
            refine lv_goto (tgt := 5) hx hb dX7_tenthsByThings_99 (by decide) ?_
            exact ih5 ((k + 1)) ((acc + ((y_w y (k)) * nI (5)))) H locs ls (by omega) (by have q9 := tt_z (z := x2) (hkd k (by omega)); simp only [sI, hacc, q9, c14_1, eq_true c28_2, c44_3, p_in, p_worn, p_wi, p_creak, p_over, p_le0, p_lt1, not_true_eq_false, not_false_eq_true, if_true, if_false, and_true, true_and, and_false, false_and, or_true, true_or, or_false, false_or, and_self, or_self, iff_true, true_iff, iff_false, false_iff, decide_eq_true_eq, decide_true, decide_false, Int32.add_zero, Nat.add_zero, ne_eq, Bool.false_eq_true, eq_self]) (by omega) hP hD hS (lv_sub hl [3, 4, 5, 1, 0] rfl)
          · skip
            refine lv_iconst (v := nI (2)) hx hb dX7_tenthsByThings_47 (by decide) ?_
            refine lv_iload_n hx hb dX7_tenthsByThings_48 rfl (lv_at hl 3 rfl) ?_
            refine lv_if_eq (tgt := 65) hx hb dX7_tenthsByThings_49 (by decide) (fun c49_4 => ?_) (fun c49_4 => ?_)
            · skip
              refine lv_iconst (v := nI (5)) hx hb dX7_tenthsByThings_65 (by decide) ?_
              refine lv_aload_n hx hb dX7_tenthsByThings_66 rfl (lv_at hl 1 rfl) ?_
              refine va_get (ci := 6) (v := .ref (a 0)) hx hb hts h_X7 hown hK hP 12 rfl rfl 0 (by decide) f9 (fun _ h9 => h9) rfl dX7_tenthsByThings_67 ?_
              refine va_get (ci := 8) (v := .ref (a 4)) hx hb hts h_X9 hown hK hP 0 rfl rfl 4 (by decide) f28 (fun _ h9 => h9) rfl dX7_tenthsByThings_70 ?_
              refine lv_iload hx hb dX7_tenthsByThings_73 (lv_at hl 5 rfl) ?_
              refine zIald (n := 12) (f := y_pl y) (i := k) hx hb hK hP 4 rfl (by omega) (by decide) dX7_tenthsByThings_75 ?_
              refine lv_isub hx hb dX7_tenthsByThings_76 ?_
              refine lv_imul hx hb dX7_tenthsByThings_77 ?_
              refine lv_istore (lv' := [(5, .int ((nI (2) * (nI (5) - (y_pl y (k)))))), (0, .ref (b 0)), (1, .int (x1)), (2, .int (x2)), (3, .int (acc)), (4, .int (nI (k)))]) hx hb dX7_tenthsByThings_78 hl (by decide) rfl (fun ls hl => ?_)
              refine lv_iload_n hx hb dX7_tenthsByThings_80 rfl (lv_at hl 4 rfl) ?_
              refine lv_aload_n hx hb dX7_tenthsByThings_81 rfl (lv_at hl 1 rfl) ?_
              refine va_get (ci := 6) (v := .ref (a 0)) hx hb hts h_X7 hown hK hP 12 rfl rfl 0 (by decide) f9 (fun _ h9 => h9) rfl dX7_tenthsByThings_82 ?_
              refine va_get (ci := 8) (v := .ref (a 2)) hx hb hts h_X9 hown hK hP 0 rfl rfl 2 (by decide) f31 (fun _ h9 => h9) rfl dX7_tenthsByThings_85 ?_
              refine lv_iload hx hb dX7_tenthsByThings_88 (lv_at hl 5 rfl) ?_
              refine zIald (n := 12) (f := y_w y) (i := k) hx hb hK hP 2 rfl (by omega) (by decide) dX7_tenthsByThings_90 ?_
              refine lv_iload hx hb dX7_tenthsByThings_91 (lv_at hl 0 rfl) ?_
              refine lv_imul hx hb dX7_tenthsByThings_93 ?_
              refine lv_iadd hx hb dX7_tenthsByThings_94 ?_
              refine lv_istore_n (lv' := [(3, .int ((acc + ((y_w y (k)) * (nI (2) * (nI (5) - (y_pl y (k)))))))), (5, .int ((nI (2) * (nI (5) - (y_pl y (k)))))), (0, .ref (b 0)), (1, .int (x1)), (2, .int (x2)), (4, .int (nI (k)))]) hx hb dX7_tenthsByThings_95 rfl hl (by decide) rfl (fun ls hl => ?_)
              refine lv_iinc (v := nI ((k + 1))) (lv' := [(4, .int (nI ((k + 1)))), (3, .int ((acc + ((y_w y (k)) * (nI (2) * (nI (5) - (y_pl y (k)))))))), (5, .int ((nI (2) * (nI (5) - (y_pl y (k)))))), (0, .ref (b 0)), (1, .int (x1)), (2, .int (x2))]) hx hb dX7_tenthsByThings_96 hl (k := 5) rfl (zInc _) (by decide) rfl (fun ls hl => ?_)
              refine lv_goto (tgt := 5) hx hb dX7_tenthsByThings_99 (by decide) ?_
              exact ih5 ((k + 1)) ((acc + ((y_w y (k)) * (nI (2) * (nI (5) - (y_pl y (k))))))) H locs ls (by omega) (by have q9 := tt_z (z := x2) (hkd k (by omega)); simp only [sI, hacc, q9, c14_1, eq_true c28_2, eq_true c44_3, eq_true c49_4, p_in, p_worn, p_wi, p_creak, p_over, p_le0, p_lt1, not_true_eq_false, not_false_eq_true, if_true, if_false, and_true, true_and, and_false, false_and, or_true, true_or, or_false, false_or, and_self, or_self, iff_true, true_iff, iff_false, false_iff, decide_eq_true_eq, decide_true, decide_false, Int32.add_zero, Nat.add_zero, ne_eq, Bool.false_eq_true, eq_self]) (by omega) hP hD hS (lv_sub hl [3, 4, 5, 1, 0] rfl)
            · skip
              refine lv_aload_n hx hb dX7_tenthsByThings_52 rfl (lv_at hl 1 rfl) ?_
              refine va_get (ci := 6) (v := .ref (a 0)) hx hb hts h_X7 hown hK hP 12 rfl rfl 0 (by decide) f9 (fun _ h9 => h9) rfl dX7_tenthsByThings_53 ?_
              refine va_get (ci := 8) (v := .ref (a 4)) hx hb hts h_X9 hown hK hP 0 rfl rfl 4 (by decide) f28 (fun _ h9 => h9) rfl dX7_tenthsByThings_56 ?_
              refine lv_iload hx hb dX7_tenthsByThings_59 (lv_at hl 5 rfl) ?_
              refine zIald (n := 12) (f := y_pl y) (i := k) hx hb hK hP 4 rfl (by omega) (by decide) dX7_tenthsByThings_61 ?_
              refine lv_goto (tgt := 77) hx hb dX7_tenthsByThings_62 (by decide) ?_
              refine lv_imul hx hb dX7_tenthsByThings_77 ?_
              refine lv_istore (lv' := [(5, .int ((nI (2) * (y_pl y (k))))), (0, .ref (b 0)), (1, .int (x1)), (2, .int (x2)), (3, .int (acc)), (4, .int (nI (k)))]) hx hb dX7_tenthsByThings_78 hl (by decide) rfl (fun ls hl => ?_)
              refine lv_iload_n hx hb dX7_tenthsByThings_80 rfl (lv_at hl 4 rfl) ?_
              refine lv_aload_n hx hb dX7_tenthsByThings_81 rfl (lv_at hl 1 rfl) ?_
              refine va_get (ci := 6) (v := .ref (a 0)) hx hb hts h_X7 hown hK hP 12 rfl rfl 0 (by decide) f9 (fun _ h9 => h9) rfl dX7_tenthsByThings_82 ?_
              refine va_get (ci := 8) (v := .ref (a 2)) hx hb hts h_X9 hown hK hP 0 rfl rfl 2 (by decide) f31 (fun _ h9 => h9) rfl dX7_tenthsByThings_85 ?_
              refine lv_iload hx hb dX7_tenthsByThings_88 (lv_at hl 5 rfl) ?_
              refine zIald (n := 12) (f := y_w y) (i := k) hx hb hK hP 2 rfl (by omega) (by decide) dX7_tenthsByThings_90 ?_
              refine lv_iload hx hb dX7_tenthsByThings_91 (lv_at hl 0 rfl) ?_
              refine lv_imul hx hb dX7_tenthsByThings_93 ?_
              refine lv_iadd hx hb dX7_tenthsByThings_94 ?_
              refine lv_istore_n (lv' := [(3, .int ((acc + ((y_w y (k)) * (nI (2) * (y_pl y (k))))))), (5, .int ((nI (2) * (y_pl y (k))))), (0, .ref (b 0)), (1, .int (x1)), (2, .int (x2)), (4, .int (nI (k)))]) hx hb dX7_tenthsByThings_95 rfl hl (by decide) rfl (fun ls hl => ?_)
              refine lv_iinc (v := nI ((k + 1))) (lv' := [(4, .int (nI ((k + 1)))), (3, .int ((acc + ((y_w y (k)) * (nI (2) * (y_pl y (k))))))), (5, .int ((nI (2) * (y_pl y (k))))), (0, .ref (b 0)), (1, .int (x1)), (2, .int (x2))]) hx hb dX7_tenthsByThings_96 hl (k := 5) rfl (zInc _) (by decide) rfl (fun ls hl => ?_)
              refine lv_goto (tgt := 5) hx hb dX7_tenthsByThings_99 (by decide) ?_
              exact ih5 ((k + 1)) ((acc + ((y_w y (k)) * (nI (2) * (y_pl y (k)))))) H locs ls (by omega) (by have q9 := tt_z (z := x2) (hkd k (by omega)); simp only [sI, hacc, q9, c14_1, eq_true c28_2, eq_true c44_3, c49_4, p_in, p_worn, p_wi, p_creak, p_over, p_le0, p_lt1, not_true_eq_false, not_false_eq_true, if_true, if_false, and_true, true_and, and_false, false_and, or_true, true_or, or_false, false_or, and_self, or_self, iff_true, true_iff, iff_false, false_iff, decide_eq_true_eq, decide_true, decide_false, Int32.add_zero, Nat.add_zero, ne_eq, Bool.false_eq_true, eq_self]) (by omega) hP hD hS (lv_sub hl [3, 4, 5, 1, 0] rfl)
  exact lp5 ((y_n y - (0)) + 1) (0) (nI 0) H locs ls (by omega) rfl (Nat.lt_succ_self _) hP hD hS (lv_sub hl [2, 3, 4, 1, 0] rfl)
abbrev rmX7_tenthsByOther : Room := { frames := 2, cells := 0, slots := 0, locals := 45 }
theorem in_X7_tenthsByOther_X7 : ∀ w ∈ u_ws RX7 TX7 1, w ∈ wsX7_tenthsByOther := by decide +kernel
set_option maxHeartbeats 4000000 in
set_option maxRecDepth 100000 in
theorem kX7_tenthsByOther {D : va_G} {ct : Nat → ClassId} {l : Launch} (a : Nat → Nat) (y : YS) (b : Nat → Nat) (rs : RS) (R : va_W) (x1 : Int32) (x2 : Int32) (hn : y_n y ≤ 12) (hkd : ∀ j9, j9 < y_n y → y_kd y j9 = nI 0 ∨ y_kd y j9 = nI 1) : MI D ct l yX7_tenthsByOther wsX7_tenthsByOther rmX7_tenthsByOther (YW ct a y (KR a b rs R)) [.ref (b 0), .int (x1), .int (x2)] (fun r0 (_ : Unit) => r0 = t_to y x1 x2) (fun _ : Unit => YW ct a y (KR a b rs R)) := by
  refine MIof (cc := cX7_tenthsByOther) (maxL := 3) (ret := (some .int)) (by decide) rfl (Nat.le_of_ble_eq_true rfl) ?_
  intro p e s m args below meth c A H locs F hP hK hD hS hA ls hl
  obtain ⟨hx, hb, hr, hlocks, hml, hown, hts, hin⟩ := F
  have hl : lv_has ls 3 [(0, .ref (b 0)), (1, .int (x1)), (2, .int (x2))] := hl
  have h_X7 := in_X7_tenthsByOther_X7
  have f9 := hts (.fieldLink RX7 9 "CartArguments$Scale" "yard" "LCartArguments$Yard;") (by decide +kernel)
  refine lv_bipush (v := nI (10)) hx hb dX7_tenthsByOther_0 (by decide) ?_
  refine lv_aload_n hx hb dX7_tenthsByOther_2 rfl (lv_at hl 0 rfl) ?_
  refine va_get (ci := 6) (v := .ref (a 0)) hx hb hts h_X7 hown hK hP 12 rfl rfl 0 (by decide) f9 (fun _ h9 => h9) rfl dX7_tenthsByOther_3 ?_
  refine lv_iload_n hx hb dX7_tenthsByOther_6 rfl (lv_at hl 1 rfl) ?_
  refine zVI [.int (x1)] [.int (nI (10))] (kX9_weightOfAllOn (a) (y) (KR a b rs R) (x1) (show y_n y ≤ 12 from by omega)) hx hb hml hown hts (cwV 1 hts gX7_tenthsByOther_X9_weightOfAllOn rfl rfl rfl (by decide +kernel) ⟨(Nat.le_of_ble_eq_true rfl), (Nat.le_of_ble_eq_true rfl)⟩) hK hP hD hS hA (va_recv hK hP (ci := 8) (q0 := 0) rfl rfl) rfl hl.1 rfl (Nat.le_of_ble_eq_true rfl) dX7_tenthsByOther_7 ⟨(Nat.le_of_ble_eq_true rfl), (Nat.le_of_ble_eq_true rfl)⟩ (fun r_7 _ H locs hr_7 hP hD hS => ?_)
  subst hr_7
  have hP : va_P D vwCl (YW ct a y (KR a b rs R)) H := hP
  have hD : va_D A (YW ct a y (KR a b rs R)) := hD
  refine lv_imul hx hb dX7_tenthsByOther_10 ?_
  refine lv_aload_n hx hb dX7_tenthsByOther_11 rfl (lv_at hl 0 rfl) ?_
  refine lv_iload_n hx hb dX7_tenthsByOther_12 rfl (lv_at hl 1 rfl) ?_
  refine lv_iload_n hx hb dX7_tenthsByOther_13 rfl (lv_at hl 2 rfl) ?_
  refine lv_if_ne (tgt := 21) hx hb dX7_tenthsByOther_14 (by decide) (fun c14_1 => ?_) (fun c14_1 => ?_)
  · skip
    refine lv_iconst (v := nI (0)) hx hb dX7_tenthsByOther_21 (by decide) ?_
    refine zVI [.int (x1), .int (nI (0))] [.int ((nI (10) * (t_all y (x1))))] (kX7_tenthsByThings (a) (y) (b) (rs) (R) (x1) (nI (0)) (show y_n y ≤ 12 from by omega) (show ∀ j9, j9 < y_n y → y_kd y j9 = nI 0 ∨ y_kd y j9 = nI 1 from hkd)) hx hb hml hown hts (cwV 2 hts gX7_tenthsByOther_X7_tenthsByThings rfl rfl rfl (by decide +kernel) ⟨(Nat.le_of_ble_eq_true rfl), (Nat.le_of_ble_eq_true rfl)⟩) hK hP hD hS hA (va_recv hK hP (ci := 6) (q0 := 12) rfl rfl) rfl hl.1 rfl (Nat.le_of_ble_eq_true rfl) dX7_tenthsByOther_22 ⟨(Nat.le_of_ble_eq_true rfl), (Nat.le_of_ble_eq_true rfl)⟩ (fun r_22 _ H locs hr_22 hP hD hS => ?_)
    subst hr_22
    have hP : va_P D vwCl (YW ct a y (KR a b rs R)) H := hP
    have hD : va_D A (YW ct a y (KR a b rs R)) := hD
    refine lv_isub hx hb dX7_tenthsByOther_25 ?_
    exact zIret () hx hb hr hlocks hK hP hD hS dX7_tenthsByOther_26 (show ((nI (10) * (t_all y (x1))) - (t_te y (x1) (nI (0)))) = t_to y x1 x2 from (by simp only [t_to, c14_1, p_in, p_worn, p_wi, p_creak, p_over, p_le0, p_lt1, not_true_eq_false, not_false_eq_true, if_true, if_false, and_true, true_and, and_false, false_and, or_true, true_or, or_false, false_or, and_self, or_self, iff_true, true_iff, iff_false, false_iff, decide_eq_true_eq, decide_true, decide_false, Int32.add_zero, Nat.add_zero, ne_eq, Bool.false_eq_true, eq_self]))
  · skip
    refine lv_iconst (v := nI (1)) hx hb dX7_tenthsByOther_17 (by decide) ?_
    refine lv_goto (tgt := 22) hx hb dX7_tenthsByOther_18 (by decide) ?_
    refine zVI [.int (x1), .int (nI (1))] [.int ((nI (10) * (t_all y (x1))))] (kX7_tenthsByThings (a) (y) (b) (rs) (R) (x1) (nI (1)) (show y_n y ≤ 12 from by omega) (show ∀ j9, j9 < y_n y → y_kd y j9 = nI 0 ∨ y_kd y j9 = nI 1 from hkd)) hx hb hml hown hts (cwV 2 hts gX7_tenthsByOther_X7_tenthsByThings rfl rfl rfl (by decide +kernel) ⟨(Nat.le_of_ble_eq_true rfl), (Nat.le_of_ble_eq_true rfl)⟩) hK hP hD hS hA (va_recv hK hP (ci := 6) (q0 := 12) rfl rfl) rfl hl.1 rfl (Nat.le_of_ble_eq_true rfl) dX7_tenthsByOther_22 ⟨(Nat.le_of_ble_eq_true rfl), (Nat.le_of_ble_eq_true rfl)⟩ (fun r_22 _ H locs hr_22 hP hD hS => ?_)
    subst hr_22
    have hP : va_P D vwCl (YW ct a y (KR a b rs R)) H := hP
    have hD : va_D A (YW ct a y (KR a b rs R)) := hD
    refine lv_isub hx hb dX7_tenthsByOther_25 ?_
    exact zIret () hx hb hr hlocks hK hP hD hS dX7_tenthsByOther_26 (show ((nI (10) * (t_all y (x1))) - (t_te y (x1) (nI (1)))) = t_to y x1 x2 from (by simp only [t_to, eq_true c14_1, p_in, p_worn, p_wi, p_creak, p_over, p_le0, p_lt1, not_true_eq_false, not_false_eq_true, if_true, if_false, and_true, true_and, and_false, false_and, or_true, true_or, or_false, false_or, and_self, or_self, iff_true, true_iff, iff_false, false_iff, decide_eq_true_eq, decide_true, decide_false, Int32.add_zero, Nat.add_zero, ne_eq, Bool.false_eq_true, eq_self]))
abbrev rmX7_axleLoad : Room := { frames := 1, cells := 0, slots := 0, locals := 25 }
set_option maxHeartbeats 4000000 in
set_option maxRecDepth 100000 in
theorem kX7_axleLoad {D : va_G} {ct : Nat → ClassId} {l : Launch} (a : Nat → Nat) (y : YS) (b : Nat → Nat) (rs : RS) (R : va_W) (k : Nat) (x2 : Int32) (hy : yI y) (hc : k < y_cn y) : MF D ct l yX7_axleLoad wsX7_axleLoad rmX7_axleLoad (YW ct a y (KR a b rs R)) [.ref (b 0), .int (nI (k)), .int (x2)] (fun r0 (_ : Unit) => r0 = t_ld y k x2) (fun _ : Unit => YW ct a y (KR a b rs R)) := by
  refine MFof (cc := cX7_axleLoad) (maxL := 3) (ret := (some .float)) (by decide) rfl (Nat.le_of_ble_eq_true rfl) ?_
  intro p e s m args below meth c A H locs F hP hK hD hS hA ls hl
  obtain ⟨hx, hb, hr, hlocks, hml, hown, hts, hin⟩ := F
  have hl : lv_has ls 3 [(0, .ref (b 0)), (1, .int (nI (k))), (2, .int (x2))] := hl
  have hkd : ∀ j9, j9 < y_n y → y_kd y j9 = nI 0 ∨ y_kd y j9 = nI 1 := fun j9 hj9 => (hy.2.2.2.1 j9 hj9).1
  have hn : y_n y ≤ 12 := hy.1
  have hcn : y_cn y ≤ 4 := hy.2.1
  have hrn : y_rn y ≤ 5 := hy.2.2.1
  refine lv_aload_n hx hb dX7_axleLoad_0 rfl (lv_at hl 0 rfl) ?_
  refine lv_iload_n hx hb dX7_axleLoad_1 rfl (lv_at hl 1 rfl) ?_
  refine lv_iload_n hx hb dX7_axleLoad_2 rfl (lv_at hl 2 rfl) ?_
  refine zVI [.int (nI (k)), .int (x2)] [] (kX7_tenthsByThings (a) (y) (b) (rs) (R) (nI (k)) (x2) (show y_n y ≤ 12 from by omega) (show ∀ j9, j9 < y_n y → y_kd y j9 = nI 0 ∨ y_kd y j9 = nI 1 from hkd)) hx hb hml hown hts (cwV 2 hts gX7_axleLoad_X7_tenthsByThings rfl rfl rfl (by decide +kernel) ⟨(Nat.le_of_ble_eq_true rfl), (Nat.le_of_ble_eq_true rfl)⟩) hK hP hD hS hA (va_recv hK hP (ci := 6) (q0 := 12) rfl rfl) rfl hl.1 rfl (Nat.le_of_ble_eq_true rfl) dX7_axleLoad_3 ⟨(Nat.le_of_ble_eq_true rfl), (Nat.le_of_ble_eq_true rfl)⟩ (fun r_3 _ H locs hr_3 hP hD hS => ?_)
  subst hr_3
  have hP : va_P D vwCl (YW ct a y (KR a b rs R)) H := hP
  have hD : va_D A (YW ct a y (KR a b rs R)) := hD
  refine lv_i2f hx hb dX7_axleLoad_6 ?_
  refine lv_ldcf (v := 1092616192) hx hb hown (hts (.constantFloat RX7 42 (1092616192)) (by decide +kernel)) dX7_axleLoad_7 ?_
  refine lv_fdiv hx hb dX7_axleLoad_9 (nF_n32 (ld_nF hy hc)) ?_
  exact zFret () hx hb hr hlocks hK hP hD hS dX7_axleLoad_10 (show (FP.fdiv (FP.i2f ((t_te y (nI (k)) (x2)))) 1092616192) = t_ld y k x2 from rfl)
abbrev rmX7_isTooMuch : Room := { frames := 0, cells := 0, slots := 0, locals := 0 }
theorem in_X7_isTooMuch_X7 : ∀ w ∈ u_ws RX7 TX7 1, w ∈ wsX7_isTooMuch := by decide +kernel
theorem in_X7_isTooMuch_X9 : ∀ w ∈ u_ws RX9 TX9 16, w ∈ wsX7_isTooMuch := by decide +kernel
set_option maxHeartbeats 4000000 in
set_option maxRecDepth 100000 in
theorem kX7_isTooMuch {D : va_G} {ct : Nat → ClassId} {l : Launch} (a : Nat → Nat) (y : YS) (b : Nat → Nat) (rs : RS) (R : va_W) (k : Nat) (v : UInt32) (hy : yI y) (hc : k < y_cn y) : MI D ct l yX7_isTooMuch wsX7_isTooMuch rmX7_isTooMuch (YW ct a y (KR a b rs R)) [.ref (b 0), .int (nI (k)), .float (v)] (fun r0 (_ : Unit) => r0 = bI (p_over y k v)) (fun _ : Unit => YW ct a y (KR a b rs R)) := by
  refine MIof (cc := cX7_isTooMuch) (maxL := 3) (ret := (some .boolean)) (by decide) rfl (Nat.le_of_ble_eq_true rfl) ?_
  intro p e s m args below meth c A H locs F hP hK hD hS hA ls hl
  obtain ⟨hx, hb, hr, hlocks, hml, hown, hts, hin⟩ := F
  have hl : lv_has ls 3 [(0, .ref (b 0)), (1, .int (nI (k))), (2, .float (v))] := hl
  have hkd : ∀ j9, j9 < y_n y → y_kd y j9 = nI 0 ∨ y_kd y j9 = nI 1 := fun j9 hj9 => (hy.2.2.2.1 j9 hj9).1
  have hn : y_n y ≤ 12 := hy.1
  have hcn : y_cn y ≤ 4 := hy.2.1
  have hrn : y_rn y ≤ 5 := hy.2.2.1
  have h_X7 := in_X7_isTooMuch_X7
  have h_X9 := in_X7_isTooMuch_X9
  have f9 := hts (.fieldLink RX7 9 "CartArguments$Scale" "yard" "LCartArguments$Yard;") (by decide +kernel)
  have f43 := hts (.fieldLink RX7 43 "CartArguments$Yard" "strengths" "[I") (by decide +kernel)
  refine lv_fload_n hx hb dX7_isTooMuch_0 rfl (lv_at hl 2 rfl) ?_
  refine lv_aload_n hx hb dX7_isTooMuch_1 rfl (lv_at hl 0 rfl) ?_
  refine va_get (ci := 6) (v := .ref (a 0)) hx hb hts h_X7 hown hK hP 12 rfl rfl 0 (by decide) f9 (fun _ h9 => h9) rfl dX7_isTooMuch_2 ?_
  refine va_get (ci := 8) (v := .ref (a 5)) hx hb hts h_X9 hown hK hP 0 rfl rfl 6 (by decide) f43 (fun _ h9 => h9) rfl dX7_isTooMuch_5 ?_
  refine lv_iload_n hx hb dX7_isTooMuch_8 rfl (lv_at hl 1 rfl) ?_
  refine zIald (n := 4) (f := y_st y) (i := k) hx hb hK hP 5 rfl (by omega) (by decide) dX7_isTooMuch_9 ?_
  refine lv_i2f hx hb dX7_isTooMuch_10 ?_
  refine lv_fcmp hx hb dX7_isTooMuch_11 ?_
  refine lv_if_le (tgt := 19) hx hb dX7_isTooMuch_12 (by decide) (fun c12_1 => ?_) (fun c12_1 => ?_)
  · skip
    refine lv_iconst (v := nI (0)) hx hb dX7_isTooMuch_19 (by decide) ?_
    exact zZret () (by decide) hx hb hr hlocks hK hP hD hS dX7_isTooMuch_20 (show nI (0) = bI (p_over y k v) from (by simp only [bI, c12_1, p_in, p_worn, p_wi, p_creak, p_over, p_le0, p_lt1, not_true_eq_false, not_false_eq_true, if_true, if_false, and_true, true_and, and_false, false_and, or_true, true_or, or_false, false_or, and_self, or_self, iff_true, true_iff, iff_false, false_iff, decide_eq_true_eq, decide_true, decide_false, Int32.add_zero, Nat.add_zero, ne_eq, Bool.false_eq_true, eq_self]))
  · skip
    refine lv_iconst (v := nI (1)) hx hb dX7_isTooMuch_15 (by decide) ?_
    refine lv_goto (tgt := 20) hx hb dX7_isTooMuch_16 (by decide) ?_
    exact zZret () (by decide) hx hb hr hlocks hK hP hD hS dX7_isTooMuch_20 (show nI (1) = bI (p_over y k v) from (by simp only [bI, c12_1, p_in, p_worn, p_wi, p_creak, p_over, p_le0, p_lt1, not_true_eq_false, not_false_eq_true, if_true, if_false, and_true, true_and, and_false, false_and, or_true, true_or, or_false, false_or, and_self, or_self, iff_true, true_iff, iff_false, false_iff, decide_eq_true_eq, decide_true, decide_false, Int32.add_zero, Nat.add_zero, ne_eq, Bool.false_eq_true, eq_self]))
abbrev rmX7_creakingAxles : Room := { frames := 2, cells := 0, slots := 0, locals := 47 }
set_option maxHeartbeats 4000000 in
set_option maxRecDepth 100000 in
theorem kX7_creakingAxles {D : va_G} {ct : Nat → ClassId} {l : Launch} (a : Nat → Nat) (y : YS) (b : Nat → Nat) (rs : RS) (R : va_W) (k : Nat) (hy : yI y) (hc : k < y_cn y) : MI D ct l yX7_creakingAxles wsX7_creakingAxles rmX7_creakingAxles (YW ct a y (KR a b rs R)) [.ref (b 0), .int (nI (k))] (fun r0 (_ : Unit) => r0 = nI (t_cr y k)) (fun _ : Unit => YW ct a y (KR a b rs R)) := by
  refine MIof (cc := cX7_creakingAxles) (maxL := 2) (ret := (some .int)) (by decide) rfl (Nat.le_of_ble_eq_true rfl) ?_
  intro p e s m args below meth c A H locs F hP hK hD hS hA ls hl
  obtain ⟨hx, hb, hr, hlocks, hml, hown, hts, hin⟩ := F
  have hl : lv_has ls 2 [(0, .ref (b 0)), (1, .int (nI (k)))] := hl
  have hkd : ∀ j9, j9 < y_n y → y_kd y j9 = nI 0 ∨ y_kd y j9 = nI 1 := fun j9 hj9 => (hy.2.2.2.1 j9 hj9).1
  have hn : y_n y ≤ 12 := hy.1
  have hcn : y_cn y ≤ 4 := hy.2.1
  have hrn : y_rn y ≤ 5 := hy.2.2.1
  refine lv_aload_n hx hb dX7_creakingAxles_0 rfl (lv_at hl 0 rfl) ?_
  refine lv_iload_n hx hb dX7_creakingAxles_1 rfl (lv_at hl 1 rfl) ?_
  refine lv_aload_n hx hb dX7_creakingAxles_2 rfl (lv_at hl 0 rfl) ?_
  refine lv_iload_n hx hb dX7_creakingAxles_3 rfl (lv_at hl 1 rfl) ?_
  refine lv_iconst (v := nI (0)) hx hb dX7_creakingAxles_4 (by decide) ?_
  refine zVF [.int (nI (k)), .int (nI (0))] [.int (nI (k)), .ref (b 0)] (kX7_axleLoad (a) (y) (b) (rs) (R) (k) (nI (0)) (show yI y from hy) (show (k) < y_cn y from by omega)) hx hb hml hown hts (cwV 2 hts gX7_creakingAxles_X7_axleLoad rfl rfl rfl (by decide +kernel) ⟨(Nat.le_of_ble_eq_true rfl), (Nat.le_of_ble_eq_true rfl)⟩) hK hP hD hS hA (va_recv hK hP (ci := 6) (q0 := 12) rfl rfl) rfl hl.1 rfl (Nat.le_of_ble_eq_true rfl) dX7_creakingAxles_5 ⟨(Nat.le_of_ble_eq_true rfl), (Nat.le_of_ble_eq_true rfl)⟩ (fun r_5 _ H locs hr_5 hP hD hS => ?_)
  subst hr_5
  have hP : va_P D vwCl (YW ct a y (KR a b rs R)) H := hP
  have hD : va_D A (YW ct a y (KR a b rs R)) := hD
  refine zVI [.int (nI (k)), .float ((t_ld y (k) (nI (0))))] [] (kX7_isTooMuch (a) (y) (b) (rs) (R) (k) ((t_ld y (k) (nI (0)))) (show yI y from hy) (show (k) < y_cn y from by omega)) hx hb hml hown hts (cwV 2 hts gX7_creakingAxles_X7_isTooMuch rfl rfl rfl (by decide +kernel) ⟨(Nat.le_of_ble_eq_true rfl), (Nat.le_of_ble_eq_true rfl)⟩) hK hP hD hS hA (va_recv hK hP (ci := 6) (q0 := 12) rfl rfl) rfl hl.1 rfl (Nat.le_of_ble_eq_true rfl) dX7_creakingAxles_8 ⟨(Nat.le_of_ble_eq_true rfl), (Nat.le_of_ble_eq_true rfl)⟩ (fun r_8 _ H locs hr_8 hP hD hS => ?_)
  subst hr_8
  have hP : va_P D vwCl (YW ct a y (KR a b rs R)) H := hP
  have hD : va_D A (YW ct a y (KR a b rs R)) := hD
  refine zB_if_eq (tgt := 18) hx hb dX7_creakingAxles_11 (by decide) (fun c11_1 => ?_) (fun c11_1 => ?_)
  · skip
    refine lv_iconst (v := nI (0)) hx hb dX7_creakingAxles_18 (by decide) ?_
    refine lv_aload_n hx hb dX7_creakingAxles_19 rfl (lv_at hl 0 rfl) ?_
    refine lv_iload_n hx hb dX7_creakingAxles_20 rfl (lv_at hl 1 rfl) ?_
    refine lv_aload_n hx hb dX7_creakingAxles_21 rfl (lv_at hl 0 rfl) ?_
    refine lv_iload_n hx hb dX7_creakingAxles_22 rfl (lv_at hl 1 rfl) ?_
    refine lv_iconst (v := nI (1)) hx hb dX7_creakingAxles_23 (by decide) ?_
    refine zVF [.int (nI (k)), .int (nI (1))] [.int (nI (k)), .ref (b 0), .int (nI (0))] (kX7_axleLoad (a) (y) (b) (rs) (R) (k) (nI (1)) (show yI y from hy) (show (k) < y_cn y from by omega)) hx hb hml hown hts (cwV 2 hts gX7_creakingAxles_X7_axleLoad rfl rfl rfl (by decide +kernel) ⟨(Nat.le_of_ble_eq_true rfl), (Nat.le_of_ble_eq_true rfl)⟩) hK hP hD hS hA (va_recv hK hP (ci := 6) (q0 := 12) rfl rfl) rfl hl.1 rfl (Nat.le_of_ble_eq_true rfl) dX7_creakingAxles_24 ⟨(Nat.le_of_ble_eq_true rfl), (Nat.le_of_ble_eq_true rfl)⟩ (fun r_24 _ H locs hr_24 hP hD hS => ?_)
    subst hr_24
    have hP : va_P D vwCl (YW ct a y (KR a b rs R)) H := hP
    have hD : va_D A (YW ct a y (KR a b rs R)) := hD
    refine zVI [.int (nI (k)), .float ((t_ld y (k) (nI (1))))] [.int (nI (0))] (kX7_isTooMuch (a) (y) (b) (rs) (R) (k) ((t_ld y (k) (nI (1)))) (show yI y from hy) (show (k) < y_cn y from by omega)) hx hb hml hown hts (cwV 2 hts gX7_creakingAxles_X7_isTooMuch rfl rfl rfl (by decide +kernel) ⟨(Nat.le_of_ble_eq_true rfl), (Nat.le_of_ble_eq_true rfl)⟩) hK hP hD hS hA (va_recv hK hP (ci := 6) (q0 := 12) rfl rfl) rfl hl.1 rfl (Nat.le_of_ble_eq_true rfl) dX7_creakingAxles_27 ⟨(Nat.le_of_ble_eq_true rfl), (Nat.le_of_ble_eq_true rfl)⟩ (fun r_27 _ H locs hr_27 hP hD hS => ?_)
    subst hr_27
    have hP : va_P D vwCl (YW ct a y (KR a b rs R)) H := hP
    have hD : va_D A (YW ct a y (KR a b rs R)) := hD
    refine zB_if_eq (tgt := 37) hx hb dX7_creakingAxles_30 (by decide) (fun c30_2 => ?_) (fun c30_2 => ?_)
    · skip
      refine lv_iconst (v := nI (0)) hx hb dX7_creakingAxles_37 (by decide) ?_
      refine zNadd hx hb dX7_creakingAxles_38 ?_
      exact zIret () hx hb hr hlocks hK hP hD hS dX7_creakingAxles_39 (show nI ((0 + 0)) = nI (t_cr y k) from (by simp only [t_cr, c11_1, c30_2, p_in, p_worn, p_wi, p_creak, p_over, p_le0, p_lt1, not_true_eq_false, not_false_eq_true, if_true, if_false, and_true, true_and, and_false, false_and, or_true, true_or, or_false, false_or, and_self, or_self, iff_true, true_iff, iff_false, false_iff, decide_eq_true_eq, decide_true, decide_false, Int32.add_zero, Nat.add_zero, ne_eq, Bool.false_eq_true, eq_self]))
    · skip
      refine lv_iconst (v := nI (1)) hx hb dX7_creakingAxles_33 (by decide) ?_
      refine lv_goto (tgt := 38) hx hb dX7_creakingAxles_34 (by decide) ?_
      refine zNadd hx hb dX7_creakingAxles_38 ?_
      exact zIret () hx hb hr hlocks hK hP hD hS dX7_creakingAxles_39 (show nI ((0 + 1)) = nI (t_cr y k) from (by simp only [t_cr, c11_1, c30_2, p_in, p_worn, p_wi, p_creak, p_over, p_le0, p_lt1, not_true_eq_false, not_false_eq_true, if_true, if_false, and_true, true_and, and_false, false_and, or_true, true_or, or_false, false_or, and_self, or_self, iff_true, true_iff, iff_false, false_iff, decide_eq_true_eq, decide_true, decide_false, Int32.add_zero, Nat.add_zero, ne_eq, Bool.false_eq_true, eq_self]))
  · skip
    refine lv_iconst (v := nI (1)) hx hb dX7_creakingAxles_14 (by decide) ?_
    refine lv_goto (tgt := 19) hx hb dX7_creakingAxles_15 (by decide) ?_
    refine lv_aload_n hx hb dX7_creakingAxles_19 rfl (lv_at hl 0 rfl) ?_
    refine lv_iload_n hx hb dX7_creakingAxles_20 rfl (lv_at hl 1 rfl) ?_
    refine lv_aload_n hx hb dX7_creakingAxles_21 rfl (lv_at hl 0 rfl) ?_
    refine lv_iload_n hx hb dX7_creakingAxles_22 rfl (lv_at hl 1 rfl) ?_
    refine lv_iconst (v := nI (1)) hx hb dX7_creakingAxles_23 (by decide) ?_
    refine zVF [.int (nI (k)), .int (nI (1))] [.int (nI (k)), .ref (b 0), .int (nI (1))] (kX7_axleLoad (a) (y) (b) (rs) (R) (k) (nI (1)) (show yI y from hy) (show (k) < y_cn y from by omega)) hx hb hml hown hts (cwV 2 hts gX7_creakingAxles_X7_axleLoad rfl rfl rfl (by decide +kernel) ⟨(Nat.le_of_ble_eq_true rfl), (Nat.le_of_ble_eq_true rfl)⟩) hK hP hD hS hA (va_recv hK hP (ci := 6) (q0 := 12) rfl rfl) rfl hl.1 rfl (Nat.le_of_ble_eq_true rfl) dX7_creakingAxles_24 ⟨(Nat.le_of_ble_eq_true rfl), (Nat.le_of_ble_eq_true rfl)⟩ (fun r_24 _ H locs hr_24 hP hD hS => ?_)
    subst hr_24
    have hP : va_P D vwCl (YW ct a y (KR a b rs R)) H := hP
    have hD : va_D A (YW ct a y (KR a b rs R)) := hD
    refine zVI [.int (nI (k)), .float ((t_ld y (k) (nI (1))))] [.int (nI (1))] (kX7_isTooMuch (a) (y) (b) (rs) (R) (k) ((t_ld y (k) (nI (1)))) (show yI y from hy) (show (k) < y_cn y from by omega)) hx hb hml hown hts (cwV 2 hts gX7_creakingAxles_X7_isTooMuch rfl rfl rfl (by decide +kernel) ⟨(Nat.le_of_ble_eq_true rfl), (Nat.le_of_ble_eq_true rfl)⟩) hK hP hD hS hA (va_recv hK hP (ci := 6) (q0 := 12) rfl rfl) rfl hl.1 rfl (Nat.le_of_ble_eq_true rfl) dX7_creakingAxles_27 ⟨(Nat.le_of_ble_eq_true rfl), (Nat.le_of_ble_eq_true rfl)⟩ (fun r_27 _ H locs hr_27 hP hD hS => ?_)
    subst hr_27
    have hP : va_P D vwCl (YW ct a y (KR a b rs R)) H := hP
    have hD : va_D A (YW ct a y (KR a b rs R)) := hD
    refine zB_if_eq (tgt := 37) hx hb dX7_creakingAxles_30 (by decide) (fun c30_3 => ?_) (fun c30_3 => ?_)
    · skip
      refine lv_iconst (v := nI (0)) hx hb dX7_creakingAxles_37 (by decide) ?_
      refine zNadd hx hb dX7_creakingAxles_38 ?_
      exact zIret () hx hb hr hlocks hK hP hD hS dX7_creakingAxles_39 (show nI ((1 + 0)) = nI (t_cr y k) from (by simp only [t_cr, c11_1, c30_3, p_in, p_worn, p_wi, p_creak, p_over, p_le0, p_lt1, not_true_eq_false, not_false_eq_true, if_true, if_false, and_true, true_and, and_false, false_and, or_true, true_or, or_false, false_or, and_self, or_self, iff_true, true_iff, iff_false, false_iff, decide_eq_true_eq, decide_true, decide_false, Int32.add_zero, Nat.add_zero, ne_eq, Bool.false_eq_true, eq_self]))
    · skip
      refine lv_iconst (v := nI (1)) hx hb dX7_creakingAxles_33 (by decide) ?_
      refine lv_goto (tgt := 38) hx hb dX7_creakingAxles_34 (by decide) ?_
      refine zNadd hx hb dX7_creakingAxles_38 ?_
      exact zIret () hx hb hr hlocks hK hP hD hS dX7_creakingAxles_39 (show nI ((1 + 1)) = nI (t_cr y k) from (by simp only [t_cr, c11_1, c30_3, p_in, p_worn, p_wi, p_creak, p_over, p_le0, p_lt1, not_true_eq_false, not_false_eq_true, if_true, if_false, and_true, true_and, and_false, false_and, or_true, true_or, or_false, false_or, and_self, or_self, iff_true, true_iff, iff_false, false_iff, decide_eq_true_eq, decide_true, decide_false, Int32.add_zero, Nat.add_zero, ne_eq, Bool.false_eq_true, eq_self]))
abbrev rmX7_allCreakingAxles : Room := { frames := 3, cells := 0, slots := 0, locals := 68 }
theorem in_X7_allCreakingAxles_X7 : ∀ w ∈ u_ws RX7 TX7 1, w ∈ wsX7_allCreakingAxles := by decide +kernel
theorem in_X7_allCreakingAxles_X9 : ∀ w ∈ u_ws RX9 TX9 16, w ∈ wsX7_allCreakingAxles := by decide +kernel
set_option maxHeartbeats 4000000 in
set_option maxRecDepth 100000 in
theorem kX7_allCreakingAxles {D : va_G} {ct : Nat → ClassId} {l : Launch} (a : Nat → Nat) (y : YS) (b : Nat → Nat) (rs : RS) (R : va_W)  (hy : yI y) : MI D ct l yX7_allCreakingAxles wsX7_allCreakingAxles rmX7_allCreakingAxles (YW ct a y (KR a b rs R)) [.ref (b 0)] (fun r0 (_ : Unit) => r0 = nI (t_acr y)) (fun _ : Unit => YW ct a y (KR a b rs R)) := by
  refine MIof (cc := cX7_allCreakingAxles) (maxL := 3) (ret := (some .int)) (by decide) rfl (Nat.le_of_ble_eq_true rfl) ?_
  intro p e s m args below meth c A H locs F hP hK hD hS hA ls hl
  obtain ⟨hx, hb, hr, hlocks, hml, hown, hts, hin⟩ := F
  have hl : lv_has ls 3 [(0, .ref (b 0))] := hl
  have hkd : ∀ j9, j9 < y_n y → y_kd y j9 = nI 0 ∨ y_kd y j9 = nI 1 := fun j9 hj9 => (hy.2.2.2.1 j9 hj9).1
  have hn : y_n y ≤ 12 := hy.1
  have hcn : y_cn y ≤ 4 := hy.2.1
  have hrn : y_rn y ≤ 5 := hy.2.2.1
  have h_X7 := in_X7_allCreakingAxles_X7
  have h_X9 := in_X7_allCreakingAxles_X9
  have f9 := hts (.fieldLink RX7 9 "CartArguments$Scale" "yard" "LCartArguments$Yard;") (by decide +kernel)
  have f54 := hts (.fieldLink RX7 54 "CartArguments$Yard" "carts" "I") (by decide +kernel)
  refine lv_iconst (v := nI (0)) hx hb dX7_allCreakingAxles_0 (by decide) ?_
  refine lv_istore_n (lv' := [(1, .int (nI (0))), (0, .ref (b 0))]) hx hb dX7_allCreakingAxles_1 rfl hl (by decide) rfl (fun ls hl => ?_)
  refine lv_iconst (v := nI (0)) hx hb dX7_allCreakingAxles_2 (by decide) ?_
  refine lv_istore_n (lv' := [(2, .int (nI (0))), (1, .int (nI (0))), (0, .ref (b 0))]) hx hb dX7_allCreakingAxles_3 rfl hl (by decide) rfl (fun ls hl => ?_)
  have lp4 : ∀ (fu : Nat) (k : Nat) (acc : Nat) (H : Heap) (locs : List Loc) (ls : Array Slot), (k ≤ y_cn y) → (acc = sN (fun k => t_cr y k) k) → y_cn y - k < fu → va_P D vwCl (YW ct a y (KR a b rs R)) H → va_D A (YW ct a y (KR a b rs R)) → va_S A s.heap H locs → lv_has ls 3 [(0, .ref (b 0)), (1, .int (nI (acc))), (2, .int (nI (k)))] → W p l e rmX7_allCreakingAxles s m args below meth c H locs 0 0 (MQ below (va_Qi (fun r0 (_ : Unit) => r0 = nI (t_acr y)) (zB D ct A (fun _ : Unit => YW ct a y (KR a b rs R))) A) args s rmX7_allCreakingAxles.cells rmX7_allCreakingAxles.slots A) (F0 m 4 ls []) := by
    intro fu
    induction fu with
    | zero => intro k acc H locs ls hk hacc hfu; exact absurd hfu (Nat.not_lt_zero _)
    | succ fu ih4 =>
      intro k acc H locs ls hk hacc hfu hP hD hS hl
      refine lv_iload_n hx hb dX7_allCreakingAxles_4 rfl (lv_at hl 2 rfl) ?_
      refine lv_aload_n hx hb dX7_allCreakingAxles_5 rfl (lv_at hl 0 rfl) ?_
      refine va_get (ci := 6) (v := .ref (a 0)) hx hb hts h_X7 hown hK hP 12 rfl rfl 0 (by decide) f9 (fun _ h9 => h9) rfl dX7_allCreakingAxles_6 ?_
      refine va_get (ci := 8) (v := .int (nI (y_cn y))) hx hb hts h_X9 hown hK hP 0 rfl rfl 5 (by decide) f54 (fun _ h9 => h9) rfl dX7_allCreakingAxles_9 ?_
      refine zN_icmp_ge (tgt := 29) hx hb (by omega) (by omega) dX7_allCreakingAxles_12 (by decide) (fun c12_1 => ?_) (fun c12_1 => ?_)
      · skip
        refine lv_iload_n hx hb dX7_allCreakingAxles_29 rfl (lv_at hl 1 rfl) ?_
        exact zIret () hx hb hr hlocks hK hP hD hS dX7_allCreakingAxles_30 (show nI (acc) = nI (t_acr y) from (by rw [hacc, t_acr]; congr 2; omega))
      · skip
        refine lv_iload_n hx hb dX7_allCreakingAxles_15 rfl (lv_at hl 1 rfl) ?_
        refine lv_aload_n hx hb dX7_allCreakingAxles_16 rfl (lv_at hl 0 rfl) ?_
        refine lv_iload_n hx hb dX7_allCreakingAxles_17 rfl (lv_at hl 2 rfl) ?_
        refine zVI [.int (nI (k))] [.int (nI (acc))] (kX7_creakingAxles (a) (y) (b) (rs) (R) (k) (show yI y from hy) (show (k) < y_cn y from by omega)) hx hb hml hown hts (cwV 1 hts gX7_allCreakingAxles_X7_creakingAxles rfl rfl rfl (by decide +kernel) ⟨(Nat.le_of_ble_eq_true rfl), (Nat.le_of_ble_eq_true rfl)⟩) hK hP hD hS hA (va_recv hK hP (ci := 6) (q0 := 12) rfl rfl) rfl hl.1 rfl (Nat.le_of_ble_eq_true rfl) dX7_allCreakingAxles_18 ⟨(Nat.le_of_ble_eq_true rfl), (Nat.le_of_ble_eq_true rfl)⟩ (fun r_18 _ H locs hr_18 hP hD hS => ?_)
        subst hr_18
        have hP : va_P D vwCl (YW ct a y (KR a b rs R)) H := hP
        have hD : va_D A (YW ct a y (KR a b rs R)) := hD
        have q18 := t_cr_le y (k)
        refine zNadd hx hb dX7_allCreakingAxles_21 ?_
        refine lv_istore_n (lv' := [(1, .int (nI ((acc + t_cr y (k))))), (0, .ref (b 0)), (2, .int (nI (k)))]) hx hb dX7_allCreakingAxles_22 rfl hl (by decide) rfl (fun ls hl => ?_)
        refine lv_iinc (v := nI ((k + 1))) (lv' := [(2, .int (nI ((k + 1)))), (1, .int (nI ((acc + t_cr y (k))))), (0, .ref (b 0))]) hx hb dX7_allCreakingAxles_23 hl (k := 2) rfl (zInc _) (by decide) rfl (fun ls hl => ?_)
        refine lv_goto (tgt := 4) hx hb dX7_allCreakingAxles_26 (by decide) ?_
        exact ih4 ((k + 1)) ((acc + t_cr y (k))) H locs ls (by omega) (by simp only [sN, hacc, c12_1, p_in, p_worn, p_wi, p_creak, p_over, p_le0, p_lt1, not_true_eq_false, not_false_eq_true, if_true, if_false, and_true, true_and, and_false, false_and, or_true, true_or, or_false, false_or, and_self, or_self, iff_true, true_iff, iff_false, false_iff, decide_eq_true_eq, decide_true, decide_false, Int32.add_zero, Nat.add_zero, ne_eq, Bool.false_eq_true, eq_self]) (by omega) hP hD hS (lv_sub hl [2, 1, 0] rfl)
  exact lp4 ((y_cn y - (0)) + 1) (0) (0) H locs ls (by omega) rfl (Nat.lt_succ_self _) hP hD hS (lv_sub hl [2, 1, 0] rfl)
abbrev rmX7_imbalance : Room := { frames := 1, cells := 0, slots := 0, locals := 30 }
set_option maxHeartbeats 4000000 in
set_option maxRecDepth 100000 in
theorem kX7_imbalance {D : va_G} {ct : Nat → ClassId} {l : Launch} (a : Nat → Nat) (y : YS) (b : Nat → Nat) (rs : RS) (R : va_W) (x1 : Int32) (hn : y_n y ≤ 12) (hkd : ∀ j9, j9 < y_n y → y_kd y j9 = nI 0 ∨ y_kd y j9 = nI 1) : MI D ct l yX7_imbalance wsX7_imbalance rmX7_imbalance (YW ct a y (KR a b rs R)) [.ref (b 0), .int (x1)] (fun r0 (_ : Unit) => r0 = t_im y x1) (fun _ : Unit => YW ct a y (KR a b rs R)) := by
  refine MIof (cc := cX7_imbalance) (maxL := 2) (ret := (some .int)) (by decide) rfl (Nat.le_of_ble_eq_true rfl) ?_
  intro p e s m args below meth c A H locs F hP hK hD hS hA ls hl
  obtain ⟨hx, hb, hr, hlocks, hml, hown, hts, hin⟩ := F
  have hl : lv_has ls 2 [(0, .ref (b 0)), (1, .int (x1))] := hl
  refine lv_aload_n hx hb dX7_imbalance_0 rfl (lv_at hl 0 rfl) ?_
  refine lv_iload_n hx hb dX7_imbalance_1 rfl (lv_at hl 1 rfl) ?_
  refine lv_iconst (v := nI (0)) hx hb dX7_imbalance_2 (by decide) ?_
  refine zVI [.int (x1), .int (nI (0))] [] (kX7_tenthsByThings (a) (y) (b) (rs) (R) (x1) (nI (0)) (show y_n y ≤ 12 from by omega) (show ∀ j9, j9 < y_n y → y_kd y j9 = nI 0 ∨ y_kd y j9 = nI 1 from hkd)) hx hb hml hown hts (cwV 2 hts gX7_imbalance_X7_tenthsByThings rfl rfl rfl (by decide +kernel) ⟨(Nat.le_of_ble_eq_true rfl), (Nat.le_of_ble_eq_true rfl)⟩) hK hP hD hS hA (va_recv hK hP (ci := 6) (q0 := 12) rfl rfl) rfl hl.1 rfl (Nat.le_of_ble_eq_true rfl) dX7_imbalance_3 ⟨(Nat.le_of_ble_eq_true rfl), (Nat.le_of_ble_eq_true rfl)⟩ (fun r_3 _ H locs hr_3 hP hD hS => ?_)
  subst hr_3
  have hP : va_P D vwCl (YW ct a y (KR a b rs R)) H := hP
  have hD : va_D A (YW ct a y (KR a b rs R)) := hD
  refine lv_aload_n hx hb dX7_imbalance_6 rfl (lv_at hl 0 rfl) ?_
  refine lv_iload_n hx hb dX7_imbalance_7 rfl (lv_at hl 1 rfl) ?_
  refine lv_iconst (v := nI (1)) hx hb dX7_imbalance_8 (by decide) ?_
  refine zVI [.int (x1), .int (nI (1))] [.int ((t_te y (x1) (nI (0))))] (kX7_tenthsByThings (a) (y) (b) (rs) (R) (x1) (nI (1)) (show y_n y ≤ 12 from by omega) (show ∀ j9, j9 < y_n y → y_kd y j9 = nI 0 ∨ y_kd y j9 = nI 1 from hkd)) hx hb hml hown hts (cwV 2 hts gX7_imbalance_X7_tenthsByThings rfl rfl rfl (by decide +kernel) ⟨(Nat.le_of_ble_eq_true rfl), (Nat.le_of_ble_eq_true rfl)⟩) hK hP hD hS hA (va_recv hK hP (ci := 6) (q0 := 12) rfl rfl) rfl hl.1 rfl (Nat.le_of_ble_eq_true rfl) dX7_imbalance_9 ⟨(Nat.le_of_ble_eq_true rfl), (Nat.le_of_ble_eq_true rfl)⟩ (fun r_9 _ H locs hr_9 hP hD hS => ?_)
  subst hr_9
  have hP : va_P D vwCl (YW ct a y (KR a b rs R)) H := hP
  have hD : va_D A (YW ct a y (KR a b rs R)) := hD
  refine lv_isub hx hb dX7_imbalance_12 ?_
  refine va_mabs hx hb (hml.trans hl.1.symm) hown (hts (.methodLink RX7 60 Lib.Math.abs.name) (by decide +kernel)) (hts (.static Lib.Math.abs.name) (by decide +kernel)) (hts (.initialized "java/lang/Math") (by decide +kernel)) (hts (.code Lib.Math.abs.name Lib.Math.abs.code 1 (some .int)) (by decide +kernel)) (Nat.le_of_ble_eq_true rfl) (Nat.le_of_ble_eq_true rfl) (Nat.le_of_ble_eq_true rfl) (Nat.le_of_ble_eq_true rfl) dX7_imbalance_13 ?_
  exact zIret () hx hb hr hlocks hK hP hD hS dX7_imbalance_16 (show (if 0 ≤ ((t_te y (x1) (nI (0))) - (t_te y (x1) (nI (1)))) then ((t_te y (x1) (nI (0))) - (t_te y (x1) (nI (1)))) else 0 - ((t_te y (x1) (nI (0))) - (t_te y (x1) (nI (1))))) = t_im y x1 from rfl)
abbrev rmX7_tollOf : Room := { frames := 1, cells := 0, slots := 0, locals := 24 }
theorem in_X7_tollOf_X7 : ∀ w ∈ u_ws RX7 TX7 1, w ∈ wsX7_tollOf := by decide +kernel
theorem in_X7_tollOf_X9 : ∀ w ∈ u_ws RX9 TX9 16, w ∈ wsX7_tollOf := by decide +kernel
set_option maxHeartbeats 4000000 in
set_option maxRecDepth 100000 in
theorem kX7_tollOf {D : va_G} {ct : Nat → ClassId} {l : Launch} (a : Nat → Nat) (y : YS) (b : Nat → Nat) (rs : RS) (R : va_W) (k : Nat) (r : Nat) (hy : yI y) (hr5 : r < y_rn y) : MF D ct l yX7_tollOf wsX7_tollOf rmX7_tollOf (YW ct a y (KR a b rs R)) [.ref (b 0), .int (nI (k)), .int (nI (r))] (fun r0 (_ : Unit) => r0 = t_toll y k r) (fun _ : Unit => YW ct a y (KR a b rs R)) := by
  refine MFof (cc := cX7_tollOf) (maxL := 3) (ret := (some .float)) (by decide) rfl (Nat.le_of_ble_eq_true rfl) ?_
  intro p e s m args below meth c A H locs F hP hK hD hS hA ls hl
  obtain ⟨hx, hb, hr, hlocks, hml, hown, hts, hin⟩ := F
  have hl : lv_has ls 3 [(0, .ref (b 0)), (1, .int (nI (k))), (2, .int (nI (r)))] := hl
  have hkd : ∀ j9, j9 < y_n y → y_kd y j9 = nI 0 ∨ y_kd y j9 = nI 1 := fun j9 hj9 => (hy.2.2.2.1 j9 hj9).1
  have hn : y_n y ≤ 12 := hy.1
  have hcn : y_cn y ≤ 4 := hy.2.1
  have hrn : y_rn y ≤ 5 := hy.2.2.1
  have h_X7 := in_X7_tollOf_X7
  have h_X9 := in_X7_tollOf_X9
  have f9 := hts (.fieldLink RX7 9 "CartArguments$Scale" "yard" "LCartArguments$Yard;") (by decide +kernel)
  have f69 := hts (.fieldLink RX7 69 "CartArguments$Yard" "rates" "[I") (by decide +kernel)
  refine lv_aload_n hx hb dX7_tollOf_0 rfl (lv_at hl 0 rfl) ?_
  refine va_get (ci := 6) (v := .ref (a 0)) hx hb hts h_X7 hown hK hP 12 rfl rfl 0 (by decide) f9 (fun _ h9 => h9) rfl dX7_tollOf_1 ?_
  refine lv_iload_n hx hb dX7_tollOf_4 rfl (lv_at hl 1 rfl) ?_
  refine lv_iconst (v := nI (1)) hx hb dX7_tollOf_5 (by decide) ?_
  refine zVI [.int (nI (k)), .int (nI (1))] [] (kX9_weightOn (a) (y) (KR a b rs R) (nI (k)) (nI (1)) (show y_n y ≤ 12 from by omega)) hx hb hml hown hts (cwV 2 hts gX7_tollOf_X9_weightOn rfl rfl rfl (by decide +kernel) ⟨(Nat.le_of_ble_eq_true rfl), (Nat.le_of_ble_eq_true rfl)⟩) hK hP hD hS hA (va_recv hK hP (ci := 8) (q0 := 0) rfl rfl) rfl hl.1 rfl (Nat.le_of_ble_eq_true rfl) dX7_tollOf_6 ⟨(Nat.le_of_ble_eq_true rfl), (Nat.le_of_ble_eq_true rfl)⟩ (fun r_6 _ H locs hr_6 hP hD hS => ?_)
  subst hr_6
  have hP : va_P D vwCl (YW ct a y (KR a b rs R)) H := hP
  have hD : va_D A (YW ct a y (KR a b rs R)) := hD
  refine lv_i2f hx hb dX7_tollOf_9 ?_
  refine lv_aload_n hx hb dX7_tollOf_10 rfl (lv_at hl 0 rfl) ?_
  refine va_get (ci := 6) (v := .ref (a 0)) hx hb hts h_X7 hown hK hP 12 rfl rfl 0 (by decide) f9 (fun _ h9 => h9) rfl dX7_tollOf_11 ?_
  refine va_get (ci := 8) (v := .ref (a 10)) hx hb hts h_X9 hown hK hP 0 rfl rfl 12 (by decide) f69 (fun _ h9 => h9) rfl dX7_tollOf_14 ?_
  refine lv_iload_n hx hb dX7_tollOf_17 rfl (lv_at hl 2 rfl) ?_
  refine zIald (n := 5) (f := y_ra y) (i := r) hx hb hK hP 10 rfl (by omega) (by decide) dX7_tollOf_18 ?_
  refine lv_i2f hx hb dX7_tollOf_19 ?_
  refine lv_fmul hx hb dX7_tollOf_20 (nF_n32 (toll1_nF hy hr5)) ?_
  refine lv_ldcf (v := 1048576000) hx hb hown (hts (.constantFloat RX7 72 (1048576000)) (by decide +kernel)) dX7_tollOf_21 ?_
  refine lv_fmul hx hb dX7_tollOf_23 (nF_n32 (toll_nF hy hr5)) ?_
  exact zFret () hx hb hr hlocks hK hP hD hS dX7_tollOf_24 (show (FP.fmul (FP.fmul (FP.i2f ((t_wo y (nI (k)) (nI (1))))) (FP.i2f ((y_ra y (r))))) 1048576000) = t_toll y k r from rfl)
abbrev rmX7_wearOfTrip : Room := { frames := 2, cells := 0, slots := 0, locals := 47 }
theorem in_X7_wearOfTrip_X7 : ∀ w ∈ u_ws RX7 TX7 1, w ∈ wsX7_wearOfTrip := by decide +kernel
theorem in_X7_wearOfTrip_X9 : ∀ w ∈ u_ws RX9 TX9 16, w ∈ wsX7_wearOfTrip := by decide +kernel
set_option maxHeartbeats 4000000 in
set_option maxRecDepth 100000 in
theorem kX7_wearOfTrip {D : va_G} {ct : Nat → ClassId} {l : Launch} (a : Nat → Nat) (y : YS) (b : Nat → Nat) (rs : RS) (R : va_W) (k : Nat) (r : Nat) (x2 : Int32) (hy : yI y) (hc : k < y_cn y) (hr5 : r < y_rn y) : MF D ct l yX7_wearOfTrip wsX7_wearOfTrip rmX7_wearOfTrip (YW ct a y (KR a b rs R)) [.ref (b 0), .int (nI (k)), .int (nI (r)), .int (x2)] (fun r0 (_ : Unit) => r0 = t_wt y k r x2) (fun _ : Unit => YW ct a y (KR a b rs R)) := by
  refine MFof (cc := cX7_wearOfTrip) (maxL := 6) (ret := (some .float)) (by decide) rfl (Nat.le_of_ble_eq_true rfl) ?_
  intro p e s m args below meth c A H locs F hP hK hD hS hA ls hl
  obtain ⟨hx, hb, hr, hlocks, hml, hown, hts, hin⟩ := F
  have hl : lv_has ls 6 [(0, .ref (b 0)), (1, .int (nI (k))), (2, .int (nI (r))), (3, .int (x2))] := hl
  have hkd : ∀ j9, j9 < y_n y → y_kd y j9 = nI 0 ∨ y_kd y j9 = nI 1 := fun j9 hj9 => (hy.2.2.2.1 j9 hj9).1
  have hn : y_n y ≤ 12 := hy.1
  have hcn : y_cn y ≤ 4 := hy.2.1
  have hrn : y_rn y ≤ 5 := hy.2.2.1
  have h_X7 := in_X7_wearOfTrip_X7
  have h_X9 := in_X7_wearOfTrip_X9
  have f9 := hts (.fieldLink RX7 9 "CartArguments$Scale" "yard" "LCartArguments$Yard;") (by decide +kernel)
  have f73 := hts (.fieldLink RX7 73 "CartArguments$Yard" "miles" "[I") (by decide +kernel)
  refine lv_aload_n hx hb dX7_wearOfTrip_0 rfl (lv_at hl 0 rfl) ?_
  refine lv_iload_n hx hb dX7_wearOfTrip_1 rfl (lv_at hl 1 rfl) ?_
  refine lv_iload_n hx hb dX7_wearOfTrip_2 rfl (lv_at hl 3 rfl) ?_
  refine zVF [.int (nI (k)), .int (x2)] [] (kX7_axleLoad (a) (y) (b) (rs) (R) (k) (x2) (show yI y from hy) (show (k) < y_cn y from by omega)) hx hb hml hown hts (cwV 2 hts gX7_wearOfTrip_X7_axleLoad rfl rfl rfl (by decide +kernel) ⟨(Nat.le_of_ble_eq_true rfl), (Nat.le_of_ble_eq_true rfl)⟩) hK hP hD hS hA (va_recv hK hP (ci := 6) (q0 := 12) rfl rfl) rfl hl.1 rfl (Nat.le_of_ble_eq_true rfl) dX7_wearOfTrip_3 ⟨(Nat.le_of_ble_eq_true rfl), (Nat.le_of_ble_eq_true rfl)⟩ (fun r_3 _ H locs hr_3 hP hD hS => ?_)
  subst hr_3
  have hP : va_P D vwCl (YW ct a y (KR a b rs R)) H := hP
  have hD : va_D A (YW ct a y (KR a b rs R)) := hD
  refine lv_fstore (lv' := [(4, .float ((t_ld y (k) (x2)))), (0, .ref (b 0)), (1, .int (nI (k))), (2, .int (nI (r))), (3, .int (x2))]) hx hb dX7_wearOfTrip_6 hl (by decide) rfl (fun ls hl => ?_)
  refine lv_fload hx hb dX7_wearOfTrip_8 (lv_at hl 0 rfl) ?_
  refine lv_aload_n hx hb dX7_wearOfTrip_10 rfl (lv_at hl 1 rfl) ?_
  refine va_get (ci := 6) (v := .ref (a 0)) hx hb hts h_X7 hown hK hP 12 rfl rfl 0 (by decide) f9 (fun _ h9 => h9) rfl dX7_wearOfTrip_11 ?_
  refine va_get (ci := 8) (v := .ref (a 9)) hx hb hts h_X9 hown hK hP 0 rfl rfl 11 (by decide) f73 (fun _ h9 => h9) rfl dX7_wearOfTrip_14 ?_
  refine lv_iload_n hx hb dX7_wearOfTrip_17 rfl (lv_at hl 3 rfl) ?_
  refine zIald (n := 5) (f := y_mi y) (i := r) hx hb hK hP 9 rfl (by omega) (by decide) dX7_wearOfTrip_18 ?_
  refine lv_i2f hx hb dX7_wearOfTrip_19 ?_
  refine lv_fmul hx hb dX7_wearOfTrip_20 (nF_n32 (wt1_nF hy hc hr5)) ?_
  refine lv_ldcf (v := 981668463) hx hb hown (hts (.constantFloat RX7 76 (981668463)) (by decide +kernel)) dX7_wearOfTrip_21 ?_
  refine lv_fmul hx hb dX7_wearOfTrip_23 (nF_n32 (wt0_nF hy hc hr5)) ?_
  refine lv_fstore (lv' := [(5, .float ((FP.fmul (FP.fmul (t_ld y (k) (x2)) (FP.i2f ((y_mi y (r))))) 981668463))), (4, .float ((t_ld y (k) (x2)))), (0, .ref (b 0)), (1, .int (nI (k))), (2, .int (nI (r))), (3, .int (x2))]) hx hb dX7_wearOfTrip_24 hl (by decide) rfl (fun ls hl => ?_)
  refine lv_aload_n hx hb dX7_wearOfTrip_26 rfl (lv_at hl 2 rfl) ?_
  refine lv_iload_n hx hb dX7_wearOfTrip_27 rfl (lv_at hl 3 rfl) ?_
  refine lv_fload hx hb dX7_wearOfTrip_28 (lv_at hl 1 rfl) ?_
  refine zVI [.int (nI (k)), .float ((t_ld y (k) (x2)))] [] (kX7_isTooMuch (a) (y) (b) (rs) (R) (k) ((t_ld y (k) (x2))) (show yI y from hy) (show (k) < y_cn y from by omega)) hx hb hml hown hts (cwV 2 hts gX7_wearOfTrip_X7_isTooMuch rfl rfl rfl (by decide +kernel) ⟨(Nat.le_of_ble_eq_true rfl), (Nat.le_of_ble_eq_true rfl)⟩) hK hP hD hS hA (va_recv hK hP (ci := 6) (q0 := 12) rfl rfl) rfl hl.1 rfl (Nat.le_of_ble_eq_true rfl) dX7_wearOfTrip_30 ⟨(Nat.le_of_ble_eq_true rfl), (Nat.le_of_ble_eq_true rfl)⟩ (fun r_30 _ H locs hr_30 hP hD hS => ?_)
  subst hr_30
  have hP : va_P D vwCl (YW ct a y (KR a b rs R)) H := hP
  have hD : va_D A (YW ct a y (KR a b rs R)) := hD
  refine zB_if_eq (tgt := 43) hx hb dX7_wearOfTrip_33 (by decide) (fun c33_1 => ?_) (fun c33_1 => ?_)
  · skip
    refine lv_fload hx hb dX7_wearOfTrip_43 (lv_at hl 0 rfl) ?_
    exact zFret () hx hb hr hlocks hK hP hD hS dX7_wearOfTrip_45 (show (FP.fmul (FP.fmul (t_ld y (k) (x2)) (FP.i2f ((y_mi y (r))))) 981668463) = t_wt y k r x2 from (by simp only [t_wt, c33_1, p_in, p_worn, p_wi, p_creak, p_over, p_le0, p_lt1, not_true_eq_false, not_false_eq_true, if_true, if_false, and_true, true_and, and_false, false_and, or_true, true_or, or_false, false_or, and_self, or_self, iff_true, true_iff, iff_false, false_iff, decide_eq_true_eq, decide_true, decide_false, Int32.add_zero, Nat.add_zero, ne_eq, Bool.false_eq_true, eq_self]))
  · skip
    refine lv_fload hx hb dX7_wearOfTrip_36 (lv_at hl 0 rfl) ?_
    refine lv_fconst2 hx hb dX7_wearOfTrip_38 ?_
    refine lv_fmul hx hb dX7_wearOfTrip_39 (nF_n32 (wt2_nF hy hc hr5)) ?_
    refine lv_goto (tgt := 45) hx hb dX7_wearOfTrip_40 (by decide) ?_
    exact zFret () hx hb hr hlocks hK hP hD hS dX7_wearOfTrip_45 (show (FP.fmul (FP.fmul (FP.fmul (t_ld y (k) (x2)) (FP.i2f ((y_mi y (r))))) 981668463) FP.fconst2) = t_wt y k r x2 from (by simp only [t_wt, c33_1, p_in, p_worn, p_wi, p_creak, p_over, p_le0, p_lt1, not_true_eq_false, not_false_eq_true, if_true, if_false, and_true, true_and, and_false, false_and, or_true, true_or, or_false, false_or, and_self, or_self, iff_true, true_iff, iff_false, false_iff, decide_eq_true_eq, decide_true, decide_false, Int32.add_zero, Nat.add_zero, ne_eq, Bool.false_eq_true, eq_self]))
abbrev rmX6_refuse : Room := { frames := 0, cells := 0, slots := 0, locals := 0 }
theorem in_X6_refuse_X6 : ∀ w ∈ u_ws RX6 TX6 4, w ∈ wsX6_refuse := by decide +kernel
set_option maxHeartbeats 4000000 in
set_option maxRecDepth 100000 in
theorem kX6_refuse {D : va_G} {ct : Nat → ClassId} {l : Launch} (a : Nat → Nat) (y : YS) (b : Nat → Nat) (rs : RS) (R : va_W) (x1 : Int32) (x2 : Int32) : MI D ct l yX6_refuse wsX6_refuse rmX6_refuse (YW ct a y (KR a b rs R)) [.ref (b 1), .int (x1), .int (x2)] (fun r0 (_ : Unit) => r0 = (-3)) (fun _ : Unit => YW ct a y (KR a b (x1, x2, (-4), (-4)) R)) := by
  refine MIof (cc := cX6_refuse) (maxL := 3) (ret := (some .int)) (by decide) rfl (Nat.le_of_ble_eq_true rfl) ?_
  intro p e s m args below meth c A H locs F hP hK hD hS hA ls hl
  obtain ⟨hx, hb, hr, hlocks, hml, hown, hts, hin⟩ := F
  have hl : lv_has ls 3 [(0, .ref (b 1)), (1, .int (x1)), (2, .int (x2))] := hl
  have h_X6 := in_X6_refuse_X6
  have f9 := hts (.fieldLink RX6 9 "CartArguments$Reasons" "reason" "I") (by decide +kernel)
  have f15 := hts (.fieldLink RX6 15 "CartArguments$Reasons" "detail" "I") (by decide +kernel)
  have f18 := hts (.fieldLink RX6 18 "CartArguments$Reasons" "reasonBehind" "I") (by decide +kernel)
  have f21 := hts (.fieldLink RX6 21 "CartArguments$Reasons" "detailBehind" "I") (by decide +kernel)
  refine lv_aload_n hx hb dX6_refuse_0 rfl (lv_at hl 0 rfl) ?_
  refine lv_iload_n hx hb dX6_refuse_1 rfl (lv_at hl 1 rfl) ?_
  refine va_put (ci := 5) (v := .int (x1)) (ty := .int) hx hb hts h_X6 tyX6 tyX6_ok nmX6 hown hK hP hD hS 13 rfl rfl 0 (by decide) f9 (fun _ h9 => h9) rfl (by decide +kernel) rfl rfl (Nat.le_of_ble_eq_true rfl) dX6_refuse_2 (fun H locs hP hD hS => ?_)
  have hP : va_P D vwCl (YW ct a y (KR a b (x1, rs.2.1, rs.2.2.1, rs.2.2.2) R)) H := hP
  have hD : va_D A (YW ct a y (KR a b (x1, rs.2.1, rs.2.2.1, rs.2.2.2) R)) := hD
  refine lv_aload_n hx hb dX6_refuse_5 rfl (lv_at hl 0 rfl) ?_
  refine lv_iload_n hx hb dX6_refuse_6 rfl (lv_at hl 2 rfl) ?_
  refine va_put (ci := 5) (v := .int (x2)) (ty := .int) hx hb hts h_X6 tyX6 tyX6_ok nmX6 hown hK hP hD hS 13 rfl rfl 1 (by decide) f15 (fun _ h9 => h9) rfl (by decide +kernel) rfl rfl (Nat.le_of_ble_eq_true rfl) dX6_refuse_7 (fun H locs hP hD hS => ?_)
  have hP : va_P D vwCl (YW ct a y (KR a b (x1, x2, rs.2.2.1, rs.2.2.2) R)) H := hP
  have hD : va_D A (YW ct a y (KR a b (x1, x2, rs.2.2.1, rs.2.2.2) R)) := hD
  refine lv_aload_n hx hb dX6_refuse_10 rfl (lv_at hl 0 rfl) ?_
  refine lv_bipush (v := (-4)) hx hb dX6_refuse_11 (by decide) ?_
  refine va_put (ci := 5) (v := .int ((-4))) (ty := .int) hx hb hts h_X6 tyX6 tyX6_ok nmX6 hown hK hP hD hS 13 rfl rfl 2 (by decide) f18 (fun _ h9 => h9) rfl (by decide +kernel) rfl rfl (Nat.le_of_ble_eq_true rfl) dX6_refuse_13 (fun H locs hP hD hS => ?_)
  have hP : va_P D vwCl (YW ct a y (KR a b (x1, x2, (-4), rs.2.2.2) R)) H := hP
  have hD : va_D A (YW ct a y (KR a b (x1, x2, (-4), rs.2.2.2) R)) := hD
  refine lv_aload_n hx hb dX6_refuse_16 rfl (lv_at hl 0 rfl) ?_
  refine lv_bipush (v := (-4)) hx hb dX6_refuse_17 (by decide) ?_
  refine va_put (ci := 5) (v := .int ((-4))) (ty := .int) hx hb hts h_X6 tyX6 tyX6_ok nmX6 hown hK hP hD hS 13 rfl rfl 3 (by decide) f21 (fun _ h9 => h9) rfl (by decide +kernel) rfl rfl (Nat.le_of_ble_eq_true rfl) dX6_refuse_19 (fun H locs hP hD hS => ?_)
  have hP : va_P D vwCl (YW ct a y (KR a b (x1, x2, (-4), (-4)) R)) H := hP
  have hD : va_D A (YW ct a y (KR a b (x1, x2, (-4), (-4)) R)) := hD
  refine lv_bipush (v := (-3)) hx hb dX6_refuse_22 (by decide) ?_
  exact zIret () hx hb hr hlocks hK hP hD hS dX6_refuse_24 (show (-3) = (-3) from rfl)
