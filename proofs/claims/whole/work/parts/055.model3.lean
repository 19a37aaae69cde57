/-! THE REFERENCE: more answers; copies -/
abbrev rmX11_heaviest : Room := { frames := 1, cells := 0, slots := 0, locals := 22 }
theorem in_X11_heaviest_X11 : ∀ w ∈ u_ws RX11 TX11 19, w ∈ wsX11_heaviest := by decide +kernel
set_option maxHeartbeats 4000000 in
set_option maxRecDepth 100000 in
theorem kX11_heaviest {D : va_G} {ct : Nat → ClassId} {l : Launch} (o : Nat → Nat) (v : MS) (R : va_W) (x1 : Int32) (y : YS) (hy : yI y) (hq : RelI y (m_g v)) : MI D ct l yX11_heaviest wsX11_heaviest rmX11_heaviest (MW ct o v R) [.ref (o 0), .int (x1)] (fun r0 (_ : Unit) => r0 = ordI (fun j k => decide (pmT y j k)) (y_n y) x1) (fun _ : Unit => MW ct o v R) := by
  refine MIof (cc := cX11_heaviest) (maxL := 7) (ret := (some .int)) (by decide) rfl (Nat.le_of_ble_eq_true rfl) ?_
  intro p e s m args below meth c A H locs F hP hK hD hS hA ls hl
  obtain ⟨hx, hb, hr, hlocks, hml, hown, hts, hin⟩ := F
  have hl : lv_has ls 7 [(0, .ref (o 0)), (1, .int (x1))] := hl
  have hB : y_n y ≤ 12 ∧ y_cn y ≤ 4 ∧ y_rn y ≤ 5 := ⟨hy.1, hy.2.1, hy.2.2.1⟩
  have hn : y_n y ≤ 12 := hy.1
  have hcn : y_cn y ≤ 4 := hy.2.1
  have hrn : y_rn y ≤ 5 := hy.2.2.1
  have h_X11 := in_X11_heaviest_X11
  have f9 := hts (.fieldLink RX11 9 "CartArgumentsModel" "all" "[I") (by decide +kernel)
  refine lv_iconst (v := nI (0)) hx hb dX11_heaviest_0 (by decide) ?_
  refine lv_istore_n (lv' := [(2, .int (nI (0))), (0, .ref (o 0)), (1, .int (x1))]) hx hb dX11_heaviest_1 rfl hl (by decide) rfl (fun ls hl => ?_)
  have lp2 : ∀ (fu : Nat) (k : Nat) (H : Heap) (locs : List Loc) (ls : Array Slot), (k ≤ y_n y) → (∀ j, j < k → (fun k => decide (nI (cN (fun j => (fun j k => decide (pmT y j k)) j k) (y_n y)) = x1)) j = false) → y_n y - k < fu → va_P D vwCl (MW ct o v R) H → va_D A (MW ct o v R) → va_S A s.heap H locs → lv_has ls 7 [(0, .ref (o 0)), (1, .int (x1)), (2, .int (nI (k)))] → W p l e rmX11_heaviest s m args below meth c H locs 0 0 (MQ below (va_Qi (fun r0 (_ : Unit) => r0 = ordI (fun j k => decide (pmT y j k)) (y_n y) x1) (zB D ct A (fun _ : Unit => MW ct o v R)) A) args s rmX11_heaviest.cells rmX11_heaviest.slots A) (F0 m 2 ls []) := by
    intro fu
    induction fu with
    | zero => intro k H locs ls hk hno hfu; exact absurd hfu (Nat.not_lt_zero _)
    | succ fu ih2 =>
      intro k H locs ls hk hno hfu hP hD hS hl
      refine lv_iload_n hx hb dX11_heaviest_2 rfl (lv_at hl 2 rfl) ?_
      refine lv_aload_n hx hb dX11_heaviest_3 rfl (lv_at hl 0 rfl) ?_
      refine va_get (ci := 10) (v := .ref (o 1)) hx hb hts h_X11 hown hK hP 0 rfl rfl 0 (by decide) f9 (fun _ h9 => h9) rfl dX11_heaviest_4 ?_
      refine lv_iconst (v := nI (0)) hx hb dX11_heaviest_7 (by decide) ?_
      refine zIald (n := 972) (f := m_g v) (i := 0) hx hb hK hP 1 rfl (by omega) (by decide) dX11_heaviest_8 ?_
      refine zTop (y := nI (y_n y)) hq.1 ?_
      refine zN_icmp_ge (tgt := 113) hx hb (by omega) (by omega) dX11_heaviest_9 (by decide) (fun c9_1 => ?_) (fun c9_1 => ?_)
      · skip
        refine lv_iconst (v := (-1)) hx hb dX11_heaviest_113 (by decide) ?_
        exact zIret () hx hb hr hlocks hK hP hD hS dX11_heaviest_114 (show (-1) = ordI (fun j k => decide (pmT y j k)) (y_n y) x1 from (ordI_none (P := fun j k => decide (pmT y j k)) (fun j hj => hno j (by omega))).symm)
      · skip
        refine lv_iconst (v := nI (0)) hx hb dX11_heaviest_12 (by decide) ?_
        refine lv_istore_n (lv' := [(3, .int (nI (0))), (0, .ref (o 0)), (1, .int (x1)), (2, .int (nI (k)))]) hx hb dX11_heaviest_13 rfl hl (by decide) rfl (fun ls hl => ?_)
        refine lv_iconst (v := nI (0)) hx hb dX11_heaviest_14 (by decide) ?_
        refine lv_istore (lv' := [(4, .int (nI (0))), (3, .int (nI (0))), (0, .ref (o 0)), (1, .int (x1)), (2, .int (nI (k)))]) hx hb dX11_heaviest_15 hl (by decide) rfl (fun ls hl => ?_)
        have lp17 : ∀ (fu : Nat) (i : Nat) (acc : Nat) (H : Heap) (locs : List Loc) (ls : Array Slot), (i ≤ y_n y) → (acc = cN (fun j => decide (pmT y j k)) i) → y_n y - i < fu → va_P D vwCl (MW ct o v R) H → va_D A (MW ct o v R) → va_S A s.heap H locs → lv_has ls 7 [(0, .ref (o 0)), (1, .int (x1)), (2, .int (nI (k))), (3, .int (nI (acc))), (4, .int (nI (i)))] → W p l e rmX11_heaviest s m args below meth c H locs 0 0 (MQ below (va_Qi (fun r0 (_ : Unit) => r0 = ordI (fun j k => decide (pmT y j k)) (y_n y) x1) (zB D ct A (fun _ : Unit => MW ct o v R)) A) args s rmX11_heaviest.cells rmX11_heaviest.slots A) (F0 m 17 ls []) := by
          intro fu
          induction fu with
          | zero => intro i acc H locs ls hi hacc hfu; exact absurd hfu (Nat.not_lt_zero _)
          | succ fu ih17 =>
            intro i acc H locs ls hi hacc hfu hP hD hS hl
            refine lv_iload hx hb dX11_heaviest_17 (lv_at hl 4 rfl) ?_
            refine lv_aload_n hx hb dX11_heaviest_19 rfl (lv_at hl 0 rfl) ?_
            refine va_get (ci := 10) (v := .ref (o 1)) hx hb hts h_X11 hown hK hP 0 rfl rfl 0 (by decide) f9 (fun _ h9 => h9) rfl dX11_heaviest_20 ?_
            refine lv_iconst (v := nI (0)) hx hb dX11_heaviest_23 (by decide) ?_
            refine zIald (n := 972) (f := m_g v) (i := 0) hx hb hK hP 1 rfl (by omega) (by decide) dX11_heaviest_24 ?_
            refine zTop (y := nI (y_n y)) hq.1 ?_
            refine zN_icmp_ge (tgt := 100) hx hb (by omega) (by omega) dX11_heaviest_25 (by decide) (fun c25_2 => ?_) (fun c25_2 => ?_)
            · skip
              refine lv_iload_n hx hb dX11_heaviest_100 rfl (lv_at hl 3 rfl) ?_
              refine lv_iload_n hx hb dX11_heaviest_101 rfl (lv_at hl 1 rfl) ?_
              refine lv_icmp_ne (tgt := 107) hx hb dX11_heaviest_102 (by decide) (fun c102_3 => ?_) (fun c102_3 => ?_)
              · skip
                refine lv_iinc (v := nI ((k + 1))) (lv' := [(2, .int (nI ((k + 1)))), (0, .ref (o 0)), (1, .int (x1)), (3, .int (nI (acc))), (4, .int (nI (i)))]) hx hb dX11_heaviest_107 hl (k := 2) rfl (zInc _) (by decide) rfl (fun ls hl => ?_)
                refine lv_goto (tgt := 2) hx hb dX11_heaviest_110 (by decide) ?_
                exact ih2 ((k + 1)) H locs ls (by omega) (lt_s hno (by rw [hacc, show i = y_n y by omega] at c102_3; exact decide_eq_false c102_3)) (by omega) hP hD hS (lv_sub hl [1, 2, 0] rfl)
              · skip
                refine lv_iload_n hx hb dX11_heaviest_105 rfl (lv_at hl 2 rfl) ?_
                exact zIret () hx hb hr hlocks hK hP hD hS dX11_heaviest_106 (show nI (k) = ordI (fun j k => decide (pmT y j k)) (y_n y) x1 from (ordI_some (P := fun j k => decide (pmT y j k)) (by have q := c102_3; rw [hacc, show i = y_n y by omega] at q; exact decide_eq_true q) hno (by omega)).symm)
            · skip
              refine lv_aload_n hx hb dX11_heaviest_28 rfl (lv_at hl 0 rfl) ?_
              refine lv_iload hx hb dX11_heaviest_29 (lv_at hl 4 rfl) ?_
              refine lv_iconst (v := nI (1)) hx hb dX11_heaviest_31 (by decide) ?_
              refine zVI [.int (nI (i)), .int (nI (1))] [] (kX11_t (o) (v) (R) (i) (1) (show (i) < 12 from by omega) (show (1) < 4 from by omega)) hx hb hml hown hts (cwV 2 hts gX11_heaviest_X11_t rfl rfl rfl (by decide +kernel) ⟨(Nat.le_of_ble_eq_true rfl), (Nat.le_of_ble_eq_true rfl)⟩) hK hP hD hS hA (va_recv hK hP (ci := 10) (q0 := 0) rfl rfl) rfl hl.1 rfl (Nat.le_of_ble_eq_true rfl) dX11_heaviest_32 ⟨(Nat.le_of_ble_eq_true rfl), (Nat.le_of_ble_eq_true rfl)⟩ (fun r_32 _ H locs hr_32 hP hD hS => ?_)
              subst hr_32
              have hP : va_P D vwCl (MW ct o v R) H := hP
              have hD : va_D A (MW ct o v R) := hD
              refine zTop (y := (y_w y (i))) (rel_w hq (k := i) (by omega)) ?_
              refine lv_aload_n hx hb dX11_heaviest_35 rfl (lv_at hl 0 rfl) ?_
              refine lv_iload_n hx hb dX11_heaviest_36 rfl (lv_at hl 2 rfl) ?_
              refine lv_iconst (v := nI (1)) hx hb dX11_heaviest_37 (by decide) ?_
              refine zVI [.int (nI (k)), .int (nI (1))] [.int ((y_w y (i)))] (kX11_t (o) (v) (R) (k) (1) (show (k) < 12 from by omega) (show (1) < 4 from by omega)) hx hb hml hown hts (cwV 2 hts gX11_heaviest_X11_t rfl rfl rfl (by decide +kernel) ⟨(Nat.le_of_ble_eq_true rfl), (Nat.le_of_ble_eq_true rfl)⟩) hK hP hD hS hA (va_recv hK hP (ci := 10) (q0 := 0) rfl rfl) rfl hl.1 rfl (Nat.le_of_ble_eq_true rfl) dX11_heaviest_38 ⟨(Nat.le_of_ble_eq_true rfl), (Nat.le_of_ble_eq_true rfl)⟩ (fun r_38 _ H locs hr_38 hP hD hS => ?_)
              subst hr_38
              have hP : va_P D vwCl (MW ct o v R) H := hP
              have hD : va_D A (MW ct o v R) := hD
              refine zTop (y := (y_w y (k))) (rel_w hq (k := k) (by omega)) ?_
              refine lv_isub hx hb dX11_heaviest_41 ?_
              refine lv_istore (lv' := [(5, .int (((y_w y (i)) - (y_w y (k))))), (0, .ref (o 0)), (1, .int (x1)), (2, .int (nI (k))), (3, .int (nI (acc))), (4, .int (nI (i)))]) hx hb dX11_heaviest_42 hl (by decide) rfl (fun ls hl => ?_)
              refine lv_aload_n hx hb dX11_heaviest_44 rfl (lv_at hl 1 rfl) ?_
              refine lv_iload_n hx hb dX11_heaviest_45 rfl (lv_at hl 3 rfl) ?_
              refine lv_iconst (v := nI (0)) hx hb dX11_heaviest_46 (by decide) ?_
              refine zVI [.int (nI (k)), .int (nI (0))] [] (kX11_t (o) (v) (R) (k) (0) (show (k) < 12 from by omega) (show (0) < 4 from by omega)) hx hb hml hown hts (cwV 2 hts gX11_heaviest_X11_t rfl rfl rfl (by decide +kernel) ⟨(Nat.le_of_ble_eq_true rfl), (Nat.le_of_ble_eq_true rfl)⟩) hK hP hD hS hA (va_recv hK hP (ci := 10) (q0 := 0) rfl rfl) rfl hl.1 rfl (Nat.le_of_ble_eq_true rfl) dX11_heaviest_47 ⟨(Nat.le_of_ble_eq_true rfl), (Nat.le_of_ble_eq_true rfl)⟩ (fun r_47 _ H locs hr_47 hP hD hS => ?_)
              subst hr_47
              have hP : va_P D vwCl (MW ct o v R) H := hP
              have hD : va_D A (MW ct o v R) := hD
              refine zTop (y := (y_kd y (k))) (rel_kd hq (k := k) (by omega)) ?_
              refine lv_aload_n hx hb dX11_heaviest_50 rfl (lv_at hl 1 rfl) ?_
              refine lv_iload hx hb dX11_heaviest_51 (lv_at hl 5 rfl) ?_
              refine lv_iconst (v := nI (0)) hx hb dX11_heaviest_53 (by decide) ?_
              refine zVI [.int (nI (i)), .int (nI (0))] [.int ((y_kd y (k)))] (kX11_t (o) (v) (R) (i) (0) (show (i) < 12 from by omega) (show (0) < 4 from by omega)) hx hb hml hown hts (cwV 2 hts gX11_heaviest_X11_t rfl rfl rfl (by decide +kernel) ⟨(Nat.le_of_ble_eq_true rfl), (Nat.le_of_ble_eq_true rfl)⟩) hK hP hD hS hA (va_recv hK hP (ci := 10) (q0 := 0) rfl rfl) rfl hl.1 rfl (Nat.le_of_ble_eq_true rfl) dX11_heaviest_54 ⟨(Nat.le_of_ble_eq_true rfl), (Nat.le_of_ble_eq_true rfl)⟩ (fun r_54 _ H locs hr_54 hP hD hS => ?_)
              subst hr_54
              have hP : va_P D vwCl (MW ct o v R) H := hP
              have hD : va_D A (MW ct o v R) := hD
              refine zTop (y := (y_kd y (i))) (rel_kd hq (k := i) (by omega)) ?_
              refine lv_isub hx hb dX11_heaviest_57 ?_
              refine lv_istore (lv' := [(6, .int (((y_kd y (k)) - (y_kd y (i))))), (5, .int (((y_w y (i)) - (y_w y (k))))), (0, .ref (o 0)), (1, .int (x1)), (2, .int (nI (k))), (3, .int (nI (acc))), (4, .int (nI (i)))]) hx hb dX11_heaviest_58 hl (by decide) rfl (fun ls hl => ?_)
              refine lv_iload_n hx hb dX11_heaviest_60 rfl (lv_at hl 5 rfl) ?_
              refine lv_iload hx hb dX11_heaviest_61 (lv_at hl 1 rfl) ?_
              refine lv_if_gt (tgt := 87) hx hb dX11_heaviest_63 (by decide) (fun c63_4 => ?_) (fun c63_4 => ?_)
              · skip
                refine lv_iconst (v := nI (1)) hx hb dX11_heaviest_87 (by decide) ?_
                refine lv_goto (tgt := 92) hx hb dX11_heaviest_88 (by decide) ?_
                refine zNadd hx hb dX11_heaviest_92 ?_
                refine lv_istore_n (lv' := [(3, .int (nI ((acc + 1)))), (6, .int (((y_kd y (k)) - (y_kd y (i))))), (5, .int (((y_w y (i)) - (y_w y (k))))), (0, .ref (o 0)), (1, .int (x1)), (2, .int (nI (k))), (4, .int (nI (i)))]) hx hb dX11_heaviest_93 rfl hl (by decide) rfl (fun ls hl => ?_)
                refine lv_iinc (v := nI ((i + 1))) (lv' := [(4, .int (nI ((i + 1)))), (3, .int (nI ((acc + 1)))), (6, .int (((y_kd y (k)) - (y_kd y (i))))), (5, .int (((y_w y (i)) - (y_w y (k))))), (0, .ref (o 0)), (1, .int (x1)), (2, .int (nI (k)))]) hx hb dX11_heaviest_94 hl (k := 6) rfl (zInc _) (by decide) rfl (fun ls hl => ?_)
                refine lv_goto (tgt := 17) hx hb dX11_heaviest_97 (by decide) ?_
                exact ih17 ((i + 1)) ((acc + 1)) H locs ls (by omega) (by simp only [cN, hacc, nI_0, c9_1, c25_2, c63_4, p_in, p_worn, p_wi, p_creak, p_le0, p_lt1, p_rng, pmT, pmC, not_true_eq_false, not_false_eq_true, if_true, if_false, and_true, true_and, and_false, false_and, or_true, true_or, or_false, false_or, and_self, or_self, iff_true, true_iff, iff_false, false_iff, decide_eq_true_eq, decide_true, decide_false, Int32.add_zero, Nat.add_zero, ne_eq, Bool.false_eq_true, eq_self]) (by omega) hP hD hS (lv_sub hl [4, 5, 6, 1, 0] rfl)
              · skip
                refine lv_iload hx hb dX11_heaviest_66 (lv_at hl 1 rfl) ?_
                refine lv_if_ne (tgt := 91) hx hb dX11_heaviest_68 (by decide) (fun c68_5 => ?_) (fun c68_5 => ?_)
                · skip
                  refine lv_iconst (v := nI (0)) hx hb dX11_heaviest_91 (by decide) ?_
                  refine zNadd hx hb dX11_heaviest_92 ?_
                  refine lv_istore_n (lv' := [(3, .int (nI ((acc + 0)))), (6, .int (((y_kd y (k)) - (y_kd y (i))))), (5, .int (((y_w y (i)) - (y_w y (k))))), (0, .ref (o 0)), (1, .int (x1)), (2, .int (nI (k))), (4, .int (nI (i)))]) hx hb dX11_heaviest_93 rfl hl (by decide) rfl (fun ls hl => ?_)
                  refine lv_iinc (v := nI ((i + 1))) (lv' := [(4, .int (nI ((i + 1)))), (3, .int (nI ((acc + 0)))), (6, .int (((y_kd y (k)) - (y_kd y (i))))), (5, .int (((y_w y (i)) - (y_w y (k))))), (0, .ref (o 0)), (1, .int (x1)), (2, .int (nI (k)))]) hx hb dX11_heaviest_94 hl (k := 6) rfl (zInc _) (by decide) rfl (fun ls hl => ?_)
                  refine lv_goto (tgt := 17) hx hb dX11_heaviest_97 (by decide) ?_
                  exact ih17 ((i + 1)) ((acc + 0)) H locs ls (by omega) (by simp only [cN, hacc, nI_0, c9_1, c25_2, c63_4, c68_5, p_in, p_worn, p_wi, p_creak, p_le0, p_lt1, p_rng, pmT, pmC, not_true_eq_false, not_false_eq_true, if_true, if_false, and_true, true_and, and_false, false_and, or_true, true_or, or_false, false_or, and_self, or_self, iff_true, true_iff, iff_false, false_iff, decide_eq_true_eq, decide_true, decide_false, Int32.add_zero, Nat.add_zero, ne_eq, Bool.false_eq_true, eq_self]) (by omega) hP hD hS (lv_sub hl [4, 5, 6, 1, 0] rfl)
                · skip
                  refine lv_iload hx hb dX11_heaviest_71 (lv_at hl 0 rfl) ?_
                  refine lv_if_gt (tgt := 87) hx hb dX11_heaviest_73 (by decide) (fun c73_6 => ?_) (fun c73_6 => ?_)
                  · skip
                    refine lv_iconst (v := nI (1)) hx hb dX11_heaviest_87 (by decide) ?_
                    refine lv_goto (tgt := 92) hx hb dX11_heaviest_88 (by decide) ?_
                    refine zNadd hx hb dX11_heaviest_92 ?_
                    refine lv_istore_n (lv' := [(3, .int (nI ((acc + 1)))), (6, .int (((y_kd y (k)) - (y_kd y (i))))), (5, .int (((y_w y (i)) - (y_w y (k))))), (0, .ref (o 0)), (1, .int (x1)), (2, .int (nI (k))), (4, .int (nI (i)))]) hx hb dX11_heaviest_93 rfl hl (by decide) rfl (fun ls hl => ?_)
                    refine lv_iinc (v := nI ((i + 1))) (lv' := [(4, .int (nI ((i + 1)))), (3, .int (nI ((acc + 1)))), (6, .int (((y_kd y (k)) - (y_kd y (i))))), (5, .int (((y_w y (i)) - (y_w y (k))))), (0, .ref (o 0)), (1, .int (x1)), (2, .int (nI (k)))]) hx hb dX11_heaviest_94 hl (k := 6) rfl (zInc _) (by decide) rfl (fun ls hl => ?_)
                    refine lv_goto (tgt := 17) hx hb dX11_heaviest_97 (by decide) ?_
                    exact ih17 ((i + 1)) ((acc + 1)) H locs ls (by omega) (by simp only [cN, hacc, nI_0, c9_1, c25_2, c63_4, eq_true c68_5, c73_6, p_in, p_worn, p_wi, p_creak, p_le0, p_lt1, p_rng, pmT, pmC, not_true_eq_false, not_false_eq_true, if_true, if_false, and_true, true_and, and_false, false_and, or_true, true_or, or_false, false_or, and_self, or_self, iff_true, true_iff, iff_false, false_iff, decide_eq_true_eq, decide_true, decide_false, Int32.add_zero, Nat.add_zero, ne_eq, Bool.false_eq_true, eq_self]) (by omega) hP hD hS (lv_sub hl [4, 5, 6, 1, 0] rfl)
                  · skip
                    refine lv_iload hx hb dX11_heaviest_76 (lv_at hl 0 rfl) ?_
                    refine lv_if_ne (tgt := 91) hx hb dX11_heaviest_78 (by decide) (fun c78_7 => ?_) (fun c78_7 => ?_)
                    · skip
                      refine lv_iconst (v := nI (0)) hx hb dX11_heaviest_91 (by decide) ?_
                      refine zNadd hx hb dX11_heaviest_92 ?_
                      refine lv_istore_n (lv' := [(3, .int (nI ((acc + 0)))), (6, .int (((y_kd y (k)) - (y_kd y (i))))), (5, .int (((y_w y (i)) - (y_w y (k))))), (0, .ref (o 0)), (1, .int (x1)), (2, .int (nI (k))), (4, .int (nI (i)))]) hx hb dX11_heaviest_93 rfl hl (by decide) rfl (fun ls hl => ?_)
                      refine lv_iinc (v := nI ((i + 1))) (lv' := [(4, .int (nI ((i + 1)))), (3, .int (nI ((acc + 0)))), (6, .int (((y_kd y (k)) - (y_kd y (i))))), (5, .int (((y_w y (i)) - (y_w y (k))))), (0, .ref (o 0)), (1, .int (x1)), (2, .int (nI (k)))]) hx hb dX11_heaviest_94 hl (k := 6) rfl (zInc _) (by decide) rfl (fun ls hl => ?_)
                      refine lv_goto (tgt := 17) hx hb dX11_heaviest_97 (by decide) ?_
                      exact ih17 ((i + 1)) ((acc + 0)) H locs ls (by omega) (by simp only [cN, hacc, nI_0, c9_1, c25_2, c63_4, eq_true c68_5, c73_6, c78_7, p_in, p_worn, p_wi, p_creak, p_le0, p_lt1, p_rng, pmT, pmC, not_true_eq_false, not_false_eq_true, if_true, if_false, and_true, true_and, and_false, false_and, or_true, true_or, or_false, false_or, and_self, or_self, iff_true, true_iff, iff_false, false_iff, decide_eq_true_eq, decide_true, decide_false, Int32.add_zero, Nat.add_zero, ne_eq, Bool.false_eq_true, eq_self]) (by omega) hP hD hS (lv_sub hl [4, 5, 6, 1, 0] rfl)
                    · skip
                      refine lv_iload hx hb dX11_heaviest_81 (lv_at hl 6 rfl) ?_
                      refine lv_iload_n hx hb dX11_heaviest_83 rfl (lv_at hl 4 rfl) ?_
                      refine zN_icmp_ge (tgt := 91) hx hb (by omega) (by omega) dX11_heaviest_84 (by decide) (fun c84_8 => ?_) (fun c84_8 => ?_)
                      · skip
                        refine lv_iconst (v := nI (0)) hx hb dX11_heaviest_91 (by decide) ?_
                        refine zNadd hx hb dX11_heaviest_92 ?_
                        refine lv_istore_n (lv' := [(3, .int (nI ((acc + 0)))), (6, .int (((y_kd y (k)) - (y_kd y (i))))), (5, .int (((y_w y (i)) - (y_w y (k))))), (0, .ref (o 0)), (1, .int (x1)), (2, .int (nI (k))), (4, .int (nI (i)))]) hx hb dX11_heaviest_93 rfl hl (by decide) rfl (fun ls hl => ?_)
                        refine lv_iinc (v := nI ((i + 1))) (lv' := [(4, .int (nI ((i + 1)))), (3, .int (nI ((acc + 0)))), (6, .int (((y_kd y (k)) - (y_kd y (i))))), (5, .int (((y_w y (i)) - (y_w y (k))))), (0, .ref (o 0)), (1, .int (x1)), (2, .int (nI (k)))]) hx hb dX11_heaviest_94 hl (k := 6) rfl (zInc _) (by decide) rfl (fun ls hl => ?_)
                        refine lv_goto (tgt := 17) hx hb dX11_heaviest_97 (by decide) ?_
                        exact ih17 ((i + 1)) ((acc + 0)) H locs ls (by omega) (by simp only [cN, hacc, nI_0, c9_1, c25_2, c63_4, eq_true c68_5, c73_6, eq_true c78_7, c84_8, p_in, p_worn, p_wi, p_creak, p_le0, p_lt1, p_rng, pmT, pmC, not_true_eq_false, not_false_eq_true, if_true, if_false, and_true, true_and, and_false, false_and, or_true, true_or, or_false, false_or, and_self, or_self, iff_true, true_iff, iff_false, false_iff, decide_eq_true_eq, decide_true, decide_false, Int32.add_zero, Nat.add_zero, ne_eq, Bool.false_eq_true, eq_self]) (by omega) hP hD hS (lv_sub hl [4, 5, 6, 1, 0] rfl)
                      · skip
                        refine lv_iconst (v := nI (1)) hx hb dX11_heaviest_87 (by decide) ?_
                        refine lv_goto (tgt := 92) hx hb dX11_heaviest_88 (by decide) ?_
                        refine zNadd hx hb dX11_heaviest_92 ?_
                        refine lv_istore_n (lv' := [(3, .int (nI ((acc + 1)))), (6, .int (((y_kd y (k)) - (y_kd y (i))))), (5, .int (((y_w y (i)) - (y_w y (k))))), (0, .ref (o 0)), (1, .int (x1)), (2, .int (nI (k))), (4, .int (nI (i)))]) hx hb dX11_heaviest_93 rfl hl (by decide) rfl (fun ls hl => ?_)
                        refine lv_iinc (v := nI ((i + 1))) (lv' := [(4, .int (nI ((i + 1)))), (3, .int (nI ((acc + 1)))), (6, .int (((y_kd y (k)) - (y_kd y (i))))), (5, .int (((y_w y (i)) - (y_w y (k))))), (0, .ref (o 0)), (1, .int (x1)), (2, .int (nI (k)))]) hx hb dX11_heaviest_94 hl (k := 6) rfl (zInc _) (by decide) rfl (fun ls hl => ?_)
                        refine lv_goto (tgt := 17) hx hb dX11_heaviest_97 (by decide) ?_
                        exact ih17 ((i + 1)) ((acc + 1)) H locs ls (by omega) (by simp only [cN, hacc, nI_0, c9_1, c25_2, c63_4, eq_true c68_5, c73_6, eq_true c78_7, c84_8, p_in, p_worn, p_wi, p_creak, p_le0, p_lt1, p_rng, pmT, pmC, not_true_eq_false, not_false_eq_true, if_true, if_false, and_true, true_and, and_false, false_and, or_true, true_or, or_false, false_or, and_self, or_self, iff_true, true_iff, iff_false, false_iff, decide_eq_true_eq, decide_true, decide_false, Int32.add_zero, Nat.add_zero, ne_eq, Bool.false_eq_true, eq_self]) (by omega) hP hD hS (lv_sub hl [4, 5, 6, 1, 0] rfl)
        exact lp17 ((y_n y - (0)) + 1) (0) (0) H locs ls (by omega) rfl (Nat.lt_succ_self _) hP hD hS (lv_sub hl [2, 3, 4, 1, 0] rfl)
  exact lp2 ((y_n y - (0)) + 1) (0) H locs ls (by omega) (fun j hj => absurd hj (Nat.not_lt_zero j)) (Nat.lt_succ_self _) hP hD hS (lv_sub hl [1, 2, 0] rfl)
abbrev rmX11_fullest : Room := { frames := 4, cells := 0, slots := 0, locals := 90 }
theorem in_X11_fullest_X11 : ∀ w ∈ u_ws RX11 TX11 19, w ∈ wsX11_fullest := by decide +kernel
set_option maxHeartbeats 4000000 in
set_option maxRecDepth 100000 in
theorem kX11_fullest {D : va_G} {ct : Nat → ClassId} {l : Launch} (o : Nat → Nat) (v : MS) (R : va_W) (x1 : Int32) (y : YS) (hy : yI y) (hq : RelI y (m_g v)) : MI D ct l yX11_fullest wsX11_fullest rmX11_fullest (MW ct o v R) [.ref (o 0), .int (x1)] (fun r0 (_ : Unit) => r0 = ordI (fun j k => decide (pmC y j k)) (y_cn y) x1) (fun _ : Unit => MW ct o v R) := by
  refine MIof (cc := cX11_fullest) (maxL := 7) (ret := (some .int)) (by decide) rfl (Nat.le_of_ble_eq_true rfl) ?_
  intro p e s m args below meth c A H locs F hP hK hD hS hA ls hl
  obtain ⟨hx, hb, hr, hlocks, hml, hown, hts, hin⟩ := F
  have hl : lv_has ls 7 [(0, .ref (o 0)), (1, .int (x1))] := hl
  have hB : y_n y ≤ 12 ∧ y_cn y ≤ 4 ∧ y_rn y ≤ 5 := ⟨hy.1, hy.2.1, hy.2.2.1⟩
  have hn : y_n y ≤ 12 := hy.1
  have hcn : y_cn y ≤ 4 := hy.2.1
  have hrn : y_rn y ≤ 5 := hy.2.2.1
  have h_X11 := in_X11_fullest_X11
  have f9 := hts (.fieldLink RX11 9 "CartArgumentsModel" "all" "[I") (by decide +kernel)
  refine lv_iconst (v := nI (0)) hx hb dX11_fullest_0 (by decide) ?_
  refine lv_istore_n (lv' := [(2, .int (nI (0))), (0, .ref (o 0)), (1, .int (x1))]) hx hb dX11_fullest_1 rfl hl (by decide) rfl (fun ls hl => ?_)
  have lp2 : ∀ (fu : Nat) (k : Nat) (H : Heap) (locs : List Loc) (ls : Array Slot), (k ≤ y_cn y) → (∀ j, j < k → (fun k => decide (nI (cN (fun j => (fun j k => decide (pmC y j k)) j k) (y_cn y)) = x1)) j = false) → y_cn y - k < fu → va_P D vwCl (MW ct o v R) H → va_D A (MW ct o v R) → va_S A s.heap H locs → lv_has ls 7 [(0, .ref (o 0)), (1, .int (x1)), (2, .int (nI (k)))] → W p l e rmX11_fullest s m args below meth c H locs 0 0 (MQ below (va_Qi (fun r0 (_ : Unit) => r0 = ordI (fun j k => decide (pmC y j k)) (y_cn y) x1) (zB D ct A (fun _ : Unit => MW ct o v R)) A) args s rmX11_fullest.cells rmX11_fullest.slots A) (F0 m 2 ls []) := by
    intro fu
    induction fu with
    | zero => intro k H locs ls hk hno hfu; exact absurd hfu (Nat.not_lt_zero _)
    | succ fu ih2 =>
      intro k H locs ls hk hno hfu hP hD hS hl
      refine lv_iload_n hx hb dX11_fullest_2 rfl (lv_at hl 2 rfl) ?_
      refine lv_aload_n hx hb dX11_fullest_3 rfl (lv_at hl 0 rfl) ?_
      refine va_get (ci := 10) (v := .ref (o 1)) hx hb hts h_X11 hown hK hP 0 rfl rfl 0 (by decide) f9 (fun _ h9 => h9) rfl dX11_fullest_4 ?_
      refine lv_iconst (v := nI (1)) hx hb dX11_fullest_7 (by decide) ?_
      refine zIald (n := 972) (f := m_g v) (i := 1) hx hb hK hP 1 rfl (by omega) (by decide) dX11_fullest_8 ?_
      refine zTop (y := nI (y_cn y)) hq.2.1 ?_
      refine zN_icmp_ge (tgt := 109) hx hb (by omega) (by omega) dX11_fullest_9 (by decide) (fun c9_1 => ?_) (fun c9_1 => ?_)
      · skip
        refine lv_iconst (v := (-1)) hx hb dX11_fullest_109 (by decide) ?_
        exact zIret () hx hb hr hlocks hK hP hD hS dX11_fullest_110 (show (-1) = ordI (fun j k => decide (pmC y j k)) (y_cn y) x1 from (ordI_none (P := fun j k => decide (pmC y j k)) (fun j hj => hno j (by omega))).symm)
      · skip
        refine lv_iconst (v := nI (0)) hx hb dX11_fullest_12 (by decide) ?_
        refine lv_istore_n (lv' := [(3, .int (nI (0))), (0, .ref (o 0)), (1, .int (x1)), (2, .int (nI (k)))]) hx hb dX11_fullest_13 rfl hl (by decide) rfl (fun ls hl => ?_)
        refine lv_iconst (v := nI (0)) hx hb dX11_fullest_14 (by decide) ?_
        refine lv_istore (lv' := [(4, .int (nI (0))), (3, .int (nI (0))), (0, .ref (o 0)), (1, .int (x1)), (2, .int (nI (k)))]) hx hb dX11_fullest_15 hl (by decide) rfl (fun ls hl => ?_)
        have lp17 : ∀ (fu : Nat) (i : Nat) (acc : Nat) (H : Heap) (locs : List Loc) (ls : Array Slot), (i ≤ y_cn y) → (acc = cN (fun j => decide (pmC y j k)) i) → y_cn y - i < fu → va_P D vwCl (MW ct o v R) H → va_D A (MW ct o v R) → va_S A s.heap H locs → lv_has ls 7 [(0, .ref (o 0)), (1, .int (x1)), (2, .int (nI (k))), (3, .int (nI (acc))), (4, .int (nI (i)))] → W p l e rmX11_fullest s m args below meth c H locs 0 0 (MQ below (va_Qi (fun r0 (_ : Unit) => r0 = ordI (fun j k => decide (pmC y j k)) (y_cn y) x1) (zB D ct A (fun _ : Unit => MW ct o v R)) A) args s rmX11_fullest.cells rmX11_fullest.slots A) (F0 m 17 ls []) := by
          intro fu
          induction fu with
          | zero => intro i acc H locs ls hi hacc hfu; exact absurd hfu (Nat.not_lt_zero _)
          | succ fu ih17 =>
            intro i acc H locs ls hi hacc hfu hP hD hS hl
            refine lv_iload hx hb dX11_fullest_17 (lv_at hl 4 rfl) ?_
            refine lv_aload_n hx hb dX11_fullest_19 rfl (lv_at hl 0 rfl) ?_
            refine va_get (ci := 10) (v := .ref (o 1)) hx hb hts h_X11 hown hK hP 0 rfl rfl 0 (by decide) f9 (fun _ h9 => h9) rfl dX11_fullest_20 ?_
            refine lv_iconst (v := nI (1)) hx hb dX11_fullest_23 (by decide) ?_
            refine zIald (n := 972) (f := m_g v) (i := 1) hx hb hK hP 1 rfl (by omega) (by decide) dX11_fullest_24 ?_
            refine zTop (y := nI (y_cn y)) hq.2.1 ?_
            refine zN_icmp_ge (tgt := 96) hx hb (by omega) (by omega) dX11_fullest_25 (by decide) (fun c25_2 => ?_) (fun c25_2 => ?_)
            · skip
              refine lv_iload_n hx hb dX11_fullest_96 rfl (lv_at hl 3 rfl) ?_
              refine lv_iload_n hx hb dX11_fullest_97 rfl (lv_at hl 1 rfl) ?_
              refine lv_icmp_ne (tgt := 103) hx hb dX11_fullest_98 (by decide) (fun c98_3 => ?_) (fun c98_3 => ?_)
              · skip
                refine lv_iinc (v := nI ((k + 1))) (lv' := [(2, .int (nI ((k + 1)))), (0, .ref (o 0)), (1, .int (x1)), (3, .int (nI (acc))), (4, .int (nI (i)))]) hx hb dX11_fullest_103 hl (k := 2) rfl (zInc _) (by decide) rfl (fun ls hl => ?_)
                refine lv_goto (tgt := 2) hx hb dX11_fullest_106 (by decide) ?_
                exact ih2 ((k + 1)) H locs ls (by omega) (lt_s hno (by rw [hacc, show i = y_cn y by omega] at c98_3; exact decide_eq_false c98_3)) (by omega) hP hD hS (lv_sub hl [1, 2, 0] rfl)
              · skip
                refine lv_iload_n hx hb dX11_fullest_101 rfl (lv_at hl 2 rfl) ?_
                exact zIret () hx hb hr hlocks hK hP hD hS dX11_fullest_102 (show nI (k) = ordI (fun j k => decide (pmC y j k)) (y_cn y) x1 from (ordI_some (P := fun j k => decide (pmC y j k)) (by have q := c98_3; rw [hacc, show i = y_cn y by omega] at q; exact decide_eq_true q) hno (by omega)).symm)
            · skip
              refine lv_aload_n hx hb dX11_fullest_28 rfl (lv_at hl 0 rfl) ?_
              refine lv_iload hx hb dX11_fullest_29 (lv_at hl 4 rfl) ?_
              refine zVI [.int (nI (i))] [] (kX11_weightOf (o) (v) (R) (i) (y) (show y_n (y) ≤ 12 ∧ y_cn (y) ≤ 4 ∧ y_rn (y) ≤ 5 from hB) (show RelI (y) (m_g v) from hq) (show (i) < 4 from by omega)) hx hb hml hown hts (cwV 1 hts gX11_fullest_X11_weightOf rfl rfl rfl (by decide +kernel) ⟨(Nat.le_of_ble_eq_true rfl), (Nat.le_of_ble_eq_true rfl)⟩) hK hP hD hS hA (va_recv hK hP (ci := 10) (q0 := 0) rfl rfl) rfl hl.1 rfl (Nat.le_of_ble_eq_true rfl) dX11_fullest_31 ⟨(Nat.le_of_ble_eq_true rfl), (Nat.le_of_ble_eq_true rfl)⟩ (fun r_31 _ H locs hr_31 hP hD hS => ?_)
              subst hr_31
              have hP : va_P D vwCl (MW ct o v R) H := hP
              have hD : va_D A (MW ct o v R) := hD
              refine lv_aload_n hx hb dX11_fullest_34 rfl (lv_at hl 0 rfl) ?_
              refine lv_iload_n hx hb dX11_fullest_35 rfl (lv_at hl 2 rfl) ?_
              refine zVI [.int (nI (k))] [.int ((t_all (y) (nI (i))))] (kX11_weightOf (o) (v) (R) (k) (y) (show y_n (y) ≤ 12 ∧ y_cn (y) ≤ 4 ∧ y_rn (y) ≤ 5 from hB) (show RelI (y) (m_g v) from hq) (show (k) < 4 from by omega)) hx hb hml hown hts (cwV 1 hts gX11_fullest_X11_weightOf rfl rfl rfl (by decide +kernel) ⟨(Nat.le_of_ble_eq_true rfl), (Nat.le_of_ble_eq_true rfl)⟩) hK hP hD hS hA (va_recv hK hP (ci := 10) (q0 := 0) rfl rfl) rfl hl.1 rfl (Nat.le_of_ble_eq_true rfl) dX11_fullest_36 ⟨(Nat.le_of_ble_eq_true rfl), (Nat.le_of_ble_eq_true rfl)⟩ (fun r_36 _ H locs hr_36 hP hD hS => ?_)
              subst hr_36
              have hP : va_P D vwCl (MW ct o v R) H := hP
              have hD : va_D A (MW ct o v R) := hD
              refine lv_isub hx hb dX11_fullest_39 ?_
              refine lv_istore (lv' := [(5, .int (((t_all (y) (nI (i))) - (t_all (y) (nI (k)))))), (0, .ref (o 0)), (1, .int (x1)), (2, .int (nI (k))), (3, .int (nI (acc))), (4, .int (nI (i)))]) hx hb dX11_fullest_40 hl (by decide) rfl (fun ls hl => ?_)
              refine lv_aload_n hx hb dX11_fullest_42 rfl (lv_at hl 1 rfl) ?_
              refine lv_iload_n hx hb dX11_fullest_43 rfl (lv_at hl 3 rfl) ?_
              refine zVI [.int (nI (k))] [] (kX11_imbalance (o) (v) (R) (k) (y) (show y_n (y) ≤ 12 ∧ y_cn (y) ≤ 4 ∧ y_rn (y) ≤ 5 from hB) (show RelI (y) (m_g v) from hq) (show (k) < 4 from by omega)) hx hb hml hown hts (cwV 1 hts gX11_fullest_X11_imbalance rfl rfl rfl (by decide +kernel) ⟨(Nat.le_of_ble_eq_true rfl), (Nat.le_of_ble_eq_true rfl)⟩) hK hP hD hS hA (va_recv hK hP (ci := 10) (q0 := 0) rfl rfl) rfl hl.1 rfl (Nat.le_of_ble_eq_true rfl) dX11_fullest_44 ⟨(Nat.le_of_ble_eq_true rfl), (Nat.le_of_ble_eq_true rfl)⟩ (fun r_44 _ H locs hr_44 hP hD hS => ?_)
              subst hr_44
              have hP : va_P D vwCl (MW ct o v R) H := hP
              have hD : va_D A (MW ct o v R) := hD
              refine lv_aload_n hx hb dX11_fullest_47 rfl (lv_at hl 1 rfl) ?_
              refine lv_iload hx hb dX11_fullest_48 (lv_at hl 5 rfl) ?_
              refine zVI [.int (nI (i))] [.int ((t_im (y) (nI (k))))] (kX11_imbalance (o) (v) (R) (i) (y) (show y_n (y) ≤ 12 ∧ y_cn (y) ≤ 4 ∧ y_rn (y) ≤ 5 from hB) (show RelI (y) (m_g v) from hq) (show (i) < 4 from by omega)) hx hb hml hown hts (cwV 1 hts gX11_fullest_X11_imbalance rfl rfl rfl (by decide +kernel) ⟨(Nat.le_of_ble_eq_true rfl), (Nat.le_of_ble_eq_true rfl)⟩) hK hP hD hS hA (va_recv hK hP (ci := 10) (q0 := 0) rfl rfl) rfl hl.1 rfl (Nat.le_of_ble_eq_true rfl) dX11_fullest_50 ⟨(Nat.le_of_ble_eq_true rfl), (Nat.le_of_ble_eq_true rfl)⟩ (fun r_50 _ H locs hr_50 hP hD hS => ?_)
              subst hr_50
              have hP : va_P D vwCl (MW ct o v R) H := hP
              have hD : va_D A (MW ct o v R) := hD
              refine lv_isub hx hb dX11_fullest_53 ?_
              refine lv_istore (lv' := [(6, .int (((t_im (y) (nI (k))) - (t_im (y) (nI (i)))))), (5, .int (((t_all (y) (nI (i))) - (t_all (y) (nI (k)))))), (0, .ref (o 0)), (1, .int (x1)), (2, .int (nI (k))), (3, .int (nI (acc))), (4, .int (nI (i)))]) hx hb dX11_fullest_54 hl (by decide) rfl (fun ls hl => ?_)
              refine lv_iload_n hx hb dX11_fullest_56 rfl (lv_at hl 5 rfl) ?_
              refine lv_iload hx hb dX11_fullest_57 (lv_at hl 1 rfl) ?_
              refine lv_if_gt (tgt := 83) hx hb dX11_fullest_59 (by decide) (fun c59_4 => ?_) (fun c59_4 => ?_)
              · skip
                refine lv_iconst (v := nI (1)) hx hb dX11_fullest_83 (by decide) ?_
                refine lv_goto (tgt := 88) hx hb dX11_fullest_84 (by decide) ?_
                refine zNadd hx hb dX11_fullest_88 ?_
                refine lv_istore_n (lv' := [(3, .int (nI ((acc + 1)))), (6, .int (((t_im (y) (nI (k))) - (t_im (y) (nI (i)))))), (5, .int (((t_all (y) (nI (i))) - (t_all (y) (nI (k)))))), (0, .ref (o 0)), (1, .int (x1)), (2, .int (nI (k))), (4, .int (nI (i)))]) hx hb dX11_fullest_89 rfl hl (by decide) rfl (fun ls hl => ?_)
                refine lv_iinc (v := nI ((i + 1))) (lv' := [(4, .int (nI ((i + 1)))), (3, .int (nI ((acc + 1)))), (6, .int (((t_im (y) (nI (k))) - (t_im (y) (nI (i)))))), (5, .int (((t_all (y) (nI (i))) - (t_all (y) (nI (k)))))), (0, .ref (o 0)), (1, .int (x1)), (2, .int (nI (k)))]) hx hb dX11_fullest_90 hl (k := 6) rfl (zInc _) (by decide) rfl (fun ls hl => ?_)
                refine lv_goto (tgt := 17) hx hb dX11_fullest_93 (by decide) ?_
                exact ih17 ((i + 1)) ((acc + 1)) H locs ls (by omega) (by simp only [cN, hacc, nI_0, c9_1, c25_2, c59_4, p_in, p_worn, p_wi, p_creak, p_le0, p_lt1, p_rng, pmT, pmC, not_true_eq_false, not_false_eq_true, if_true, if_false, and_true, true_and, and_false, false_and, or_true, true_or, or_false, false_or, and_self, or_self, iff_true, true_iff, iff_false, false_iff, decide_eq_true_eq, decide_true, decide_false, Int32.add_zero, Nat.add_zero, ne_eq, Bool.false_eq_true, eq_self]) (by omega) hP hD hS (lv_sub hl [4, 5, 6, 1, 0] rfl)
              · skip
                refine lv_iload hx hb dX11_fullest_62 (lv_at hl 1 rfl) ?_
                refine lv_if_ne (tgt := 87) hx hb dX11_fullest_64 (by decide) (fun c64_5 => ?_) (fun c64_5 => ?_)
                · skip
                  refine lv_iconst (v := nI (0)) hx hb dX11_fullest_87 (by decide) ?_
                  refine zNadd hx hb dX11_fullest_88 ?_
                  refine lv_istore_n (lv' := [(3, .int (nI ((acc + 0)))), (6, .int (((t_im (y) (nI (k))) - (t_im (y) (nI (i)))))), (5, .int (((t_all (y) (nI (i))) - (t_all (y) (nI (k)))))), (0, .ref (o 0)), (1, .int (x1)), (2, .int (nI (k))), (4, .int (nI (i)))]) hx hb dX11_fullest_89 rfl hl (by decide) rfl (fun ls hl => ?_)
                  refine lv_iinc (v := nI ((i + 1))) (lv' := [(4, .int (nI ((i + 1)))), (3, .int (nI ((acc + 0)))), (6, .int (((t_im (y) (nI (k))) - (t_im (y) (nI (i)))))), (5, .int (((t_all (y) (nI (i))) - (t_all (y) (nI (k)))))), (0, .ref (o 0)), (1, .int (x1)), (2, .int (nI (k)))]) hx hb dX11_fullest_90 hl (k := 6) rfl (zInc _) (by decide) rfl (fun ls hl => ?_)
                  refine lv_goto (tgt := 17) hx hb dX11_fullest_93 (by decide) ?_
                  exact ih17 ((i + 1)) ((acc + 0)) H locs ls (by omega) (by simp only [cN, hacc, nI_0, c9_1, c25_2, c59_4, c64_5, p_in, p_worn, p_wi, p_creak, p_le0, p_lt1, p_rng, pmT, pmC, not_true_eq_false, not_false_eq_true, if_true, if_false, and_true, true_and, and_false, false_and, or_true, true_or, or_false, false_or, and_self, or_self, iff_true, true_iff, iff_false, false_iff, decide_eq_true_eq, decide_true, decide_false, Int32.add_zero, Nat.add_zero, ne_eq, Bool.false_eq_true, eq_self]) (by omega) hP hD hS (lv_sub hl [4, 5, 6, 1, 0] rfl)
                · skip
                  refine lv_iload hx hb dX11_fullest_67 (lv_at hl 0 rfl) ?_
                  refine lv_if_gt (tgt := 83) hx hb dX11_fullest_69 (by decide) (fun c69_6 => ?_) (fun c69_6 => ?_)
                  · skip
                    refine lv_iconst (v := nI (1)) hx hb dX11_fullest_83 (by decide) ?_
                    refine lv_goto (tgt := 88) hx hb dX11_fullest_84 (by decide) ?_
                    refine zNadd hx hb dX11_fullest_88 ?_
                    refine lv_istore_n (lv' := [(3, .int (nI ((acc + 1)))), (6, .int (((t_im (y) (nI (k))) - (t_im (y) (nI (i)))))), (5, .int (((t_all (y) (nI (i))) - (t_all (y) (nI (k)))))), (0, .ref (o 0)), (1, .int (x1)), (2, .int (nI (k))), (4, .int (nI (i)))]) hx hb dX11_fullest_89 rfl hl (by decide) rfl (fun ls hl => ?_)
                    refine lv_iinc (v := nI ((i + 1))) (lv' := [(4, .int (nI ((i + 1)))), (3, .int (nI ((acc + 1)))), (6, .int (((t_im (y) (nI (k))) - (t_im (y) (nI (i)))))), (5, .int (((t_all (y) (nI (i))) - (t_all (y) (nI (k)))))), (0, .ref (o 0)), (1, .int (x1)), (2, .int (nI (k)))]) hx hb dX11_fullest_90 hl (k := 6) rfl (zInc _) (by decide) rfl (fun ls hl => ?_)
                    refine lv_goto (tgt := 17) hx hb dX11_fullest_93 (by decide) ?_
                    exact ih17 ((i + 1)) ((acc + 1)) H locs ls (by omega) (by simp only [cN, hacc, nI_0, c9_1, c25_2, c59_4, eq_true c64_5, c69_6, p_in, p_worn, p_wi, p_creak, p_le0, p_lt1, p_rng, pmT, pmC, not_true_eq_false, not_false_eq_true, if_true, if_false, and_true, true_and, and_false, false_and, or_true, true_or, or_false, false_or, and_self, or_self, iff_true, true_iff, iff_false, false_iff, decide_eq_true_eq, decide_true, decide_false, Int32.add_zero, Nat.add_zero, ne_eq, Bool.false_eq_true, eq_self]) (by omega) hP hD hS (lv_sub hl [4, 5, 6, 1, 0] rfl)
                  · skip
                    refine lv_iload hx hb dX11_fullest_72 (lv_at hl 0 rfl) ?_
                    refine lv_if_ne (tgt := 87) hx hb dX11_fullest_74 (by decide) (fun c74_7 => ?_) (fun c74_7 => ?_)
                    · skip
                      refine lv_iconst (v := nI (0)) hx hb dX11_fullest_87 (by decide) ?_
                      refine zNadd hx hb dX11_fullest_88 ?_
                      refine lv_istore_n (lv' := [(3, .int (nI ((acc + 0)))), (6, .int (((t_im (y) (nI (k))) - (t_im (y) (nI (i)))))), (5, .int (((t_all (y) (nI (i))) - (t_all (y) (nI (k)))))), (0, .ref (o 0)), (1, .int (x1)), (2, .int (nI (k))), (4, .int (nI (i)))]) hx hb dX11_fullest_89 rfl hl (by decide) rfl (fun ls hl => ?_)
                      refine lv_iinc (v := nI ((i + 1))) (lv' := [(4, .int (nI ((i + 1)))), (3, .int (nI ((acc + 0)))), (6, .int (((t_im (y) (nI (k))) - (t_im (y) (nI (i)))))), (5, .int (((t_all (y) (nI (i))) - (t_all (y) (nI (k)))))), (0, .ref (o 0)), (1, .int (x1)), (2, .int (nI (k)))]) hx hb dX11_fullest_90 hl (k := 6) rfl (zInc _) (by decide) rfl (fun ls hl => ?_)
                      refine lv_goto (tgt := 17) hx hb dX11_fullest_93 (by decide) ?_
                      exact ih17 ((i + 1)) ((acc + 0)) H locs ls (by omega) (by simp only [cN, hacc, nI_0, c9_1, c25_2, c59_4, eq_true c64_5, c69_6, c74_7, p_in, p_worn, p_wi, p_creak, p_le0, p_lt1, p_rng, pmT, pmC, not_true_eq_false, not_false_eq_true, if_true, if_false, and_true, true_and, and_false, false_and, or_true, true_or, or_false, false_or, and_self, or_self, iff_true, true_iff, iff_false, false_iff, decide_eq_true_eq, decide_true, decide_false, Int32.add_zero, Nat.add_zero, ne_eq, Bool.false_eq_true, eq_self]) (by omega) hP hD hS (lv_sub hl [4, 5, 6, 1, 0] rfl)
                    · skip
                      refine lv_iload hx hb dX11_fullest_77 (lv_at hl 6 rfl) ?_
                      refine lv_iload_n hx hb dX11_fullest_79 rfl (lv_at hl 4 rfl) ?_
                      refine zN_icmp_ge (tgt := 87) hx hb (by omega) (by omega) dX11_fullest_80 (by decide) (fun c80_8 => ?_) (fun c80_8 => ?_)
                      · skip
                        refine lv_iconst (v := nI (0)) hx hb dX11_fullest_87 (by decide) ?_
                        refine zNadd hx hb dX11_fullest_88 ?_
                        refine lv_istore_n (lv' := [(3, .int (nI ((acc + 0)))), (6, .int (((t_im (y) (nI (k))) - (t_im (y) (nI (i)))))), (5, .int (((t_all (y) (nI (i))) - (t_all (y) (nI (k)))))), (0, .ref (o 0)), (1, .int (x1)), (2, .int (nI (k))), (4, .int (nI (i)))]) hx hb dX11_fullest_89 rfl hl (by decide) rfl (fun ls hl => ?_)
                        refine lv_iinc (v := nI ((i + 1))) (lv' := [(4, .int (nI ((i + 1)))), (3, .int (nI ((acc + 0)))), (6, .int (((t_im (y) (nI (k))) - (t_im (y) (nI (i)))))), (5, .int (((t_all (y) (nI (i))) - (t_all (y) (nI (k)))))), (0, .ref (o 0)), (1, .int (x1)), (2, .int (nI (k)))]) hx hb dX11_fullest_90 hl (k := 6) rfl (zInc _) (by decide) rfl (fun ls hl => ?_)
                        refine lv_goto (tgt := 17) hx hb dX11_fullest_93 (by decide) ?_
                        exact ih17 ((i + 1)) ((acc + 0)) H locs ls (by omega) (by simp only [cN, hacc, nI_0, c9_1, c25_2, c59_4, eq_true c64_5, c69_6, eq_true c74_7, c80_8, p_in, p_worn, p_wi, p_creak, p_le0, p_lt1, p_rng, pmT, pmC, not_true_eq_false, not_false_eq_true, if_true, if_false, and_true, true_and, and_false, false_and, or_true, true_or, or_false, false_or, and_self, or_self, iff_true, true_iff, iff_false, false_iff, decide_eq_true_eq, decide_true, decide_false, Int32.add_zero, Nat.add_zero, ne_eq, Bool.false_eq_true, eq_self]) (by omega) hP hD hS (lv_sub hl [4, 5, 6, 1, 0] rfl)
                      · skip
                        refine lv_iconst (v := nI (1)) hx hb dX11_fullest_83 (by decide) ?_
                        refine lv_goto (tgt := 88) hx hb dX11_fullest_84 (by decide) ?_
                        refine zNadd hx hb dX11_fullest_88 ?_
                        refine lv_istore_n (lv' := [(3, .int (nI ((acc + 1)))), (6, .int (((t_im (y) (nI (k))) - (t_im (y) (nI (i)))))), (5, .int (((t_all (y) (nI (i))) - (t_all (y) (nI (k)))))), (0, .ref (o 0)), (1, .int (x1)), (2, .int (nI (k))), (4, .int (nI (i)))]) hx hb dX11_fullest_89 rfl hl (by decide) rfl (fun ls hl => ?_)
                        refine lv_iinc (v := nI ((i + 1))) (lv' := [(4, .int (nI ((i + 1)))), (3, .int (nI ((acc + 1)))), (6, .int (((t_im (y) (nI (k))) - (t_im (y) (nI (i)))))), (5, .int (((t_all (y) (nI (i))) - (t_all (y) (nI (k)))))), (0, .ref (o 0)), (1, .int (x1)), (2, .int (nI (k)))]) hx hb dX11_fullest_90 hl (k := 6) rfl (zInc _) (by decide) rfl (fun ls hl => ?_)
                        refine lv_goto (tgt := 17) hx hb dX11_fullest_93 (by decide) ?_
                        exact ih17 ((i + 1)) ((acc + 1)) H locs ls (by omega) (by simp only [cN, hacc, nI_0, c9_1, c25_2, c59_4, eq_true c64_5, c69_6, eq_true c74_7, c80_8, p_in, p_worn, p_wi, p_creak, p_le0, p_lt1, p_rng, pmT, pmC, not_true_eq_false, not_false_eq_true, if_true, if_false, and_true, true_and, and_false, false_and, or_true, true_or, or_false, false_or, and_self, or_self, iff_true, true_iff, iff_false, false_iff, decide_eq_true_eq, decide_true, decide_false, Int32.add_zero, Nat.add_zero, ne_eq, Bool.false_eq_true, eq_self]) (by omega) hP hD hS (lv_sub hl [4, 5, 6, 1, 0] rfl)
        exact lp17 ((y_cn y - (0)) + 1) (0) (0) H locs ls (by omega) rfl (Nat.lt_succ_self _) hP hD hS (lv_sub hl [2, 3, 4, 1, 0] rfl)
  exact lp2 ((y_cn y - (0)) + 1) (0) H locs ls (by omega) (fun j hj => absurd hj (Nat.not_lt_zero j)) (Nat.lt_succ_self _) hP hD hS (lv_sub hl [1, 2, 0] rfl)
abbrev rmX11_weightsOf : Room := { frames := 1, cells := 0, slots := 0, locals := 22 }
theorem in_X11_weightsOf_X11 : ∀ w ∈ u_ws RX11 TX11 19, w ∈ wsX11_weightsOf := by decide +kernel
set_option maxHeartbeats 4000000 in
set_option maxRecDepth 100000 in
theorem kX11_weightsOf {D : va_G} {ct : Nat → ClassId} {l : Launch} (o : Nat → Nat) (v : MS) (R : va_W) (x1 : Int32) (y : YS) (hy : yI y) (hq : RelI y (m_g v)) : MI D ct l yX11_weightsOf wsX11_weightsOf rmX11_weightsOf (MW ct o v R) [.ref (o 0), .int (x1)] (fun r0 (_ : Unit) => r0 = t_swk y x1) (fun _ : Unit => MW ct o v R) := by
  refine MIof (cc := cX11_weightsOf) (maxL := 4) (ret := (some .int)) (by decide) rfl (Nat.le_of_ble_eq_true rfl) ?_
  intro p e s m args below meth c A H locs F hP hK hD hS hA ls hl
  obtain ⟨hx, hb, hr, hlocks, hml, hown, hts, hin⟩ := F
  have hl : lv_has ls 4 [(0, .ref (o 0)), (1, .int (x1))] := hl
  have hB : y_n y ≤ 12 ∧ y_cn y ≤ 4 ∧ y_rn y ≤ 5 := ⟨hy.1, hy.2.1, hy.2.2.1⟩
  have hn : y_n y ≤ 12 := hy.1
  have hcn : y_cn y ≤ 4 := hy.2.1
  have hrn : y_rn y ≤ 5 := hy.2.2.1
  have h_X11 := in_X11_weightsOf_X11
  have f9 := hts (.fieldLink RX11 9 "CartArgumentsModel" "all" "[I") (by decide +kernel)
  refine lv_iconst (v := nI (0)) hx hb dX11_weightsOf_0 (by decide) ?_
  refine lv_istore_n (lv' := [(2, .int (nI (0))), (0, .ref (o 0)), (1, .int (x1))]) hx hb dX11_weightsOf_1 rfl hl (by decide) rfl (fun ls hl => ?_)
  refine lv_iconst (v := nI (0)) hx hb dX11_weightsOf_2 (by decide) ?_
  refine lv_istore_n (lv' := [(3, .int (nI (0))), (2, .int (nI (0))), (0, .ref (o 0)), (1, .int (x1))]) hx hb dX11_weightsOf_3 rfl hl (by decide) rfl (fun ls hl => ?_)
  have lp4 : ∀ (fu : Nat) (k : Nat) (acc : Int32) (H : Heap) (locs : List Loc) (ls : Array Slot), (k ≤ y_n y) → (acc = sI (fun k => if x1 = nI 2 ∨ y_kd y k = x1 then y_w y k else 0) k) → y_n y - k < fu → va_P D vwCl (MW ct o v R) H → va_D A (MW ct o v R) → va_S A s.heap H locs → lv_has ls 4 [(0, .ref (o 0)), (1, .int (x1)), (2, .int (acc)), (3, .int (nI (k)))] → W p l e rmX11_weightsOf s m args below meth c H locs 0 0 (MQ below (va_Qi (fun r0 (_ : Unit) => r0 = t_swk y x1) (zB D ct A (fun _ : Unit => MW ct o v R)) A) args s rmX11_weightsOf.cells rmX11_weightsOf.slots A) (F0 m 4 ls []) := by
    intro fu
    induction fu with
    | zero => intro k acc H locs ls hk hacc hfu; exact absurd hfu (Nat.not_lt_zero _)
    | succ fu ih4 =>
      intro k acc H locs ls hk hacc hfu hP hD hS hl
      refine lv_iload_n hx hb dX11_weightsOf_4 rfl (lv_at hl 3 rfl) ?_
      refine lv_aload_n hx hb dX11_weightsOf_5 rfl (lv_at hl 0 rfl) ?_
      refine va_get (ci := 10) (v := .ref (o 1)) hx hb hts h_X11 hown hK hP 0 rfl rfl 0 (by decide) f9 (fun _ h9 => h9) rfl dX11_weightsOf_6 ?_
      refine lv_iconst (v := nI (0)) hx hb dX11_weightsOf_9 (by decide) ?_
      refine zIald (n := 972) (f := m_g v) (i := 0) hx hb hK hP 1 rfl (by omega) (by decide) dX11_weightsOf_10 ?_
      refine zTop (y := nI (y_n y)) hq.1 ?_
      refine zN_icmp_ge (tgt := 48) hx hb (by omega) (by omega) dX11_weightsOf_11 (by decide) (fun c11_1 => ?_) (fun c11_1 => ?_)
      · skip
        refine lv_iload_n hx hb dX11_weightsOf_48 rfl (lv_at hl 2 rfl) ?_
        exact zIret () hx hb hr hlocks hK hP hD hS dX11_weightsOf_49 (show acc = t_swk y x1 from (by rw [hacc, t_swk]; congr 1; omega))
      · skip
        refine lv_iload_n hx hb dX11_weightsOf_14 rfl (lv_at hl 2 rfl) ?_
        refine lv_iload_n hx hb dX11_weightsOf_15 rfl (lv_at hl 1 rfl) ?_
        refine lv_iconst (v := nI (2)) hx hb dX11_weightsOf_16 (by decide) ?_
        refine lv_icmp_eq (tgt := 30) hx hb dX11_weightsOf_17 (by decide) (fun c17_2 => ?_) (fun c17_2 => ?_)
        · skip
          refine lv_aload_n hx hb dX11_weightsOf_30 rfl (lv_at hl 0 rfl) ?_
          refine lv_iload_n hx hb dX11_weightsOf_31 rfl (lv_at hl 3 rfl) ?_
          refine lv_iconst (v := nI (1)) hx hb dX11_weightsOf_32 (by decide) ?_
          refine zVI [.int (nI (k)), .int (nI (1))] [.int (acc)] (kX11_t (o) (v) (R) (k) (1) (show (k) < 12 from by omega) (show (1) < 4 from by omega)) hx hb hml hown hts (cwV 2 hts gX11_weightsOf_X11_t rfl rfl rfl (by decide +kernel) ⟨(Nat.le_of_ble_eq_true rfl), (Nat.le_of_ble_eq_true rfl)⟩) hK hP hD hS hA (va_recv hK hP (ci := 10) (q0 := 0) rfl rfl) rfl hl.1 rfl (Nat.le_of_ble_eq_true rfl) dX11_weightsOf_33 ⟨(Nat.le_of_ble_eq_true rfl), (Nat.le_of_ble_eq_true rfl)⟩ (fun r_33 _ H locs hr_33 hP hD hS => ?_)
          subst hr_33
          have hP : va_P D vwCl (MW ct o v R) H := hP
          have hD : va_D A (MW ct o v R) := hD
          refine zTop (y := (y_w y (k))) (rel_w hq (k := k) (by omega)) ?_
          refine lv_goto (tgt := 40) hx hb dX11_weightsOf_36 (by decide) ?_
          refine lv_iadd hx hb dX11_weightsOf_40 ?_
          refine lv_istore_n (lv' := [(2, .int ((acc + (y_w y (k))))), (0, .ref (o 0)), (1, .int (x1)), (3, .int (nI (k)))]) hx hb dX11_weightsOf_41 rfl hl (by decide) rfl (fun ls hl => ?_)
          refine lv_iinc (v := nI ((k + 1))) (lv' := [(3, .int (nI ((k + 1)))), (2, .int ((acc + (y_w y (k))))), (0, .ref (o 0)), (1, .int (x1))]) hx hb dX11_weightsOf_42 hl (k := 3) rfl (zInc _) (by decide) rfl (fun ls hl => ?_)
          refine lv_goto (tgt := 4) hx hb dX11_weightsOf_45 (by decide) ?_
          exact ih4 ((k + 1)) ((acc + (y_w y (k)))) H locs ls (by omega) (by simp only [sI, hacc, nI_0, c11_1, eq_true c17_2, p_in, p_worn, p_wi, p_creak, p_le0, p_lt1, p_rng, pmT, pmC, not_true_eq_false, not_false_eq_true, if_true, if_false, and_true, true_and, and_false, false_and, or_true, true_or, or_false, false_or, and_self, or_self, iff_true, true_iff, iff_false, false_iff, decide_eq_true_eq, decide_true, decide_false, Int32.add_zero, Nat.add_zero, ne_eq, Bool.false_eq_true, eq_self]) (by omega) hP hD hS (lv_sub hl [2, 3, 1, 0] rfl)
        · skip
          refine lv_aload_n hx hb dX11_weightsOf_20 rfl (lv_at hl 0 rfl) ?_
          refine lv_iload_n hx hb dX11_weightsOf_21 rfl (lv_at hl 3 rfl) ?_
          refine lv_iconst (v := nI (0)) hx hb dX11_weightsOf_22 (by decide) ?_
          refine zVI [.int (nI (k)), .int (nI (0))] [.int (acc)] (kX11_t (o) (v) (R) (k) (0) (show (k) < 12 from by omega) (show (0) < 4 from by omega)) hx hb hml hown hts (cwV 2 hts gX11_weightsOf_X11_t rfl rfl rfl (by decide +kernel) ⟨(Nat.le_of_ble_eq_true rfl), (Nat.le_of_ble_eq_true rfl)⟩) hK hP hD hS hA (va_recv hK hP (ci := 10) (q0 := 0) rfl rfl) rfl hl.1 rfl (Nat.le_of_ble_eq_true rfl) dX11_weightsOf_23 ⟨(Nat.le_of_ble_eq_true rfl), (Nat.le_of_ble_eq_true rfl)⟩ (fun r_23 _ H locs hr_23 hP hD hS => ?_)
          subst hr_23
          have hP : va_P D vwCl (MW ct o v R) H := hP
          have hD : va_D A (MW ct o v R) := hD
          refine zTop (y := (y_kd y (k))) (rel_kd hq (k := k) (by omega)) ?_
          refine lv_iload_n hx hb dX11_weightsOf_26 rfl (lv_at hl 1 rfl) ?_
          refine lv_icmp_ne (tgt := 39) hx hb dX11_weightsOf_27 (by decide) (fun c27_3 => ?_) (fun c27_3 => ?_)
          · skip
            refine lv_iconst (v := nI (0)) hx hb dX11_weightsOf_39 (by decide) ?_
            refine lv_iadd hx hb dX11_weightsOf_40 ?_
            refine lv_istore_n (lv' := [(2, .int ((acc + nI (0)))), (0, .ref (o 0)), (1, .int (x1)), (3, .int (nI (k)))]) hx hb dX11_weightsOf_41 rfl hl (by decide) rfl (fun ls hl => ?_)
            refine lv_iinc (v := nI ((k + 1))) (lv' := [(3, .int (nI ((k + 1)))), (2, .int ((acc + nI (0)))), (0, .ref (o 0)), (1, .int (x1))]) hx hb dX11_weightsOf_42 hl (k := 3) rfl (zInc _) (by decide) rfl (fun ls hl => ?_)
            refine lv_goto (tgt := 4) hx hb dX11_weightsOf_45 (by decide) ?_
            exact ih4 ((k + 1)) ((acc + nI (0))) H locs ls (by omega) (by simp only [sI, hacc, nI_0, c11_1, c17_2, c27_3, p_in, p_worn, p_wi, p_creak, p_le0, p_lt1, p_rng, pmT, pmC, not_true_eq_false, not_false_eq_true, if_true, if_false, and_true, true_and, and_false, false_and, or_true, true_or, or_false, false_or, and_self, or_self, iff_true, true_iff, iff_false, false_iff, decide_eq_true_eq, decide_true, decide_false, Int32.add_zero, Nat.add_zero, ne_eq, Bool.false_eq_true, eq_self]) (by omega) hP hD hS (lv_sub hl [2, 3, 1, 0] rfl)
          · skip
            refine lv_aload_n hx hb dX11_weightsOf_30 rfl (lv_at hl 0 rfl) ?_
            refine lv_iload_n hx hb dX11_weightsOf_31 rfl (lv_at hl 3 rfl) ?_
            refine lv_iconst (v := nI (1)) hx hb dX11_weightsOf_32 (by decide) ?_
            refine zVI [.int (nI (k)), .int (nI (1))] [.int (acc)] (kX11_t (o) (v) (R) (k) (1) (show (k) < 12 from by omega) (show (1) < 4 from by omega)) hx hb hml hown hts (cwV 2 hts gX11_weightsOf_X11_t rfl rfl rfl (by decide +kernel) ⟨(Nat.le_of_ble_eq_true rfl), (Nat.le_of_ble_eq_true rfl)⟩) hK hP hD hS hA (va_recv hK hP (ci := 10) (q0 := 0) rfl rfl) rfl hl.1 rfl (Nat.le_of_ble_eq_true rfl) dX11_weightsOf_33 ⟨(Nat.le_of_ble_eq_true rfl), (Nat.le_of_ble_eq_true rfl)⟩ (fun r_33 _ H locs hr_33 hP hD hS => ?_)
            subst hr_33
            have hP : va_P D vwCl (MW ct o v R) H := hP
            have hD : va_D A (MW ct o v R) := hD
            refine zTop (y := (y_w y (k))) (rel_w hq (k := k) (by omega)) ?_
            refine lv_goto (tgt := 40) hx hb dX11_weightsOf_36 (by decide) ?_
            refine lv_iadd hx hb dX11_weightsOf_40 ?_
            refine lv_istore_n (lv' := [(2, .int ((acc + (y_w y (k))))), (0, .ref (o 0)), (1, .int (x1)), (3, .int (nI (k)))]) hx hb dX11_weightsOf_41 rfl hl (by decide) rfl (fun ls hl => ?_)
            refine lv_iinc (v := nI ((k + 1))) (lv' := [(3, .int (nI ((k + 1)))), (2, .int ((acc + (y_w y (k))))), (0, .ref (o 0)), (1, .int (x1))]) hx hb dX11_weightsOf_42 hl (k := 3) rfl (zInc _) (by decide) rfl (fun ls hl => ?_)
            refine lv_goto (tgt := 4) hx hb dX11_weightsOf_45 (by decide) ?_
            exact ih4 ((k + 1)) ((acc + (y_w y (k)))) H locs ls (by omega) (by simp only [sI, hacc, nI_0, c11_1, c17_2, eq_true c27_3, p_in, p_worn, p_wi, p_creak, p_le0, p_lt1, p_rng, pmT, pmC, not_true_eq_false, not_false_eq_true, if_true, if_false, and_true, true_and, and_false, false_and, or_true, true_or, or_false, false_or, and_self, or_self, iff_true, true_iff, iff_false, false_iff, decide_eq_true_eq, decide_true, decide_false, Int32.add_zero, Nat.add_zero, ne_eq, Bool.false_eq_true, eq_self]) (by omega) hP hD hS (lv_sub hl [2, 3, 1, 0] rfl)
  exact lp4 ((y_n y - (0)) + 1) (0) (nI 0) H locs ls (by omega) rfl (Nat.lt_succ_self _) hP hD hS (lv_sub hl [2, 3, 1, 0] rfl)
abbrev rmX11_things : Room := { frames := 1, cells := 0, slots := 0, locals := 22 }
theorem in_X11_things_X11 : ∀ w ∈ u_ws RX11 TX11 19, w ∈ wsX11_things := by decide +kernel
set_option maxHeartbeats 4000000 in
set_option maxRecDepth 100000 in
theorem kX11_things {D : va_G} {ct : Nat → ClassId} {l : Launch} (o : Nat → Nat) (v : MS) (R : va_W) (x1 : Int32) (y : YS) (hy : yI y) (hq : RelI y (m_g v)) : MI D ct l yX11_things wsX11_things rmX11_things (MW ct o v R) [.ref (o 0), .int (x1)] (fun r0 (_ : Unit) => r0 = t_th y x1) (fun _ : Unit => MW ct o v R) := by
  refine MIof (cc := cX11_things) (maxL := 4) (ret := (some .int)) (by decide) rfl (Nat.le_of_ble_eq_true rfl) ?_
  intro p e s m args below meth c A H locs F hP hK hD hS hA ls hl
  obtain ⟨hx, hb, hr, hlocks, hml, hown, hts, hin⟩ := F
  have hl : lv_has ls 4 [(0, .ref (o 0)), (1, .int (x1))] := hl
  have hB : y_n y ≤ 12 ∧ y_cn y ≤ 4 ∧ y_rn y ≤ 5 := ⟨hy.1, hy.2.1, hy.2.2.1⟩
  have hn : y_n y ≤ 12 := hy.1
  have hcn : y_cn y ≤ 4 := hy.2.1
  have hrn : y_rn y ≤ 5 := hy.2.2.1
  have h_X11 := in_X11_things_X11
  have f9 := hts (.fieldLink RX11 9 "CartArgumentsModel" "all" "[I") (by decide +kernel)
  refine lv_iconst (v := nI (0)) hx hb dX11_things_0 (by decide) ?_
  refine lv_istore_n (lv' := [(2, .int (nI (0))), (0, .ref (o 0)), (1, .int (x1))]) hx hb dX11_things_1 rfl hl (by decide) rfl (fun ls hl => ?_)
  refine lv_iconst (v := nI (0)) hx hb dX11_things_2 (by decide) ?_
  refine lv_istore_n (lv' := [(3, .int (nI (0))), (2, .int (nI (0))), (0, .ref (o 0)), (1, .int (x1))]) hx hb dX11_things_3 rfl hl (by decide) rfl (fun ls hl => ?_)
  have lp4 : ∀ (fu : Nat) (k : Nat) (acc : Int32) (H : Heap) (locs : List Loc) (ls : Array Slot), (k ≤ y_n y) → (acc = sI (fun k => if x1 = nI 2 then (if y_cu y k = -4 then 0 else nI 1) else if y_kd y k = x1 then nI 1 else 0) k) → y_n y - k < fu → va_P D vwCl (MW ct o v R) H → va_D A (MW ct o v R) → va_S A s.heap H locs → lv_has ls 4 [(0, .ref (o 0)), (1, .int (x1)), (2, .int (acc)), (3, .int (nI (k)))] → W p l e rmX11_things s m args below meth c H locs 0 0 (MQ below (va_Qi (fun r0 (_ : Unit) => r0 = t_th y x1) (zB D ct A (fun _ : Unit => MW ct o v R)) A) args s rmX11_things.cells rmX11_things.slots A) (F0 m 4 ls []) := by
    intro fu
    induction fu with
    | zero => intro k acc H locs ls hk hacc hfu; exact absurd hfu (Nat.not_lt_zero _)
    | succ fu ih4 =>
      intro k acc H locs ls hk hacc hfu hP hD hS hl
      refine lv_iload_n hx hb dX11_things_4 rfl (lv_at hl 3 rfl) ?_
      refine lv_aload_n hx hb dX11_things_5 rfl (lv_at hl 0 rfl) ?_
      refine va_get (ci := 10) (v := .ref (o 1)) hx hb hts h_X11 hown hK hP 0 rfl rfl 0 (by decide) f9 (fun _ h9 => h9) rfl dX11_things_6 ?_
      refine lv_iconst (v := nI (0)) hx hb dX11_things_9 (by decide) ?_
      refine zIald (n := 972) (f := m_g v) (i := 0) hx hb hK hP 1 rfl (by omega) (by decide) dX11_things_10 ?_
      refine zTop (y := nI (y_n y)) hq.1 ?_
      refine zN_icmp_ge (tgt := 60) hx hb (by omega) (by omega) dX11_things_11 (by decide) (fun c11_1 => ?_) (fun c11_1 => ?_)
      · skip
        refine lv_iload_n hx hb dX11_things_60 rfl (lv_at hl 2 rfl) ?_
        exact zIret () hx hb hr hlocks hK hP hD hS dX11_things_61 (show acc = t_th y x1 from (by rw [hacc, t_th]; congr 1; omega))
      · skip
        refine lv_iload_n hx hb dX11_things_14 rfl (lv_at hl 2 rfl) ?_
        refine lv_iload_n hx hb dX11_things_15 rfl (lv_at hl 1 rfl) ?_
        refine lv_iconst (v := nI (2)) hx hb dX11_things_16 (by decide) ?_
        refine lv_icmp_ne (tgt := 37) hx hb dX11_things_17 (by decide) (fun c17_2 => ?_) (fun c17_2 => ?_)
        · skip
          refine lv_aload_n hx hb dX11_things_37 rfl (lv_at hl 0 rfl) ?_
          refine lv_iload_n hx hb dX11_things_38 rfl (lv_at hl 3 rfl) ?_
          refine lv_iconst (v := nI (0)) hx hb dX11_things_39 (by decide) ?_
          refine zVI [.int (nI (k)), .int (nI (0))] [.int (acc)] (kX11_t (o) (v) (R) (k) (0) (show (k) < 12 from by omega) (show (0) < 4 from by omega)) hx hb hml hown hts (cwV 2 hts gX11_things_X11_t rfl rfl rfl (by decide +kernel) ⟨(Nat.le_of_ble_eq_true rfl), (Nat.le_of_ble_eq_true rfl)⟩) hK hP hD hS hA (va_recv hK hP (ci := 10) (q0 := 0) rfl rfl) rfl hl.1 rfl (Nat.le_of_ble_eq_true rfl) dX11_things_40 ⟨(Nat.le_of_ble_eq_true rfl), (Nat.le_of_ble_eq_true rfl)⟩ (fun r_40 _ H locs hr_40 hP hD hS => ?_)
          subst hr_40
          have hP : va_P D vwCl (MW ct o v R) H := hP
          have hD : va_D A (MW ct o v R) := hD
          refine zTop (y := (y_kd y (k))) (rel_kd hq (k := k) (by omega)) ?_
          refine lv_iload_n hx hb dX11_things_43 rfl (lv_at hl 1 rfl) ?_
          refine lv_icmp_ne (tgt := 51) hx hb dX11_things_44 (by decide) (fun c44_3 => ?_) (fun c44_3 => ?_)
          · skip
            refine lv_iconst (v := nI (0)) hx hb dX11_things_51 (by decide) ?_
            refine lv_iadd hx hb dX11_things_52 ?_
            refine lv_istore_n (lv' := [(2, .int ((acc + nI (0)))), (0, .ref (o 0)), (1, .int (x1)), (3, .int (nI (k)))]) hx hb dX11_things_53 rfl hl (by decide) rfl (fun ls hl => ?_)
            refine lv_iinc (v := nI ((k + 1))) (lv' := [(3, .int (nI ((k + 1)))), (2, .int ((acc + nI (0)))), (0, .ref (o 0)), (1, .int (x1))]) hx hb dX11_things_54 hl (k := 3) rfl (zInc _) (by decide) rfl (fun ls hl => ?_)
            refine lv_goto (tgt := 4) hx hb dX11_things_57 (by decide) ?_
            exact ih4 ((k + 1)) ((acc + nI (0))) H locs ls (by omega) (by simp only [sI, hacc, nI_0, c11_1, c17_2, c44_3, p_in, p_worn, p_wi, p_creak, p_le0, p_lt1, p_rng, pmT, pmC, not_true_eq_false, not_false_eq_true, if_true, if_false, and_true, true_and, and_false, false_and, or_true, true_or, or_false, false_or, and_self, or_self, iff_true, true_iff, iff_false, false_iff, decide_eq_true_eq, decide_true, decide_false, Int32.add_zero, Nat.add_zero, ne_eq, Bool.false_eq_true, eq_self]) (by omega) hP hD hS (lv_sub hl [2, 3, 1, 0] rfl)
          · skip
            refine lv_iconst (v := nI (1)) hx hb dX11_things_47 (by decide) ?_
            refine lv_goto (tgt := 52) hx hb dX11_things_48 (by decide) ?_
            refine lv_iadd hx hb dX11_things_52 ?_
            refine lv_istore_n (lv' := [(2, .int ((acc + nI (1)))), (0, .ref (o 0)), (1, .int (x1)), (3, .int (nI (k)))]) hx hb dX11_things_53 rfl hl (by decide) rfl (fun ls hl => ?_)
            refine lv_iinc (v := nI ((k + 1))) (lv' := [(3, .int (nI ((k + 1)))), (2, .int ((acc + nI (1)))), (0, .ref (o 0)), (1, .int (x1))]) hx hb dX11_things_54 hl (k := 3) rfl (zInc _) (by decide) rfl (fun ls hl => ?_)
            refine lv_goto (tgt := 4) hx hb dX11_things_57 (by decide) ?_
            exact ih4 ((k + 1)) ((acc + nI (1))) H locs ls (by omega) (by simp only [sI, hacc, nI_0, c11_1, c17_2, eq_true c44_3, p_in, p_worn, p_wi, p_creak, p_le0, p_lt1, p_rng, pmT, pmC, not_true_eq_false, not_false_eq_true, if_true, if_false, and_true, true_and, and_false, false_and, or_true, true_or, or_false, false_or, and_self, or_self, iff_true, true_iff, iff_false, false_iff, decide_eq_true_eq, decide_true, decide_false, Int32.add_zero, Nat.add_zero, ne_eq, Bool.false_eq_true, eq_self]) (by omega) hP hD hS (lv_sub hl [2, 3, 1, 0] rfl)
        · skip
          refine lv_aload_n hx hb dX11_things_20 rfl (lv_at hl 0 rfl) ?_
          refine lv_iload_n hx hb dX11_things_21 rfl (lv_at hl 3 rfl) ?_
          refine lv_iconst (v := nI (2)) hx hb dX11_things_22 (by decide) ?_
          refine zVI [.int (nI (k)), .int (nI (2))] [.int (acc)] (kX11_t (o) (v) (R) (k) (2) (show (k) < 12 from by omega) (show (2) < 4 from by omega)) hx hb hml hown hts (cwV 2 hts gX11_things_X11_t rfl rfl rfl (by decide +kernel) ⟨(Nat.le_of_ble_eq_true rfl), (Nat.le_of_ble_eq_true rfl)⟩) hK hP hD hS hA (va_recv hK hP (ci := 10) (q0 := 0) rfl rfl) rfl hl.1 rfl (Nat.le_of_ble_eq_true rfl) dX11_things_23 ⟨(Nat.le_of_ble_eq_true rfl), (Nat.le_of_ble_eq_true rfl)⟩ (fun r_23 _ H locs hr_23 hP hD hS => ?_)
          subst hr_23
          have hP : va_P D vwCl (MW ct o v R) H := hP
          have hD : va_D A (MW ct o v R) := hD
          rcases (hq.2.2.2.1 k (by omega)).2.2 with ⟨e1, e2, e3, e4⟩ | ⟨cc9, q9, hc9, hq9, e1, e2, e3, e4⟩
          · skip
            refine zTop (y := nI (0)) e3 ?_
            refine lv_if_le (tgt := 33) hx hb dX11_things_26 (by decide) (fun c9 => ?_) (fun c9 => absurd (by decide) c9)
            refine lv_iconst (v := nI (0)) hx hb dX11_things_33 (by decide) ?_
            refine lv_goto (tgt := 52) hx hb dX11_things_34 (by decide) ?_
            refine lv_iadd hx hb dX11_things_52 ?_
            refine lv_istore_n (lv' := [(2, .int ((acc + nI (0)))), (0, .ref (o 0)), (1, .int (x1)), (3, .int (nI (k)))]) hx hb dX11_things_53 rfl hl (by decide) rfl (fun ls hl => ?_)
            refine lv_iinc (v := nI ((k + 1))) (lv' := [(3, .int (nI ((k + 1)))), (2, .int ((acc + nI (0)))), (0, .ref (o 0)), (1, .int (x1))]) hx hb dX11_things_54 hl (k := 3) rfl (zInc _) (by decide) rfl (fun ls hl => ?_)
            refine lv_goto (tgt := 4) hx hb dX11_things_57 (by decide) ?_
            exact ih4 ((k + 1)) ((acc + nI (0))) H locs ls (by omega) (by simp only [sI, hacc, nI_0, c11_1, eq_true c17_2, e1, e2, p_in, p_worn, p_wi, p_creak, p_le0, p_lt1, p_rng, pmT, pmC, not_true_eq_false, not_false_eq_true, if_true, if_false, and_true, true_and, and_false, false_and, or_true, true_or, or_false, false_or, and_self, or_self, iff_true, true_iff, iff_false, false_iff, decide_eq_true_eq, decide_true, decide_false, Int32.add_zero, Nat.add_zero, ne_eq, Bool.false_eq_true, eq_self]) (by omega) hP hD hS (lv_sub hl [2, 3, 1, 0] rfl)
          · skip
            refine zTop (y := nI (cc9 + 1)) e3 ?_
            refine zN_if_le (tgt := 33) hx hb (by omega) dX11_things_26 (by decide) (fun c26_5 => ?_) (fun c26_5 => ?_)
            · skip
              exact absurd c26_5 (by omega)
            · skip
              refine lv_iconst (v := nI (1)) hx hb dX11_things_29 (by decide) ?_
              refine lv_goto (tgt := 52) hx hb dX11_things_30 (by decide) ?_
              refine lv_iadd hx hb dX11_things_52 ?_
              refine lv_istore_n (lv' := [(2, .int ((acc + nI (1)))), (0, .ref (o 0)), (1, .int (x1)), (3, .int (nI (k)))]) hx hb dX11_things_53 rfl hl (by decide) rfl (fun ls hl => ?_)
              refine lv_iinc (v := nI ((k + 1))) (lv' := [(3, .int (nI ((k + 1)))), (2, .int ((acc + nI (1)))), (0, .ref (o 0)), (1, .int (x1))]) hx hb dX11_things_54 hl (k := 3) rfl (zInc _) (by decide) rfl (fun ls hl => ?_)
              refine lv_goto (tgt := 4) hx hb dX11_things_57 (by decide) ?_
              exact ih4 ((k + 1)) ((acc + nI (1))) H locs ls (by omega) (by simp only [sI, hacc, nI_0, c11_1, eq_true c17_2, e1, e2, nI_ne4 (k := cc9) (by omega), c26_5, p_in, p_worn, p_wi, p_creak, p_le0, p_lt1, p_rng, pmT, pmC, not_true_eq_false, not_false_eq_true, if_true, if_false, and_true, true_and, and_false, false_and, or_true, true_or, or_false, false_or, and_self, or_self, iff_true, true_iff, iff_false, false_iff, decide_eq_true_eq, decide_true, decide_false, Int32.add_zero, Nat.add_zero, ne_eq, Bool.false_eq_true, eq_self]) (by omega) hP hD hS (lv_sub hl [2, 3, 1, 0] rfl)
  exact lp4 ((y_n y - (0)) + 1) (0) (nI 0) H locs ls (by omega) rfl (Nat.lt_succ_self _) hP hD hS (lv_sub hl [2, 3, 1, 0] rfl)
abbrev rmX11_ofCarts : Room := { frames := 6, cells := 0, slots := 0, locals := 134 }
theorem in_X11_ofCarts_X11 : ∀ w ∈ u_ws RX11 TX11 19, w ∈ wsX11_ofCarts := by decide +kernel
set_option maxHeartbeats 4000000 in
set_option maxRecDepth 100000 in
theorem kX11_ofCarts {D : va_G} {ct : Nat → ClassId} {l : Launch} (o : Nat → Nat) (v : MS) (R : va_W) (x1 : Int32) (y : YS) (hy : yI y) (hq : RelI y (m_g v)) : MI D ct l yX11_ofCarts wsX11_ofCarts rmX11_ofCarts (MW ct o v R) [.ref (o 0), .int (x1)] (fun r0 (_ : Unit) => r0 = t_oc3 y (m_fl v) x1) (fun _ : Unit => MW ct o v R) := by
  refine MIof (cc := cX11_ofCarts) (maxL := 4) (ret := (some .int)) (by decide) rfl (Nat.le_of_ble_eq_true rfl) ?_
  intro p e s m args below meth c A H locs F hP hK hD hS hA ls hl
  obtain ⟨hx, hb, hr, hlocks, hml, hown, hts, hin⟩ := F
  have hl : lv_has ls 4 [(0, .ref (o 0)), (1, .int (x1))] := hl
  have hB : y_n y ≤ 12 ∧ y_cn y ≤ 4 ∧ y_rn y ≤ 5 := ⟨hy.1, hy.2.1, hy.2.2.1⟩
  have hn : y_n y ≤ 12 := hy.1
  have hcn : y_cn y ≤ 4 := hy.2.1
  have hrn : y_rn y ≤ 5 := hy.2.2.1
  have h_X11 := in_X11_ofCarts_X11
  have f9 := hts (.fieldLink RX11 9 "CartArgumentsModel" "all" "[I") (by decide +kernel)
  refine lv_iconst (v := nI (0)) hx hb dX11_ofCarts_0 (by decide) ?_
  refine lv_istore_n (lv' := [(2, .int (nI (0))), (0, .ref (o 0)), (1, .int (x1))]) hx hb dX11_ofCarts_1 rfl hl (by decide) rfl (fun ls hl => ?_)
  refine lv_iconst (v := nI (0)) hx hb dX11_ofCarts_2 (by decide) ?_
  refine lv_istore_n (lv' := [(3, .int (nI (0))), (2, .int (nI (0))), (0, .ref (o 0)), (1, .int (x1))]) hx hb dX11_ofCarts_3 rfl hl (by decide) rfl (fun ls hl => ?_)
  have lp4 : ∀ (fu : Nat) (k : Nat) (acc : Int32) (H : Heap) (locs : List Loc) (ls : Array Slot), (k ≤ y_cn y) → (acc = sI (fun k => if x1 = 0 then t_all y (nI k) else if x1 = nI 1 then nI (t_cr y k) else nI ((if p_worn (m_fl v (wix k (nI 0))) then 1 else 0) + (if p_worn (m_fl v (wix k (nI 1))) then 1 else 0))) k) → y_cn y - k < fu → va_P D vwCl (MW ct o v R) H → va_D A (MW ct o v R) → va_S A s.heap H locs → lv_has ls 4 [(0, .ref (o 0)), (1, .int (x1)), (2, .int (acc)), (3, .int (nI (k)))] → W p l e rmX11_ofCarts s m args below meth c H locs 0 0 (MQ below (va_Qi (fun r0 (_ : Unit) => r0 = t_oc3 y (m_fl v) x1) (zB D ct A (fun _ : Unit => MW ct o v R)) A) args s rmX11_ofCarts.cells rmX11_ofCarts.slots A) (F0 m 4 ls []) := by
    intro fu
    induction fu with
    | zero => intro k acc H locs ls hk hacc hfu; exact absurd hfu (Nat.not_lt_zero _)
    | succ fu ih4 =>
      intro k acc H locs ls hk hacc hfu hP hD hS hl
      refine lv_iload_n hx hb dX11_ofCarts_4 rfl (lv_at hl 3 rfl) ?_
      refine lv_aload_n hx hb dX11_ofCarts_5 rfl (lv_at hl 0 rfl) ?_
      refine va_get (ci := 10) (v := .ref (o 1)) hx hb hts h_X11 hown hK hP 0 rfl rfl 0 (by decide) f9 (fun _ h9 => h9) rfl dX11_ofCarts_6 ?_
      refine lv_iconst (v := nI (1)) hx hb dX11_ofCarts_9 (by decide) ?_
      refine zIald (n := 972) (f := m_g v) (i := 1) hx hb hK hP 1 rfl (by omega) (by decide) dX11_ofCarts_10 ?_
      refine zTop (y := nI (y_cn y)) hq.2.1 ?_
      refine zN_icmp_ge (tgt := 77) hx hb (by omega) (by omega) dX11_ofCarts_11 (by decide) (fun c11_1 => ?_) (fun c11_1 => ?_)
      · skip
        refine lv_iload_n hx hb dX11_ofCarts_77 rfl (lv_at hl 2 rfl) ?_
        exact zIret () hx hb hr hlocks hK hP hD hS dX11_ofCarts_78 (show acc = t_oc3 y (m_fl v) x1 from (by rw [hacc, t_oc3]; congr 1; omega))
      · skip
        refine lv_iload_n hx hb dX11_ofCarts_14 rfl (lv_at hl 2 rfl) ?_
        refine lv_iload_n hx hb dX11_ofCarts_15 rfl (lv_at hl 1 rfl) ?_
        refine lv_if_ne (tgt := 27) hx hb dX11_ofCarts_16 (by decide) (fun c16_2 => ?_) (fun c16_2 => ?_)
        · skip
          refine lv_iload_n hx hb dX11_ofCarts_27 rfl (lv_at hl 1 rfl) ?_
          refine lv_iconst (v := nI (1)) hx hb dX11_ofCarts_28 (by decide) ?_
          refine lv_icmp_ne (tgt := 40) hx hb dX11_ofCarts_29 (by decide) (fun c29_3 => ?_) (fun c29_3 => ?_)
          · skip
            refine lv_aload_n hx hb dX11_ofCarts_40 rfl (lv_at hl 0 rfl) ?_
            refine lv_iload_n hx hb dX11_ofCarts_41 rfl (lv_at hl 3 rfl) ?_
            refine lv_iconst (v := nI (0)) hx hb dX11_ofCarts_42 (by decide) ?_
            refine zVI [.int (nI (k)), .int (nI (0))] [.int (acc)] (kX11_isWorn (o) (v) (R) (k) (nI (0)) (show (k) < 4 from by omega)) hx hb hml hown hts (cwV 2 hts gX11_ofCarts_X11_isWorn rfl rfl rfl (by decide +kernel) ⟨(Nat.le_of_ble_eq_true rfl), (Nat.le_of_ble_eq_true rfl)⟩) hK hP hD hS hA (va_recv hK hP (ci := 10) (q0 := 0) rfl rfl) rfl hl.1 rfl (Nat.le_of_ble_eq_true rfl) dX11_ofCarts_43 ⟨(Nat.le_of_ble_eq_true rfl), (Nat.le_of_ble_eq_true rfl)⟩ (fun r_43 _ H locs hr_43 hP hD hS => ?_)
            subst hr_43
            have hP : va_P D vwCl (MW ct o v R) H := hP
            have hD : va_D A (MW ct o v R) := hD
            refine zB_if_eq (tgt := 53) hx hb dX11_ofCarts_46 (by decide) (fun c46_4 => ?_) (fun c46_4 => ?_)
            · skip
              refine lv_iconst (v := nI (0)) hx hb dX11_ofCarts_53 (by decide) ?_
              refine lv_aload_n hx hb dX11_ofCarts_54 rfl (lv_at hl 0 rfl) ?_
              refine lv_iload_n hx hb dX11_ofCarts_55 rfl (lv_at hl 3 rfl) ?_
              refine lv_iconst (v := nI (1)) hx hb dX11_ofCarts_56 (by decide) ?_
              refine zVI [.int (nI (k)), .int (nI (1))] [.int (nI (0)), .int (acc)] (kX11_isWorn (o) (v) (R) (k) (nI (1)) (show (k) < 4 from by omega)) hx hb hml hown hts (cwV 2 hts gX11_ofCarts_X11_isWorn rfl rfl rfl (by decide +kernel) ⟨(Nat.le_of_ble_eq_true rfl), (Nat.le_of_ble_eq_true rfl)⟩) hK hP hD hS hA (va_recv hK hP (ci := 10) (q0 := 0) rfl rfl) rfl hl.1 rfl (Nat.le_of_ble_eq_true rfl) dX11_ofCarts_57 ⟨(Nat.le_of_ble_eq_true rfl), (Nat.le_of_ble_eq_true rfl)⟩ (fun r_57 _ H locs hr_57 hP hD hS => ?_)
              subst hr_57
              have hP : va_P D vwCl (MW ct o v R) H := hP
              have hD : va_D A (MW ct o v R) := hD
              refine zB_if_eq (tgt := 67) hx hb dX11_ofCarts_60 (by decide) (fun c60_5 => ?_) (fun c60_5 => ?_)
              · skip
                refine lv_iconst (v := nI (0)) hx hb dX11_ofCarts_67 (by decide) ?_
                refine zNadd hx hb dX11_ofCarts_68 ?_
                refine lv_iadd hx hb dX11_ofCarts_69 ?_
                refine lv_istore_n (lv' := [(2, .int ((acc + nI ((0 + 0))))), (0, .ref (o 0)), (1, .int (x1)), (3, .int (nI (k)))]) hx hb dX11_ofCarts_70 rfl hl (by decide) rfl (fun ls hl => ?_)
                refine lv_iinc (v := nI ((k + 1))) (lv' := [(3, .int (nI ((k + 1)))), (2, .int ((acc + nI ((0 + 0))))), (0, .ref (o 0)), (1, .int (x1))]) hx hb dX11_ofCarts_71 hl (k := 3) rfl (zInc _) (by decide) rfl (fun ls hl => ?_)
                refine lv_goto (tgt := 4) hx hb dX11_ofCarts_74 (by decide) ?_
                exact ih4 ((k + 1)) ((acc + nI ((0 + 0)))) H locs ls (by omega) (by simp only [sI, hacc, c11_1, c16_2, c29_3, c46_4, c60_5, p_in, p_worn, p_wi, p_creak, p_le0, p_lt1, p_rng, pmT, pmC, not_true_eq_false, not_false_eq_true, if_true, if_false, and_true, true_and, and_false, false_and, or_true, true_or, or_false, false_or, and_self, or_self, iff_true, true_iff, iff_false, false_iff, decide_eq_true_eq, decide_true, decide_false, Int32.add_zero, Nat.add_zero, ne_eq, Bool.false_eq_true, eq_self]) (by omega) hP hD hS (lv_sub hl [2, 3, 1, 0] rfl)
              · skip
                refine lv_iconst (v := nI (1)) hx hb dX11_ofCarts_63 (by decide) ?_
                refine lv_goto (tgt := 68) hx hb dX11_ofCarts_64 (by decide) ?_
                refine zNadd hx hb dX11_ofCarts_68 ?_
                refine lv_iadd hx hb dX11_ofCarts_69 ?_
                refine lv_istore_n (lv' := [(2, .int ((acc + nI ((0 + 1))))), (0, .ref (o 0)), (1, .int (x1)), (3, .int (nI (k)))]) hx hb dX11_ofCarts_70 rfl hl (by decide) rfl (fun ls hl => ?_)
                refine lv_iinc (v := nI ((k + 1))) (lv' := [(3, .int (nI ((k + 1)))), (2, .int ((acc + nI ((0 + 1))))), (0, .ref (o 0)), (1, .int (x1))]) hx hb dX11_ofCarts_71 hl (k := 3) rfl (zInc _) (by decide) rfl (fun ls hl => ?_)
                refine lv_goto (tgt := 4) hx hb dX11_ofCarts_74 (by decide) ?_
                exact ih4 ((k + 1)) ((acc + nI ((0 + 1)))) H locs ls (by omega) (by simp only [sI, hacc, c11_1, c16_2, c29_3, c46_4, c60_5, p_in, p_worn, p_wi, p_creak, p_le0, p_lt1, p_rng, pmT, pmC, not_true_eq_false, not_false_eq_true, if_true, if_false, and_true, true_and, and_false, false_and, or_true, true_or, or_false, false_or, and_self, or_self, iff_true, true_iff, iff_false, false_iff, decide_eq_true_eq, decide_true, decide_false, Int32.add_zero, Nat.add_zero, ne_eq, Bool.false_eq_true, eq_self]) (by omega) hP hD hS (lv_sub hl [2, 3, 1, 0] rfl)
            · skip
              refine lv_iconst (v := nI (1)) hx hb dX11_ofCarts_49 (by decide) ?_
              refine lv_goto (tgt := 54) hx hb dX11_ofCarts_50 (by decide) ?_
              refine lv_aload_n hx hb dX11_ofCarts_54 rfl (lv_at hl 0 rfl) ?_
              refine lv_iload_n hx hb dX11_ofCarts_55 rfl (lv_at hl 3 rfl) ?_
              refine lv_iconst (v := nI (1)) hx hb dX11_ofCarts_56 (by decide) ?_
              refine zVI [.int (nI (k)), .int (nI (1))] [.int (nI (1)), .int (acc)] (kX11_isWorn (o) (v) (R) (k) (nI (1)) (show (k) < 4 from by omega)) hx hb hml hown hts (cwV 2 hts gX11_ofCarts_X11_isWorn rfl rfl rfl (by decide +kernel) ⟨(Nat.le_of_ble_eq_true rfl), (Nat.le_of_ble_eq_true rfl)⟩) hK hP hD hS hA (va_recv hK hP (ci := 10) (q0 := 0) rfl rfl) rfl hl.1 rfl (Nat.le_of_ble_eq_true rfl) dX11_ofCarts_57 ⟨(Nat.le_of_ble_eq_true rfl), (Nat.le_of_ble_eq_true rfl)⟩ (fun r_57 _ H locs hr_57 hP hD hS => ?_)
              subst hr_57
              have hP : va_P D vwCl (MW ct o v R) H := hP
              have hD : va_D A (MW ct o v R) := hD
              refine zB_if_eq (tgt := 67) hx hb dX11_ofCarts_60 (by decide) (fun c60_6 => ?_) (fun c60_6 => ?_)
              · skip
                refine lv_iconst (v := nI (0)) hx hb dX11_ofCarts_67 (by decide) ?_
                refine zNadd hx hb dX11_ofCarts_68 ?_
                refine lv_iadd hx hb dX11_ofCarts_69 ?_
                refine lv_istore_n (lv' := [(2, .int ((acc + nI ((1 + 0))))), (0, .ref (o 0)), (1, .int (x1)), (3, .int (nI (k)))]) hx hb dX11_ofCarts_70 rfl hl (by decide) rfl (fun ls hl => ?_)
                refine lv_iinc (v := nI ((k + 1))) (lv' := [(3, .int (nI ((k + 1)))), (2, .int ((acc + nI ((1 + 0))))), (0, .ref (o 0)), (1, .int (x1))]) hx hb dX11_ofCarts_71 hl (k := 3) rfl (zInc _) (by decide) rfl (fun ls hl => ?_)
                refine lv_goto (tgt := 4) hx hb dX11_ofCarts_74 (by decide) ?_
                exact ih4 ((k + 1)) ((acc + nI ((1 + 0)))) H locs ls (by omega) (by simp only [sI, hacc, c11_1, c16_2, c29_3, c46_4, c60_6, p_in, p_worn, p_wi, p_creak, p_le0, p_lt1, p_rng, pmT, pmC, not_true_eq_false, not_false_eq_true, if_true, if_false, and_true, true_and, and_false, false_and, or_true, true_or, or_false, false_or, and_self, or_self, iff_true, true_iff, iff_false, false_iff, decide_eq_true_eq, decide_true, decide_false, Int32.add_zero, Nat.add_zero, ne_eq, Bool.false_eq_true, eq_self]) (by omega) hP hD hS (lv_sub hl [2, 3, 1, 0] rfl)
              · skip
                refine lv_iconst (v := nI (1)) hx hb dX11_ofCarts_63 (by decide) ?_
                refine lv_goto (tgt := 68) hx hb dX11_ofCarts_64 (by decide) ?_
                refine zNadd hx hb dX11_ofCarts_68 ?_
                refine lv_iadd hx hb dX11_ofCarts_69 ?_
                refine lv_istore_n (lv' := [(2, .int ((acc + nI ((1 + 1))))), (0, .ref (o 0)), (1, .int (x1)), (3, .int (nI (k)))]) hx hb dX11_ofCarts_70 rfl hl (by decide) rfl (fun ls hl => ?_)
                refine lv_iinc (v := nI ((k + 1))) (lv' := [(3, .int (nI ((k + 1)))), (2, .int ((acc + nI ((1 + 1))))), (0, .ref (o 0)), (1, .int (x1))]) hx hb dX11_ofCarts_71 hl (k := 3) rfl (zInc _) (by decide) rfl (fun ls hl => ?_)
                refine lv_goto (tgt := 4) hx hb dX11_ofCarts_74 (by decide) ?_
                exact ih4 ((k + 1)) ((acc + nI ((1 + 1)))) H locs ls (by omega) (by simp only [sI, hacc, c11_1, c16_2, c29_3, c46_4, c60_6, p_in, p_worn, p_wi, p_creak, p_le0, p_lt1, p_rng, pmT, pmC, not_true_eq_false, not_false_eq_true, if_true, if_false, and_true, true_and, and_false, false_and, or_true, true_or, or_false, false_or, and_self, or_self, iff_true, true_iff, iff_false, false_iff, decide_eq_true_eq, decide_true, decide_false, Int32.add_zero, Nat.add_zero, ne_eq, Bool.false_eq_true, eq_self]) (by omega) hP hD hS (lv_sub hl [2, 3, 1, 0] rfl)
          · skip
            refine lv_aload_n hx hb dX11_ofCarts_32 rfl (lv_at hl 0 rfl) ?_
            refine lv_iload_n hx hb dX11_ofCarts_33 rfl (lv_at hl 3 rfl) ?_
            refine zVI [.int (nI (k))] [.int (acc)] (kX11_creaking (o) (v) (R) (k) (y) (show yI (y) from hy) (show RelI (y) (m_g v) from hq) (show (k) < y_cn (y) from by omega)) hx hb hml hown hts (cwV 1 hts gX11_ofCarts_X11_creaking rfl rfl rfl (by decide +kernel) ⟨(Nat.le_of_ble_eq_true rfl), (Nat.le_of_ble_eq_true rfl)⟩) hK hP hD hS hA (va_recv hK hP (ci := 10) (q0 := 0) rfl rfl) rfl hl.1 rfl (Nat.le_of_ble_eq_true rfl) dX11_ofCarts_34 ⟨(Nat.le_of_ble_eq_true rfl), (Nat.le_of_ble_eq_true rfl)⟩ (fun r_34 _ H locs hr_34 hP hD hS => ?_)
            subst hr_34
            have hP : va_P D vwCl (MW ct o v R) H := hP
            have hD : va_D A (MW ct o v R) := hD
            have q34 := t_cr_le (y) (k)
            refine lv_goto (tgt := 69) hx hb dX11_ofCarts_37 (by decide) ?_
            refine lv_iadd hx hb dX11_ofCarts_69 ?_
            refine lv_istore_n (lv' := [(2, .int ((acc + nI (t_cr (y) (k))))), (0, .ref (o 0)), (1, .int (x1)), (3, .int (nI (k)))]) hx hb dX11_ofCarts_70 rfl hl (by decide) rfl (fun ls hl => ?_)
            refine lv_iinc (v := nI ((k + 1))) (lv' := [(3, .int (nI ((k + 1)))), (2, .int ((acc + nI (t_cr (y) (k))))), (0, .ref (o 0)), (1, .int (x1))]) hx hb dX11_ofCarts_71 hl (k := 3) rfl (zInc _) (by decide) rfl (fun ls hl => ?_)
            refine lv_goto (tgt := 4) hx hb dX11_ofCarts_74 (by decide) ?_
            exact ih4 ((k + 1)) ((acc + nI (t_cr (y) (k)))) H locs ls (by omega) (by simp only [sI, hacc, c11_1, c16_2, eq_true c29_3, p_in, p_worn, p_wi, p_creak, p_le0, p_lt1, p_rng, pmT, pmC, not_true_eq_false, not_false_eq_true, if_true, if_false, and_true, true_and, and_false, false_and, or_true, true_or, or_false, false_or, and_self, or_self, iff_true, true_iff, iff_false, false_iff, decide_eq_true_eq, decide_true, decide_false, Int32.add_zero, Nat.add_zero, ne_eq, Bool.false_eq_true, eq_self]) (by omega) hP hD hS (lv_sub hl [2, 3, 1, 0] rfl)
        · skip
          refine lv_aload_n hx hb dX11_ofCarts_19 rfl (lv_at hl 0 rfl) ?_
          refine lv_iload_n hx hb dX11_ofCarts_20 rfl (lv_at hl 3 rfl) ?_
          refine zVI [.int (nI (k))] [.int (acc)] (kX11_weightOf (o) (v) (R) (k) (y) (show y_n (y) ≤ 12 ∧ y_cn (y) ≤ 4 ∧ y_rn (y) ≤ 5 from hB) (show RelI (y) (m_g v) from hq) (show (k) < 4 from by omega)) hx hb hml hown hts (cwV 1 hts gX11_ofCarts_X11_weightOf rfl rfl rfl (by decide +kernel) ⟨(Nat.le_of_ble_eq_true rfl), (Nat.le_of_ble_eq_true rfl)⟩) hK hP hD hS hA (va_recv hK hP (ci := 10) (q0 := 0) rfl rfl) rfl hl.1 rfl (Nat.le_of_ble_eq_true rfl) dX11_ofCarts_21 ⟨(Nat.le_of_ble_eq_true rfl), (Nat.le_of_ble_eq_true rfl)⟩ (fun r_21 _ H locs hr_21 hP hD hS => ?_)
          subst hr_21
          have hP : va_P D vwCl (MW ct o v R) H := hP
          have hD : va_D A (MW ct o v R) := hD
          refine lv_goto (tgt := 69) hx hb dX11_ofCarts_24 (by decide) ?_
          refine lv_iadd hx hb dX11_ofCarts_69 ?_
          refine lv_istore_n (lv' := [(2, .int ((acc + (t_all (y) (nI (k)))))), (0, .ref (o 0)), (1, .int (x1)), (3, .int (nI (k)))]) hx hb dX11_ofCarts_70 rfl hl (by decide) rfl (fun ls hl => ?_)
          refine lv_iinc (v := nI ((k + 1))) (lv' := [(3, .int (nI ((k + 1)))), (2, .int ((acc + (t_all (y) (nI (k)))))), (0, .ref (o 0)), (1, .int (x1))]) hx hb dX11_ofCarts_71 hl (k := 3) rfl (zInc _) (by decide) rfl (fun ls hl => ?_)
          refine lv_goto (tgt := 4) hx hb dX11_ofCarts_74 (by decide) ?_
          exact ih4 ((k + 1)) ((acc + (t_all (y) (nI (k))))) H locs ls (by omega) (by simp only [sI, hacc, c11_1, eq_true c16_2, p_in, p_worn, p_wi, p_creak, p_le0, p_lt1, p_rng, pmT, pmC, not_true_eq_false, not_false_eq_true, if_true, if_false, and_true, true_and, and_false, false_and, or_true, true_or, or_false, false_or, and_self, or_self, iff_true, true_iff, iff_false, false_iff, decide_eq_true_eq, decide_true, decide_false, Int32.add_zero, Nat.add_zero, ne_eq, Bool.false_eq_true, eq_self]) (by omega) hP hD hS (lv_sub hl [2, 3, 1, 0] rfl)
  exact lp4 ((y_cn y - (0)) + 1) (0) (nI 0) H locs ls (by omega) rfl (Nat.lt_succ_self _) hP hD hS (lv_sub hl [2, 3, 1, 0] rfl)
abbrev rmX11_meanWeight : Room := { frames := 2, cells := 0, slots := 0, locals := 45 }
theorem in_X11_meanWeight_X11 : ∀ w ∈ u_ws RX11 TX11 19, w ∈ wsX11_meanWeight := by decide +kernel
set_option maxHeartbeats 4000000 in
set_option maxRecDepth 100000 in
theorem kX11_meanWeight {D : va_G} {ct : Nat → ClassId} {l : Launch} (o : Nat → Nat) (v : MS) (R : va_W) (y : YS) (hy : yI y) (hq : RelI y (m_g v)) : MD D ct l yX11_meanWeight wsX11_meanWeight rmX11_meanWeight (MW ct o v R) [.ref (o 0)] (fun r0 (_ : Unit) => r0 = a_mean y) (fun _ : Unit => MW ct o v R) := by
  refine MDof (cc := cX11_meanWeight) (maxL := 1) (ret := (some .double)) (by decide) rfl (Nat.le_of_ble_eq_true rfl) ?_
  intro p e s m args below meth c A H locs F hP hK hD hS hA ls hl
  obtain ⟨hx, hb, hr, hlocks, hml, hown, hts, hin⟩ := F
  have hl : lv_has ls 1 [(0, .ref (o 0))] := hl
  have hB : y_n y ≤ 12 ∧ y_cn y ≤ 4 ∧ y_rn y ≤ 5 := ⟨hy.1, hy.2.1, hy.2.2.1⟩
  have hn : y_n y ≤ 12 := hy.1
  have hcn : y_cn y ≤ 4 := hy.2.1
  have hrn : y_rn y ≤ 5 := hy.2.2.1
  have h_X11 := in_X11_meanWeight_X11
  have f9 := hts (.fieldLink RX11 9 "CartArgumentsModel" "all" "[I") (by decide +kernel)
  refine lv_aload_n hx hb dX11_meanWeight_0 rfl (lv_at hl 0 rfl) ?_
  refine va_get (ci := 10) (v := .ref (o 1)) hx hb hts h_X11 hown hK hP 0 rfl rfl 0 (by decide) f9 (fun _ h9 => h9) rfl dX11_meanWeight_1 ?_
  refine lv_iconst (v := nI (0)) hx hb dX11_meanWeight_4 (by decide) ?_
  refine zIald (n := 972) (f := m_g v) (i := 0) hx hb hK hP 1 rfl (by omega) (by decide) dX11_meanWeight_5 ?_
  refine zTop (y := nI (y_n y)) hq.1 ?_
  refine zN_if_ne (tgt := 13) hx hb (by omega) dX11_meanWeight_6 (by decide) (fun c6_1 => ?_) (fun c6_1 => ?_)
  · skip
    refine lv_aload_n hx hb dX11_meanWeight_13 rfl (lv_at hl 0 rfl) ?_
    refine lv_iconst (v := nI (2)) hx hb dX11_meanWeight_14 (by decide) ?_
    refine zVI [.int (nI (2))] [] (kX11_weightsOf (o) (v) (R) (nI (2)) (y) (show yI (y) from hy) (show RelI (y) (m_g v) from hq)) hx hb hml hown hts (cwV 1 hts gX11_meanWeight_X11_weightsOf rfl rfl rfl (by decide +kernel) ⟨(Nat.le_of_ble_eq_true rfl), (Nat.le_of_ble_eq_true rfl)⟩) hK hP hD hS hA (va_recv hK hP (ci := 10) (q0 := 0) rfl rfl) rfl hl.1 rfl (Nat.le_of_ble_eq_true rfl) dX11_meanWeight_15 ⟨(Nat.le_of_ble_eq_true rfl), (Nat.le_of_ble_eq_true rfl)⟩ (fun r_15 _ H locs hr_15 hP hD hS => ?_)
    subst hr_15
    have hP : va_P D vwCl (MW ct o v R) H := hP
    have hD : va_D A (MW ct o v R) := hD
    refine lv_i2d hx hb dX11_meanWeight_18 ?_
    refine lv_aload_n hx hb dX11_meanWeight_19 rfl (lv_at hl 0 rfl) ?_
    refine va_get (ci := 10) (v := .ref (o 1)) hx hb hts h_X11 hown hK hP 0 rfl rfl 0 (by decide) f9 (fun _ h9 => h9) rfl dX11_meanWeight_20 ?_
    refine lv_iconst (v := nI (0)) hx hb dX11_meanWeight_23 (by decide) ?_
    refine zIald (n := 972) (f := m_g v) (i := 0) hx hb hK hP 1 rfl (by omega) (by decide) dX11_meanWeight_24 ?_
    refine zTop (y := nI (y_n y)) hq.1 ?_
    refine lv_i2d hx hb dX11_meanWeight_25 ?_
    refine lv_ddiv hx hb dX11_meanWeight_26 (by rw [swk_2]; exact mean_n hy c6_1) ?_
    exact zDret () hx hb hr hlocks hK hP hD hS dX11_meanWeight_27 (show (FP.ddiv (FP.i2d ((t_swk (y) (nI (2))))) (FP.i2d (nI (y_n y)))) = a_mean y from (by simp only [a_mean, swk_2, ixI, c6_1, p_in, p_worn, p_wi, p_creak, p_le0, p_lt1, p_rng, pmT, pmC, not_true_eq_false, not_false_eq_true, if_true, if_false, and_true, true_and, and_false, false_and, or_true, true_or, or_false, false_or, and_self, or_self, iff_true, true_iff, iff_false, false_iff, decide_eq_true_eq, decide_true, decide_false, Int32.add_zero, Nat.add_zero, ne_eq, Bool.false_eq_true, eq_self]))
  · skip
    refine lv_dconst0 hx hb dX11_meanWeight_9 ?_
    refine lv_goto (tgt := 27) hx hb dX11_meanWeight_10 (by decide) ?_
    exact zDret () hx hb hr hlocks hK hP hD hS dX11_meanWeight_27 (show FP.dconst0 = a_mean y from (by simp only [a_mean, swk_2, ixI, eq_true c6_1, p_in, p_worn, p_wi, p_creak, p_le0, p_lt1, p_rng, pmT, pmC, not_true_eq_false, not_false_eq_true, if_true, if_false, and_true, true_and, and_false, false_and, or_true, true_or, or_false, false_or, and_self, or_self, iff_true, true_iff, iff_false, false_iff, decide_eq_true_eq, decide_true, decide_false, Int32.add_zero, Nat.add_zero, ne_eq, Bool.false_eq_true, eq_self]))
abbrev rmX11_creakShare : Room := { frames := 7, cells := 0, slots := 0, locals := 157 }
theorem in_X11_creakShare_X11 : ∀ w ∈ u_ws RX11 TX11 19, w ∈ wsX11_creakShare := by decide +kernel
set_option maxHeartbeats 4000000 in
set_option maxRecDepth 100000 in
theorem kX11_creakShare {D : va_G} {ct : Nat → ClassId} {l : Launch} (o : Nat → Nat) (v : MS) (R : va_W) (y : YS) (hy : yI y) (hq : RelI y (m_g v)) : MF D ct l yX11_creakShare wsX11_creakShare rmX11_creakShare (MW ct o v R) [.ref (o 0)] (fun r0 (_ : Unit) => r0 = a_share y) (fun _ : Unit => MW ct o v R) := by
  refine MFof (cc := cX11_creakShare) (maxL := 1) (ret := (some .float)) (by decide) rfl (Nat.le_of_ble_eq_true rfl) ?_
  intro p e s m args below meth c A H locs F hP hK hD hS hA ls hl
  obtain ⟨hx, hb, hr, hlocks, hml, hown, hts, hin⟩ := F
  have hl : lv_has ls 1 [(0, .ref (o 0))] := hl
  have hB : y_n y ≤ 12 ∧ y_cn y ≤ 4 ∧ y_rn y ≤ 5 := ⟨hy.1, hy.2.1, hy.2.2.1⟩
  have hn : y_n y ≤ 12 := hy.1
  have hcn : y_cn y ≤ 4 := hy.2.1
  have hrn : y_rn y ≤ 5 := hy.2.2.1
  have h_X11 := in_X11_creakShare_X11
  have f9 := hts (.fieldLink RX11 9 "CartArgumentsModel" "all" "[I") (by decide +kernel)
  refine lv_aload_n hx hb dX11_creakShare_0 rfl (lv_at hl 0 rfl) ?_
  refine va_get (ci := 10) (v := .ref (o 1)) hx hb hts h_X11 hown hK hP 0 rfl rfl 0 (by decide) f9 (fun _ h9 => h9) rfl dX11_creakShare_1 ?_
  refine lv_iconst (v := nI (1)) hx hb dX11_creakShare_4 (by decide) ?_
  refine zIald (n := 972) (f := m_g v) (i := 1) hx hb hK hP 1 rfl (by omega) (by decide) dX11_creakShare_5 ?_
  refine zTop (y := nI (y_cn y)) hq.2.1 ?_
  refine zN_if_ne (tgt := 13) hx hb (by omega) dX11_creakShare_6 (by decide) (fun c6_1 => ?_) (fun c6_1 => ?_)
  · skip
    refine lv_aload_n hx hb dX11_creakShare_13 rfl (lv_at hl 0 rfl) ?_
    refine lv_iconst (v := nI (1)) hx hb dX11_creakShare_14 (by decide) ?_
    refine zVI [.int (nI (1))] [] (kX11_ofCarts (o) (v) (R) (nI (1)) (y) (show yI (y) from hy) (show RelI (y) (m_g v) from hq)) hx hb hml hown hts (cwV 1 hts gX11_creakShare_X11_ofCarts rfl rfl rfl (by decide +kernel) ⟨(Nat.le_of_ble_eq_true rfl), (Nat.le_of_ble_eq_true rfl)⟩) hK hP hD hS hA (va_recv hK hP (ci := 10) (q0 := 0) rfl rfl) rfl hl.1 rfl (Nat.le_of_ble_eq_true rfl) dX11_creakShare_15 ⟨(Nat.le_of_ble_eq_true rfl), (Nat.le_of_ble_eq_true rfl)⟩ (fun r_15 _ H locs hr_15 hP hD hS => ?_)
    subst hr_15
    have hP : va_P D vwCl (MW ct o v R) H := hP
    have hD : va_D A (MW ct o v R) := hD
    refine lv_i2f hx hb dX11_creakShare_18 ?_
    refine lv_iconst (v := nI (2)) hx hb dX11_creakShare_19 (by decide) ?_
    refine lv_aload_n hx hb dX11_creakShare_20 rfl (lv_at hl 0 rfl) ?_
    refine va_get (ci := 10) (v := .ref (o 1)) hx hb hts h_X11 hown hK hP 0 rfl rfl 0 (by decide) f9 (fun _ h9 => h9) rfl dX11_creakShare_21 ?_
    refine lv_iconst (v := nI (1)) hx hb dX11_creakShare_24 (by decide) ?_
    refine zIald (n := 972) (f := m_g v) (i := 1) hx hb hK hP 1 rfl (by omega) (by decide) dX11_creakShare_25 ?_
    refine zTop (y := nI (y_cn y)) hq.2.1 ?_
    refine zNmul hx hb dX11_creakShare_26 ?_
    refine lv_i2f hx hb dX11_creakShare_27 ?_
    refine lv_fdiv hx hb dX11_creakShare_28 (by rw [oc3_1]; exact share_n hy c6_1) ?_
    exact zFret () hx hb hr hlocks hK hP hD hS dX11_creakShare_29 (show (FP.fdiv (FP.i2f ((t_oc3 (y) (m_fl v) (nI (1))))) (FP.i2f (nI ((2 * y_cn y))))) = a_share y from (by simp only [a_share, oc3_1, ixI, c6_1, p_in, p_worn, p_wi, p_creak, p_le0, p_lt1, p_rng, pmT, pmC, not_true_eq_false, not_false_eq_true, if_true, if_false, and_true, true_and, and_false, false_and, or_true, true_or, or_false, false_or, and_self, or_self, iff_true, true_iff, iff_false, false_iff, decide_eq_true_eq, decide_true, decide_false, Int32.add_zero, Nat.add_zero, ne_eq, Bool.false_eq_true, eq_self]))
  · skip
    refine lv_fconst0 hx hb dX11_creakShare_9 ?_
    refine lv_goto (tgt := 29) hx hb dX11_creakShare_10 (by decide) ?_
    exact zFret () hx hb hr hlocks hK hP hD hS dX11_creakShare_29 (show FP.fconst0 = a_share y from (by simp only [a_share, oc3_1, ixI, eq_true c6_1, p_in, p_worn, p_wi, p_creak, p_le0, p_lt1, p_rng, pmT, pmC, not_true_eq_false, not_false_eq_true, if_true, if_false, and_true, true_and, and_false, false_and, or_true, true_or, or_false, false_or, and_self, or_self, iff_true, true_iff, iff_false, false_iff, decide_eq_true_eq, decide_true, decide_false, Int32.add_zero, Nat.add_zero, ne_eq, Bool.false_eq_true, eq_self]))
abbrev rmX11_account : Room := { frames := 7, cells := 0, slots := 0, locals := 157 }
theorem in_X11_account_X11 : ∀ w ∈ u_ws RX11 TX11 19, w ∈ wsX11_account := by decide +kernel
set_option maxHeartbeats 4000000 in
set_option maxRecDepth 100000 in
theorem kX11_account {D : va_G} {ct : Nat → ClassId} {l : Launch} (o : Nat → Nat) (v : MS) (R : va_W) (x1 : Int32) (y : YS) (hy : yI y) (hq : RelI y (m_g v)) (hwr : ∀ j, j < 2 * y_cn y → m_fl v j = y_wr y j) (hts2 : m_g v 3 = t_ts y) (hmm : m_g v 4 = y_mm y) : MI D ct l yX11_account wsX11_account rmX11_account (MW ct o v R) [.ref (o 0), .int (x1)] (fun r0 (_ : Unit) => r0 = a_acc y (m_ty v) (m_ch v) x1) (fun _ : Unit => MW ct o v R) := by
  refine MIof (cc := cX11_account) (maxL := 2) (ret := (some .int)) (by decide) rfl (Nat.le_of_ble_eq_true rfl) ?_
  intro p e s m args below meth c A H locs F hP hK hD hS hA ls hl
  obtain ⟨hx, hb, hr, hlocks, hml, hown, hts, hin⟩ := F
  have hl : lv_has ls 2 [(0, .ref (o 0)), (1, .int (x1))] := hl
  have hB : y_n y ≤ 12 ∧ y_cn y ≤ 4 ∧ y_rn y ≤ 5 := ⟨hy.1, hy.2.1, hy.2.2.1⟩
  have hn : y_n y ≤ 12 := hy.1
  have hcn : y_cn y ≤ 4 := hy.2.1
  have hrn : y_rn y ≤ 5 := hy.2.2.1
  have h_X11 := in_X11_account_X11
  have f9 := hts (.fieldLink RX11 9 "CartArgumentsModel" "all" "[I") (by decide +kernel)
  have f38 := hts (.fieldLink RX11 38 "CartArgumentsModel" "changes" "I") (by decide +kernel)
  have f192 := hts (.fieldLink RX11 192 "CartArgumentsModel" "typed" "I") (by decide +kernel)
  refine lv_iload_n hx hb dX11_account_0 rfl (lv_at hl 1 rfl) ?_
  rcases zSw 0 12 (x1) (by decide) (by decide) with sw1 | ⟨j, sw1, sw1e⟩
  · refine lv_tableOut (tgt := 149) hx hb dX11_account_1 (zSwO sw1) (by decide) ?_
    have hd0 : ¬ x1 = nI 0 := zSwN (j := 0) sw1 (by decide) (by decide) (by decide)
    have hd1 : ¬ x1 = nI 1 := zSwN (j := 1) sw1 (by decide) (by decide) (by decide)
    have hd2 : ¬ x1 = nI 2 := zSwN (j := 2) sw1 (by decide) (by decide) (by decide)
    have hd3 : ¬ x1 = nI 3 := zSwN (j := 3) sw1 (by decide) (by decide) (by decide)
    have hd4 : ¬ x1 = nI 4 := zSwN (j := 4) sw1 (by decide) (by decide) (by decide)
    have hd5 : ¬ x1 = nI 5 := zSwN (j := 5) sw1 (by decide) (by decide) (by decide)
    have hd6 : ¬ x1 = nI 6 := zSwN (j := 6) sw1 (by decide) (by decide) (by decide)
    have hd7 : ¬ x1 = nI 7 := zSwN (j := 7) sw1 (by decide) (by decide) (by decide)
    have hd8 : ¬ x1 = nI 8 := zSwN (j := 8) sw1 (by decide) (by decide) (by decide)
    have hd9 : ¬ x1 = nI 9 := zSwN (j := 9) sw1 (by decide) (by decide) (by decide)
    have hd10 : ¬ x1 = nI 10 := zSwN (j := 10) sw1 (by decide) (by decide) (by decide)
    have hd11 : ¬ x1 = nI 11 := zSwN (j := 11) sw1 (by decide) (by decide) (by decide)
    have hd12 : ¬ x1 = nI 12 := zSwN (j := 12) sw1 (by decide) (by decide) (by decide)
    refine lv_bipush (v := (-2)) hx hb dX11_account_149 (by decide) ?_
    exact zIret () hx hb hr hlocks hK hP hD hS dX11_account_151 (show (-2) = a_acc y (m_ty v) (m_ch v) x1 from (by simp only [a_acc, ixI, hd0, hd1, hd2, hd3, hd4, hd5, hd6, hd7, hd8, hd9, hd10, hd11, hd12, p_in, p_worn, p_wi, p_creak, p_le0, p_lt1, p_rng, pmT, pmC, not_true_eq_false, not_false_eq_true, if_true, if_false, and_true, true_and, and_false, false_and, or_true, true_or, or_false, false_or, and_self, or_self, iff_true, true_iff, iff_false, false_iff, decide_eq_true_eq, decide_true, decide_false, Int32.add_zero, Nat.add_zero, ne_eq, Bool.false_eq_true, eq_self]))
  · rcases (show j = 0 ∨ j = 1 ∨ j = 2 ∨ j = 3 ∨ j = 4 ∨ j = 5 ∨ j = 6 ∨ j = 7 ∨ j = 8 ∨ j = 9 ∨ j = 10 ∨ j = 11 ∨ j = 12 by omega) with rfl | rfl | rfl | rfl | rfl | rfl | rfl | rfl | rfl | rfl | rfl | rfl | rfl
    · refine lv_tableIn (off := 67) (tgt := 68) hx hb dX11_account_1 (by rw [sw1e]; decide) (by rw [sw1e]; decide) (by rw [sw1e]; rfl) (by decide) ?_
      subst sw1e
      have hj : (nI 0 : Int32) = nI 0 := rfl
      refine lv_aload_n hx hb dX11_account_68 rfl (lv_at hl 0 rfl) ?_
      refine va_get (ci := 10) (v := .ref (o 1)) hx hb hts h_X11 hown hK hP 0 rfl rfl 0 (by decide) f9 (fun _ h9 => h9) rfl dX11_account_69 ?_
      refine lv_iconst (v := nI (0)) hx hb dX11_account_72 (by decide) ?_
      refine zIald (n := 972) (f := m_g v) (i := 0) hx hb hK hP 1 rfl (by omega) (by decide) dX11_account_73 ?_
      refine zTop (y := nI (y_n y)) hq.1 ?_
      exact zIret () hx hb hr hlocks hK hP hD hS dX11_account_74 (show nI (y_n y) = a_acc y (m_ty v) (m_ch v) (nI 0) from (by simp only [a_acc, ixI, p_in, p_worn, p_wi, p_creak, p_le0, p_lt1, p_rng, pmT, pmC, not_true_eq_false, not_false_eq_true, if_true, if_false, and_true, true_and, and_false, false_and, or_true, true_or, or_false, false_or, and_self, or_self, iff_true, true_iff, iff_false, false_iff, decide_eq_true_eq, decide_true, decide_false, Int32.add_zero, Nat.add_zero, ne_eq, Bool.false_eq_true, eq_self]))
    · refine lv_tableIn (off := 74) (tgt := 75) hx hb dX11_account_1 (by rw [sw1e]; decide) (by rw [sw1e]; decide) (by rw [sw1e]; rfl) (by decide) ?_
      subst sw1e
      have hj : (nI 1 : Int32) = nI 1 := rfl
      have hn0 : ¬ (nI 1 = nI 0) := by decide
      refine lv_aload_n hx hb dX11_account_75 rfl (lv_at hl 0 rfl) ?_
      refine lv_iconst (v := nI (0)) hx hb dX11_account_76 (by decide) ?_
      refine zVI [.int (nI (0))] [] (kX11_things (o) (v) (R) (nI (0)) (y) (show yI (y) from hy) (show RelI (y) (m_g v) from hq)) hx hb hml hown hts (cwV 1 hts gX11_account_X11_things rfl rfl rfl (by decide +kernel) ⟨(Nat.le_of_ble_eq_true rfl), (Nat.le_of_ble_eq_true rfl)⟩) hK hP hD hS hA (va_recv hK hP (ci := 10) (q0 := 0) rfl rfl) rfl hl.1 rfl (Nat.le_of_ble_eq_true rfl) dX11_account_77 ⟨(Nat.le_of_ble_eq_true rfl), (Nat.le_of_ble_eq_true rfl)⟩ (fun r_77 _ H locs hr_77 hP hD hS => ?_)
      subst hr_77
      have hP : va_P D vwCl (MW ct o v R) H := hP
      have hD : va_D A (MW ct o v R) := hD
      exact zIret () hx hb hr hlocks hK hP hD hS dX11_account_80 (show (t_th (y) (nI (0))) = a_acc y (m_ty v) (m_ch v) (nI 1) from (by simp only [a_acc, th_k y (x := nI 0) (by decide), ixI, hn0, p_in, p_worn, p_wi, p_creak, p_le0, p_lt1, p_rng, pmT, pmC, not_true_eq_false, not_false_eq_true, if_true, if_false, and_true, true_and, and_false, false_and, or_true, true_or, or_false, false_or, and_self, or_self, iff_true, true_iff, iff_false, false_iff, decide_eq_true_eq, decide_true, decide_false, Int32.add_zero, Nat.add_zero, ne_eq, Bool.false_eq_true, eq_self]))
    · refine lv_tableIn (off := 80) (tgt := 81) hx hb dX11_account_1 (by rw [sw1e]; decide) (by rw [sw1e]; decide) (by rw [sw1e]; rfl) (by decide) ?_
      subst sw1e
      have hj : (nI 2 : Int32) = nI 2 := rfl
      have hn0 : ¬ (nI 2 = nI 0) := by decide
      have hn1 : ¬ (nI 2 = nI 1) := by decide
      refine lv_aload_n hx hb dX11_account_81 rfl (lv_at hl 0 rfl) ?_
      refine lv_iconst (v := nI (1)) hx hb dX11_account_82 (by decide) ?_
      refine zVI [.int (nI (1))] [] (kX11_things (o) (v) (R) (nI (1)) (y) (show yI (y) from hy) (show RelI (y) (m_g v) from hq)) hx hb hml hown hts (cwV 1 hts gX11_account_X11_things rfl rfl rfl (by decide +kernel) ⟨(Nat.le_of_ble_eq_true rfl), (Nat.le_of_ble_eq_true rfl)⟩) hK hP hD hS hA (va_recv hK hP (ci := 10) (q0 := 0) rfl rfl) rfl hl.1 rfl (Nat.le_of_ble_eq_true rfl) dX11_account_83 ⟨(Nat.le_of_ble_eq_true rfl), (Nat.le_of_ble_eq_true rfl)⟩ (fun r_83 _ H locs hr_83 hP hD hS => ?_)
      subst hr_83
      have hP : va_P D vwCl (MW ct o v R) H := hP
      have hD : va_D A (MW ct o v R) := hD
      exact zIret () hx hb hr hlocks hK hP hD hS dX11_account_86 (show (t_th (y) (nI (1))) = a_acc y (m_ty v) (m_ch v) (nI 2) from (by simp only [a_acc, th_k y (x := nI 1) (by decide), ixI, hn0, hn1, p_in, p_worn, p_wi, p_creak, p_le0, p_lt1, p_rng, pmT, pmC, not_true_eq_false, not_false_eq_true, if_true, if_false, and_true, true_and, and_false, false_and, or_true, true_or, or_false, false_or, and_self, or_self, iff_true, true_iff, iff_false, false_iff, decide_eq_true_eq, decide_true, decide_false, Int32.add_zero, Nat.add_zero, ne_eq, Bool.false_eq_true, eq_self]))
    · refine lv_tableIn (off := 86) (tgt := 87) hx hb dX11_account_1 (by rw [sw1e]; decide) (by rw [sw1e]; decide) (by rw [sw1e]; rfl) (by decide) ?_
      subst sw1e
      have hj : (nI 3 : Int32) = nI 3 := rfl
      have hn0 : ¬ (nI 3 = nI 0) := by decide
      have hn1 : ¬ (nI 3 = nI 1) := by decide
      have hn2 : ¬ (nI 3 = nI 2) := by decide
      refine lv_aload_n hx hb dX11_account_87 rfl (lv_at hl 0 rfl) ?_
      refine lv_iconst (v := nI (2)) hx hb dX11_account_88 (by decide) ?_
      refine zVI [.int (nI (2))] [] (kX11_things (o) (v) (R) (nI (2)) (y) (show yI (y) from hy) (show RelI (y) (m_g v) from hq)) hx hb hml hown hts (cwV 1 hts gX11_account_X11_things rfl rfl rfl (by decide +kernel) ⟨(Nat.le_of_ble_eq_true rfl), (Nat.le_of_ble_eq_true rfl)⟩) hK hP hD hS hA (va_recv hK hP (ci := 10) (q0 := 0) rfl rfl) rfl hl.1 rfl (Nat.le_of_ble_eq_true rfl) dX11_account_89 ⟨(Nat.le_of_ble_eq_true rfl), (Nat.le_of_ble_eq_true rfl)⟩ (fun r_89 _ H locs hr_89 hP hD hS => ?_)
      subst hr_89
      have hP : va_P D vwCl (MW ct o v R) H := hP
      have hD : va_D A (MW ct o v R) := hD
      exact zIret () hx hb hr hlocks hK hP hD hS dX11_account_92 (show (t_th (y) (nI (2))) = a_acc y (m_ty v) (m_ch v) (nI 3) from (by simp only [a_acc, th_2, ixI, hn0, hn1, hn2, p_in, p_worn, p_wi, p_creak, p_le0, p_lt1, p_rng, pmT, pmC, not_true_eq_false, not_false_eq_true, if_true, if_false, and_true, true_and, and_false, false_and, or_true, true_or, or_false, false_or, and_self, or_self, iff_true, true_iff, iff_false, false_iff, decide_eq_true_eq, decide_true, decide_false, Int32.add_zero, Nat.add_zero, ne_eq, Bool.false_eq_true, eq_self]))
    · refine lv_tableIn (off := 92) (tgt := 93) hx hb dX11_account_1 (by rw [sw1e]; decide) (by rw [sw1e]; decide) (by rw [sw1e]; rfl) (by decide) ?_
      subst sw1e
      have hj : (nI 4 : Int32) = nI 4 := rfl
      have hn0 : ¬ (nI 4 = nI 0) := by decide
      have hn1 : ¬ (nI 4 = nI 1) := by decide
      have hn2 : ¬ (nI 4 = nI 2) := by decide
      have hn3 : ¬ (nI 4 = nI 3) := by decide
      refine lv_aload_n hx hb dX11_account_93 rfl (lv_at hl 0 rfl) ?_
      refine va_get (ci := 10) (v := .ref (o 1)) hx hb hts h_X11 hown hK hP 0 rfl rfl 0 (by decide) f9 (fun _ h9 => h9) rfl dX11_account_94 ?_
      refine lv_iconst (v := nI (1)) hx hb dX11_account_97 (by decide) ?_
      refine zIald (n := 972) (f := m_g v) (i := 1) hx hb hK hP 1 rfl (by omega) (by decide) dX11_account_98 ?_
      refine zTop (y := nI (y_cn y)) hq.2.1 ?_
      exact zIret () hx hb hr hlocks hK hP hD hS dX11_account_99 (show nI (y_cn y) = a_acc y (m_ty v) (m_ch v) (nI 4) from (by simp only [a_acc, ixI, hn0, hn1, hn2, hn3, p_in, p_worn, p_wi, p_creak, p_le0, p_lt1, p_rng, pmT, pmC, not_true_eq_false, not_false_eq_true, if_true, if_false, and_true, true_and, and_false, false_and, or_true, true_or, or_false, false_or, and_self, or_self, iff_true, true_iff, iff_false, false_iff, decide_eq_true_eq, decide_true, decide_false, Int32.add_zero, Nat.add_zero, ne_eq, Bool.false_eq_true, eq_self]))
    · refine lv_tableIn (off := 99) (tgt := 100) hx hb dX11_account_1 (by rw [sw1e]; decide) (by rw [sw1e]; decide) (by rw [sw1e]; rfl) (by decide) ?_
      subst sw1e
      have hj : (nI 5 : Int32) = nI 5 := rfl
      have hn0 : ¬ (nI 5 = nI 0) := by decide
      have hn1 : ¬ (nI 5 = nI 1) := by decide
      have hn2 : ¬ (nI 5 = nI 2) := by decide
      have hn3 : ¬ (nI 5 = nI 3) := by decide
      have hn4 : ¬ (nI 5 = nI 4) := by decide
      refine lv_aload_n hx hb dX11_account_100 rfl (lv_at hl 0 rfl) ?_
      refine va_get (ci := 10) (v := .ref (o 1)) hx hb hts h_X11 hown hK hP 0 rfl rfl 0 (by decide) f9 (fun _ h9 => h9) rfl dX11_account_101 ?_
      refine lv_iconst (v := nI (2)) hx hb dX11_account_104 (by decide) ?_
      refine zIald (n := 972) (f := m_g v) (i := 2) hx hb hK hP 1 rfl (by omega) (by decide) dX11_account_105 ?_
      refine zTop (y := nI (y_rn y)) hq.2.2.1 ?_
      exact zIret () hx hb hr hlocks hK hP hD hS dX11_account_106 (show nI (y_rn y) = a_acc y (m_ty v) (m_ch v) (nI 5) from (by simp only [a_acc, ixI, hn0, hn1, hn2, hn3, hn4, p_in, p_worn, p_wi, p_creak, p_le0, p_lt1, p_rng, pmT, pmC, not_true_eq_false, not_false_eq_true, if_true, if_false, and_true, true_and, and_false, false_and, or_true, true_or, or_false, false_or, and_self, or_self, iff_true, true_iff, iff_false, false_iff, decide_eq_true_eq, decide_true, decide_false, Int32.add_zero, Nat.add_zero, ne_eq, Bool.false_eq_true, eq_self]))
    · refine lv_tableIn (off := 106) (tgt := 107) hx hb dX11_account_1 (by rw [sw1e]; decide) (by rw [sw1e]; decide) (by rw [sw1e]; rfl) (by decide) ?_
      subst sw1e
      have hj : (nI 6 : Int32) = nI 6 := rfl
      have hn0 : ¬ (nI 6 = nI 0) := by decide
      have hn1 : ¬ (nI 6 = nI 1) := by decide
      have hn2 : ¬ (nI 6 = nI 2) := by decide
      have hn3 : ¬ (nI 6 = nI 3) := by decide
      have hn4 : ¬ (nI 6 = nI 4) := by decide
      have hn5 : ¬ (nI 6 = nI 5) := by decide
      refine lv_aload_n hx hb dX11_account_107 rfl (lv_at hl 0 rfl) ?_
      refine lv_iconst (v := nI (0)) hx hb dX11_account_108 (by decide) ?_
      refine zVI [.int (nI (0))] [] (kX11_ofCarts (o) (v) (R) (nI (0)) (y) (show yI (y) from hy) (show RelI (y) (m_g v) from hq)) hx hb hml hown hts (cwV 1 hts gX11_account_X11_ofCarts rfl rfl rfl (by decide +kernel) ⟨(Nat.le_of_ble_eq_true rfl), (Nat.le_of_ble_eq_true rfl)⟩) hK hP hD hS hA (va_recv hK hP (ci := 10) (q0 := 0) rfl rfl) rfl hl.1 rfl (Nat.le_of_ble_eq_true rfl) dX11_account_109 ⟨(Nat.le_of_ble_eq_true rfl), (Nat.le_of_ble_eq_true rfl)⟩ (fun r_109 _ H locs hr_109 hP hD hS => ?_)
      subst hr_109
      have hP : va_P D vwCl (MW ct o v R) H := hP
      have hD : va_D A (MW ct o v R) := hD
      exact zIret () hx hb hr hlocks hK hP hD hS dX11_account_112 (show (t_oc3 (y) (m_fl v) (nI (0))) = a_acc y (m_ty v) (m_ch v) (nI 6) from (by simp only [a_acc, oc3_00, ixI, hn0, hn1, hn2, hn3, hn4, hn5, p_in, p_worn, p_wi, p_creak, p_le0, p_lt1, p_rng, pmT, pmC, not_true_eq_false, not_false_eq_true, if_true, if_false, and_true, true_and, and_false, false_and, or_true, true_or, or_false, false_or, and_self, or_self, iff_true, true_iff, iff_false, false_iff, decide_eq_true_eq, decide_true, decide_false, Int32.add_zero, Nat.add_zero, ne_eq, Bool.false_eq_true, eq_self]))
    · refine lv_tableIn (off := 112) (tgt := 113) hx hb dX11_account_1 (by rw [sw1e]; decide) (by rw [sw1e]; decide) (by rw [sw1e]; rfl) (by decide) ?_
      subst sw1e
      have hj : (nI 7 : Int32) = nI 7 := rfl
      have hn0 : ¬ (nI 7 = nI 0) := by decide
      have hn1 : ¬ (nI 7 = nI 1) := by decide
      have hn2 : ¬ (nI 7 = nI 2) := by decide
      have hn3 : ¬ (nI 7 = nI 3) := by decide
      have hn4 : ¬ (nI 7 = nI 4) := by decide
      have hn5 : ¬ (nI 7 = nI 5) := by decide
      have hn6 : ¬ (nI 7 = nI 6) := by decide
      refine lv_aload_n hx hb dX11_account_113 rfl (lv_at hl 0 rfl) ?_
      refine lv_iconst (v := nI (1)) hx hb dX11_account_114 (by decide) ?_
      refine zVI [.int (nI (1))] [] (kX11_ofCarts (o) (v) (R) (nI (1)) (y) (show yI (y) from hy) (show RelI (y) (m_g v) from hq)) hx hb hml hown hts (cwV 1 hts gX11_account_X11_ofCarts rfl rfl rfl (by decide +kernel) ⟨(Nat.le_of_ble_eq_true rfl), (Nat.le_of_ble_eq_true rfl)⟩) hK hP hD hS hA (va_recv hK hP (ci := 10) (q0 := 0) rfl rfl) rfl hl.1 rfl (Nat.le_of_ble_eq_true rfl) dX11_account_115 ⟨(Nat.le_of_ble_eq_true rfl), (Nat.le_of_ble_eq_true rfl)⟩ (fun r_115 _ H locs hr_115 hP hD hS => ?_)
      subst hr_115
      have hP : va_P D vwCl (MW ct o v R) H := hP
      have hD : va_D A (MW ct o v R) := hD
      exact zIret () hx hb hr hlocks hK hP hD hS dX11_account_118 (show (t_oc3 (y) (m_fl v) (nI (1))) = a_acc y (m_ty v) (m_ch v) (nI 7) from (by simp only [a_acc, oc3_1, ixI, hn0, hn1, hn2, hn3, hn4, hn5, hn6, p_in, p_worn, p_wi, p_creak, p_le0, p_lt1, p_rng, pmT, pmC, not_true_eq_false, not_false_eq_true, if_true, if_false, and_true, true_and, and_false, false_and, or_true, true_or, or_false, false_or, and_self, or_self, iff_true, true_iff, iff_false, false_iff, decide_eq_true_eq, decide_true, decide_false, Int32.add_zero, Nat.add_zero, ne_eq, Bool.false_eq_true, eq_self]))
    · refine lv_tableIn (off := 118) (tgt := 119) hx hb dX11_account_1 (by rw [sw1e]; decide) (by rw [sw1e]; decide) (by rw [sw1e]; rfl) (by decide) ?_
      subst sw1e
      have hj : (nI 8 : Int32) = nI 8 := rfl
      have hn0 : ¬ (nI 8 = nI 0) := by decide
      have hn1 : ¬ (nI 8 = nI 1) := by decide
      have hn2 : ¬ (nI 8 = nI 2) := by decide
      have hn3 : ¬ (nI 8 = nI 3) := by decide
      have hn4 : ¬ (nI 8 = nI 4) := by decide
      have hn5 : ¬ (nI 8 = nI 5) := by decide
      have hn6 : ¬ (nI 8 = nI 6) := by decide
      have hn7 : ¬ (nI 8 = nI 7) := by decide
      refine lv_aload_n hx hb dX11_account_119 rfl (lv_at hl 0 rfl) ?_
      refine lv_iconst (v := nI (2)) hx hb dX11_account_120 (by decide) ?_
      refine zVI [.int (nI (2))] [] (kX11_ofCarts (o) (v) (R) (nI (2)) (y) (show yI (y) from hy) (show RelI (y) (m_g v) from hq)) hx hb hml hown hts (cwV 1 hts gX11_account_X11_ofCarts rfl rfl rfl (by decide +kernel) ⟨(Nat.le_of_ble_eq_true rfl), (Nat.le_of_ble_eq_true rfl)⟩) hK hP hD hS hA (va_recv hK hP (ci := 10) (q0 := 0) rfl rfl) rfl hl.1 rfl (Nat.le_of_ble_eq_true rfl) dX11_account_121 ⟨(Nat.le_of_ble_eq_true rfl), (Nat.le_of_ble_eq_true rfl)⟩ (fun r_121 _ H locs hr_121 hP hD hS => ?_)
      subst hr_121
      have hP : va_P D vwCl (MW ct o v R) H := hP
      have hD : va_D A (MW ct o v R) := hD
      exact zIret () hx hb hr hlocks hK hP hD hS dX11_account_124 (show (t_oc3 (y) (m_fl v) (nI (2))) = a_acc y (m_ty v) (m_ch v) (nI 8) from (by simp only [a_acc, oc3_2 hwr, ixI, hn0, hn1, hn2, hn3, hn4, hn5, hn6, hn7, p_in, p_worn, p_wi, p_creak, p_le0, p_lt1, p_rng, pmT, pmC, not_true_eq_false, not_false_eq_true, if_true, if_false, and_true, true_and, and_false, false_and, or_true, true_or, or_false, false_or, and_self, or_self, iff_true, true_iff, iff_false, false_iff, decide_eq_true_eq, decide_true, decide_false, Int32.add_zero, Nat.add_zero, ne_eq, Bool.false_eq_true, eq_self]))
    · refine lv_tableIn (off := 124) (tgt := 125) hx hb dX11_account_1 (by rw [sw1e]; decide) (by rw [sw1e]; decide) (by rw [sw1e]; rfl) (by decide) ?_
      subst sw1e
      have hj : (nI 9 : Int32) = nI 9 := rfl
      have hn0 : ¬ (nI 9 = nI 0) := by decide
      have hn1 : ¬ (nI 9 = nI 1) := by decide
      have hn2 : ¬ (nI 9 = nI 2) := by decide
      have hn3 : ¬ (nI 9 = nI 3) := by decide
      have hn4 : ¬ (nI 9 = nI 4) := by decide
      have hn5 : ¬ (nI 9 = nI 5) := by decide
      have hn6 : ¬ (nI 9 = nI 6) := by decide
      have hn7 : ¬ (nI 9 = nI 7) := by decide
      have hn8 : ¬ (nI 9 = nI 8) := by decide
      refine lv_aload_n hx hb dX11_account_125 rfl (lv_at hl 0 rfl) ?_
      refine va_get (ci := 10) (v := .ref (o 1)) hx hb hts h_X11 hown hK hP 0 rfl rfl 0 (by decide) f9 (fun _ h9 => h9) rfl dX11_account_126 ?_
      refine lv_iconst (v := nI (3)) hx hb dX11_account_129 (by decide) ?_
      refine zIald (n := 972) (f := m_g v) (i := 3) hx hb hK hP 1 rfl (by omega) (by decide) dX11_account_130 ?_
      exact zIret () hx hb hr hlocks hK hP hD hS dX11_account_131 (show (m_g v (3)) = a_acc y (m_ty v) (m_ch v) (nI 9) from (hts2.trans (by simp only [a_acc, ixI, hn0, hn1, hn2, hn3, hn4, hn5, hn6, hn7, hn8, p_in, p_worn, p_wi, p_creak, p_le0, p_lt1, p_rng, pmT, pmC, not_true_eq_false, not_false_eq_true, if_true, if_false, and_true, true_and, and_false, false_and, or_true, true_or, or_false, false_or, and_self, or_self, iff_true, true_iff, iff_false, false_iff, decide_eq_true_eq, decide_true, decide_false, Int32.add_zero, Nat.add_zero, ne_eq, Bool.false_eq_true, eq_self])))
    · refine lv_tableIn (off := 131) (tgt := 132) hx hb dX11_account_1 (by rw [sw1e]; decide) (by rw [sw1e]; decide) (by rw [sw1e]; rfl) (by decide) ?_
      subst sw1e
      have hj : (nI 10 : Int32) = nI 10 := rfl
      have hn0 : ¬ (nI 10 = nI 0) := by decide
      have hn1 : ¬ (nI 10 = nI 1) := by decide
      have hn2 : ¬ (nI 10 = nI 2) := by decide
      have hn3 : ¬ (nI 10 = nI 3) := by decide
      have hn4 : ¬ (nI 10 = nI 4) := by decide
      have hn5 : ¬ (nI 10 = nI 5) := by decide
      have hn6 : ¬ (nI 10 = nI 6) := by decide
      have hn7 : ¬ (nI 10 = nI 7) := by decide
      have hn8 : ¬ (nI 10 = nI 8) := by decide
      have hn9 : ¬ (nI 10 = nI 9) := by decide
      refine lv_aload_n hx hb dX11_account_132 rfl (lv_at hl 0 rfl) ?_
      refine va_get (ci := 10) (v := .ref (o 1)) hx hb hts h_X11 hown hK hP 0 rfl rfl 0 (by decide) f9 (fun _ h9 => h9) rfl dX11_account_133 ?_
      refine lv_iconst (v := nI (4)) hx hb dX11_account_136 (by decide) ?_
      refine zIald (n := 972) (f := m_g v) (i := 4) hx hb hK hP 1 rfl (by omega) (by decide) dX11_account_137 ?_
      exact zIret () hx hb hr hlocks hK hP hD hS dX11_account_138 (show (m_g v (4)) = a_acc y (m_ty v) (m_ch v) (nI 10) from (hmm.trans (by simp only [a_acc, ixI, hn0, hn1, hn2, hn3, hn4, hn5, hn6, hn7, hn8, hn9, p_in, p_worn, p_wi, p_creak, p_le0, p_lt1, p_rng, pmT, pmC, not_true_eq_false, not_false_eq_true, if_true, if_false, and_true, true_and, and_false, false_and, or_true, true_or, or_false, false_or, and_self, or_self, iff_true, true_iff, iff_false, false_iff, decide_eq_true_eq, decide_true, decide_false, Int32.add_zero, Nat.add_zero, ne_eq, Bool.false_eq_true, eq_self])))
    · refine lv_tableIn (off := 138) (tgt := 139) hx hb dX11_account_1 (by rw [sw1e]; decide) (by rw [sw1e]; decide) (by rw [sw1e]; rfl) (by decide) ?_
      subst sw1e
      have hj : (nI 11 : Int32) = nI 11 := rfl
      have hn0 : ¬ (nI 11 = nI 0) := by decide
      have hn1 : ¬ (nI 11 = nI 1) := by decide
      have hn2 : ¬ (nI 11 = nI 2) := by decide
      have hn3 : ¬ (nI 11 = nI 3) := by decide
      have hn4 : ¬ (nI 11 = nI 4) := by decide
      have hn5 : ¬ (nI 11 = nI 5) := by decide
      have hn6 : ¬ (nI 11 = nI 6) := by decide
      have hn7 : ¬ (nI 11 = nI 7) := by decide
      have hn8 : ¬ (nI 11 = nI 8) := by decide
      have hn9 : ¬ (nI 11 = nI 9) := by decide
      have hn10 : ¬ (nI 11 = nI 10) := by decide
      refine lv_aload_n hx hb dX11_account_139 rfl (lv_at hl 0 rfl) ?_
      refine va_get (ci := 10) (v := .int (nI (m_ty v))) hx hb hts h_X11 hown hK hP 0 rfl rfl 13 (by decide) f192 (fun _ h9 => h9) rfl dX11_account_140 ?_
      exact zIret () hx hb hr hlocks hK hP hD hS dX11_account_143 (show nI (m_ty v) = a_acc y (m_ty v) (m_ch v) (nI 11) from (by simp only [a_acc, ixI, hn0, hn1, hn2, hn3, hn4, hn5, hn6, hn7, hn8, hn9, hn10, p_in, p_worn, p_wi, p_creak, p_le0, p_lt1, p_rng, pmT, pmC, not_true_eq_false, not_false_eq_true, if_true, if_false, and_true, true_and, and_false, false_and, or_true, true_or, or_false, false_or, and_self, or_self, iff_true, true_iff, iff_false, false_iff, decide_eq_true_eq, decide_true, decide_false, Int32.add_zero, Nat.add_zero, ne_eq, Bool.false_eq_true, eq_self]))
    · refine lv_tableIn (off := 143) (tgt := 144) hx hb dX11_account_1 (by rw [sw1e]; decide) (by rw [sw1e]; decide) (by rw [sw1e]; rfl) (by decide) ?_
      subst sw1e
      have hj : (nI 12 : Int32) = nI 12 := rfl
      have hn0 : ¬ (nI 12 = nI 0) := by decide
      have hn1 : ¬ (nI 12 = nI 1) := by decide
      have hn2 : ¬ (nI 12 = nI 2) := by decide
      have hn3 : ¬ (nI 12 = nI 3) := by decide
      have hn4 : ¬ (nI 12 = nI 4) := by decide
      have hn5 : ¬ (nI 12 = nI 5) := by decide
      have hn6 : ¬ (nI 12 = nI 6) := by decide
      have hn7 : ¬ (nI 12 = nI 7) := by decide
      have hn8 : ¬ (nI 12 = nI 8) := by decide
      have hn9 : ¬ (nI 12 = nI 9) := by decide
      have hn10 : ¬ (nI 12 = nI 10) := by decide
      have hn11 : ¬ (nI 12 = nI 11) := by decide
      refine lv_aload_n hx hb dX11_account_144 rfl (lv_at hl 0 rfl) ?_
      refine va_get (ci := 10) (v := .int (nI (m_ch v))) hx hb hts h_X11 hown hK hP 0 rfl rfl 2 (by decide) f38 (fun _ h9 => h9) rfl dX11_account_145 ?_
      exact zIret () hx hb hr hlocks hK hP hD hS dX11_account_148 (show nI (m_ch v) = a_acc y (m_ty v) (m_ch v) (nI 12) from (by simp only [a_acc, ixI, hn0, hn1, hn2, hn3, hn4, hn5, hn6, hn7, hn8, hn9, hn10, hn11, p_in, p_worn, p_wi, p_creak, p_le0, p_lt1, p_rng, pmT, pmC, not_true_eq_false, not_false_eq_true, if_true, if_false, and_true, true_and, and_false, false_and, or_true, true_or, or_false, false_or, and_self, or_self, iff_true, true_iff, iff_false, false_iff, decide_eq_true_eq, decide_true, decide_false, Int32.add_zero, Nat.add_zero, ne_eq, Bool.false_eq_true, eq_self]))
abbrev rmX11_fault : Room := { frames := 0, cells := 0, slots := 0, locals := 0 }
theorem in_X11_fault_X11 : ∀ w ∈ u_ws RX11 TX11 19, w ∈ wsX11_fault := by decide +kernel
set_option maxHeartbeats 4000000 in
set_option maxRecDepth 100000 in
theorem kX11_fault {D : va_G} {ct : Nat → ClassId} {l : Launch} (o : Nat → Nat) (v : MS) (R : va_W)  : MI D ct l yX11_fault wsX11_fault rmX11_fault (MW ct o v R) [.ref (o 0)] (fun r0 (_ : Unit) => r0 = m_fa v) (fun _ : Unit => MW ct o v R) := by
  refine MIof (cc := cX11_fault) (maxL := 1) (ret := (some .int)) (by decide) rfl (Nat.le_of_ble_eq_true rfl) ?_
  intro p e s m args below meth c A H locs F hP hK hD hS hA ls hl
  obtain ⟨hx, hb, hr, hlocks, hml, hown, hts, hin⟩ := F
  have hl : lv_has ls 1 [(0, .ref (o 0))] := hl
  have h_X11 := in_X11_fault_X11
  have f27 := hts (.fieldLink RX11 27 "CartArgumentsModel" "faultAt" "I") (by decide +kernel)
  refine lv_aload_n hx hb dX11_fault_0 rfl (lv_at hl 0 rfl) ?_
  refine va_get (ci := 10) (v := .int (m_fa v)) hx hb hts h_X11 hown hK hP 0 rfl rfl 16 (by decide) f27 (fun _ h9 => h9) rfl dX11_fault_1 ?_
  exact zIret () hx hb hr hlocks hK hP hD hS dX11_fault_4 (show m_fa v = m_fa v from rfl)
abbrev rmX11_isWell : Room := { frames := 0, cells := 0, slots := 0, locals := 0 }
set_option maxHeartbeats 4000000 in
set_option maxRecDepth 100000 in
theorem kX11_isWell {D : va_G} {ct : Nat → ClassId} {l : Launch} (o : Nat → Nat) (v : MS) (R : va_W)  : MI D ct l yX11_isWell wsX11_isWell rmX11_isWell (MW ct o v R) [.ref (o 0)] (fun r0 (_ : Unit) => r0 = nI 1) (fun _ : Unit => MW ct o v R) := by
  refine MIof (cc := cX11_isWell) (maxL := 1) (ret := (some .int)) (by decide) rfl (Nat.le_of_ble_eq_true rfl) ?_
  intro p e s m args below meth c A H locs F hP hK hD hS hA ls hl
  obtain ⟨hx, hb, hr, hlocks, hml, hown, hts, hin⟩ := F
  have hl : lv_has ls 1 [(0, .ref (o 0))] := hl
  refine lv_iconst (v := nI (1)) hx hb dX11_isWell_0 (by decide) ?_
  exact zIret () hx hb hr hlocks hK hP hD hS dX11_isWell_1 (show nI (1) = nI 1 from rfl)
abbrev rmX11_reason : Room := { frames := 1, cells := 0, slots := 0, locals := 22 }
theorem in_X11_reason_X11 : ∀ w ∈ u_ws RX11 TX11 19, w ∈ wsX11_reason := by decide +kernel
set_option maxHeartbeats 4000000 in
set_option maxRecDepth 100000 in
theorem kX11_reason {D : va_G} {ct : Nat → ClassId} {l : Launch} (o : Nat → Nat) (v : MS) (R : va_W) (x1 : Int32) (x2 : Int32) : MI D ct l yX11_reason wsX11_reason rmX11_reason (MW ct o v R) [.ref (o 0), .int (x1), .int (x2)] (fun r0 (_ : Unit) => r0 = a_rsn (m_why v) (m_det v) (m_li v) (m_ld v) x1 x2) (fun _ : Unit => MW ct o v R) := by
  refine MIof (cc := cX11_reason) (maxL := 3) (ret := (some .int)) (by decide) rfl (Nat.le_of_ble_eq_true rfl) ?_
  intro p e s m args below meth c A H locs F hP hK hD hS hA ls hl
  obtain ⟨hx, hb, hr, hlocks, hml, hown, hts, hin⟩ := F
  have hl : lv_has ls 3 [(0, .ref (o 0)), (1, .int (x1)), (2, .int (x2))] := hl
  have h_X11 := in_X11_reason_X11
  have f41 := hts (.fieldLink RX11 41 "CartArgumentsModel" "why" "I") (by decide +kernel)
  have f44 := hts (.fieldLink RX11 44 "CartArgumentsModel" "detail" "I") (by decide +kernel)
  have f47 := hts (.fieldLink RX11 47 "CartArgumentsModel" "lies" "I") (by decide +kernel)
  have f54 := hts (.fieldLink RX11 54 "CartArgumentsModel" "liesDetail" "I") (by decide +kernel)
  refine lv_iload_n hx hb dX11_reason_0 rfl (lv_at hl 1 rfl) ?_
  refine lv_iconst (v := nI (0)) hx hb dX11_reason_1 (by decide) ?_
  refine lv_iconst (v := nI (1)) hx hb dX11_reason_2 (by decide) ?_
  refine zSI [.int (x1), .int (nI (0)), .int (nI (1))] [] (kX11_in (MW ct o v R) (x1) (nI (0)) (nI (1))) hx hb hml hown hts (va_cwS 3 hts gX11_reason_X11_in rfl rfl rfl (by decide +kernel) ⟨(Nat.le_of_ble_eq_true rfl), (Nat.le_of_ble_eq_true rfl)⟩) hK hP hD hS hA rfl hl.1 rfl (Nat.le_of_ble_eq_true rfl) dX11_reason_3 ⟨(Nat.le_of_ble_eq_true rfl), (Nat.le_of_ble_eq_true rfl)⟩ (fun r_3 _ H locs hr_3 hP hD hS => ?_)
  subst hr_3
  have hP : va_P D vwCl (MW ct o v R) H := hP
  have hD : va_D A (MW ct o v R) := hD
  refine zB_if_ne (tgt := 12) hx hb dX11_reason_6 (by decide) (fun c6_1 => ?_) (fun c6_1 => ?_)
  · skip
    refine lv_iload_n hx hb dX11_reason_12 rfl (lv_at hl 1 rfl) ?_
    refine lv_if_ne (tgt := 23) hx hb dX11_reason_13 (by decide) (fun c13_2 => ?_) (fun c13_2 => ?_)
    · skip
      refine lv_aload_n hx hb dX11_reason_23 rfl (lv_at hl 0 rfl) ?_
      refine va_get (ci := 10) (v := .int (m_li v)) hx hb hts h_X11 hown hK hP 0 rfl rfl 6 (by decide) f47 (fun _ h9 => h9) rfl dX11_reason_24 ?_
      refine lv_if_ne (tgt := 33) hx hb dX11_reason_27 (by decide) (fun c27_3 => ?_) (fun c27_3 => ?_)
      · skip
        refine lv_iload_n hx hb dX11_reason_33 rfl (lv_at hl 1 rfl) ?_
        refine lv_if_ne (tgt := 55) hx hb dX11_reason_34 (by decide) (fun c34_4 => ?_) (fun c34_4 => ?_)
        · skip
          refine lv_iload_n hx hb dX11_reason_55 rfl (lv_at hl 2 rfl) ?_
          refine lv_if_eq (tgt := 66) hx hb dX11_reason_56 (by decide) (fun c56_5 => ?_) (fun c56_5 => ?_)
          · skip
            refine lv_aload_n hx hb dX11_reason_66 rfl (lv_at hl 0 rfl) ?_
            refine va_get (ci := 10) (v := .int (m_li v)) hx hb hts h_X11 hown hK hP 0 rfl rfl 6 (by decide) f47 (fun _ h9 => h9) rfl dX11_reason_67 ?_
            exact zIret () hx hb hr hlocks hK hP hD hS dX11_reason_70 (show m_li v = a_rsn (m_why v) (m_det v) (m_li v) (m_ld v) x1 x2 from (by simp only [a_rsn, c6_1, c13_2, c27_3, c34_4, eq_true c56_5, p_in, p_worn, p_wi, p_creak, p_le0, p_lt1, p_rng, pmT, pmC, not_true_eq_false, not_false_eq_true, if_true, if_false, and_true, true_and, and_false, false_and, or_true, true_or, or_false, false_or, and_self, or_self, iff_true, true_iff, iff_false, false_iff, decide_eq_true_eq, decide_true, decide_false, Int32.add_zero, Nat.add_zero, ne_eq, Bool.false_eq_true, eq_self]))
          · skip
            refine lv_aload_n hx hb dX11_reason_59 rfl (lv_at hl 0 rfl) ?_
            refine va_get (ci := 10) (v := .int (m_ld v)) hx hb hts h_X11 hown hK hP 0 rfl rfl 7 (by decide) f54 (fun _ h9 => h9) rfl dX11_reason_60 ?_
            refine lv_goto (tgt := 70) hx hb dX11_reason_63 (by decide) ?_
            exact zIret () hx hb hr hlocks hK hP hD hS dX11_reason_70 (show m_ld v = a_rsn (m_why v) (m_det v) (m_li v) (m_ld v) x1 x2 from (by simp only [a_rsn, c6_1, c13_2, c27_3, c34_4, c56_5, p_in, p_worn, p_wi, p_creak, p_le0, p_lt1, p_rng, pmT, pmC, not_true_eq_false, not_false_eq_true, if_true, if_false, and_true, true_and, and_false, false_and, or_true, true_or, or_false, false_or, and_self, or_self, iff_true, true_iff, iff_false, false_iff, decide_eq_true_eq, decide_true, decide_false, Int32.add_zero, Nat.add_zero, ne_eq, Bool.false_eq_true, eq_self]))
        · skip
          exact absurd c34_4 c13_2
      · skip
        refine lv_bipush (v := (-4)) hx hb dX11_reason_30 (by decide) ?_
        exact zIret () hx hb hr hlocks hK hP hD hS dX11_reason_32 (show (-4) = a_rsn (m_why v) (m_det v) (m_li v) (m_ld v) x1 x2 from (by simp only [a_rsn, c6_1, c13_2, eq_true c27_3, p_in, p_worn, p_wi, p_creak, p_le0, p_lt1, p_rng, pmT, pmC, not_true_eq_false, not_false_eq_true, if_true, if_false, and_true, true_and, and_false, false_and, or_true, true_or, or_false, false_or, and_self, or_self, iff_true, true_iff, iff_false, false_iff, decide_eq_true_eq, decide_true, decide_false, Int32.add_zero, Nat.add_zero, ne_eq, Bool.false_eq_true, eq_self]))
    · skip
      refine lv_aload_n hx hb dX11_reason_16 rfl (lv_at hl 0 rfl) ?_
      refine va_get (ci := 10) (v := .int (m_why v)) hx hb hts h_X11 hown hK hP 0 rfl rfl 4 (by decide) f41 (fun _ h9 => h9) rfl dX11_reason_17 ?_
      refine lv_goto (tgt := 27) hx hb dX11_reason_20 (by decide) ?_
      refine lv_if_ne (tgt := 33) hx hb dX11_reason_27 (by decide) (fun c27_6 => ?_) (fun c27_6 => ?_)
      · skip
        refine lv_iload_n hx hb dX11_reason_33 rfl (lv_at hl 1 rfl) ?_
        refine lv_if_ne (tgt := 55) hx hb dX11_reason_34 (by decide) (fun c34_7 => ?_) (fun c34_7 => ?_)
        · skip
          exact absurd c13_2 c34_7
        · skip
          refine lv_iload_n hx hb dX11_reason_37 rfl (lv_at hl 2 rfl) ?_
          refine lv_if_eq (tgt := 48) hx hb dX11_reason_38 (by decide) (fun c38_8 => ?_) (fun c38_8 => ?_)
          · skip
            refine lv_aload_n hx hb dX11_reason_48 rfl (lv_at hl 0 rfl) ?_
            refine va_get (ci := 10) (v := .int (m_why v)) hx hb hts h_X11 hown hK hP 0 rfl rfl 4 (by decide) f41 (fun _ h9 => h9) rfl dX11_reason_49 ?_
            refine lv_goto (tgt := 70) hx hb dX11_reason_52 (by decide) ?_
            exact zIret () hx hb hr hlocks hK hP hD hS dX11_reason_70 (show m_why v = a_rsn (m_why v) (m_det v) (m_li v) (m_ld v) x1 x2 from (by simp only [a_rsn, c6_1, eq_true c13_2, c27_6, eq_true c34_7, eq_true c38_8, p_in, p_worn, p_wi, p_creak, p_le0, p_lt1, p_rng, pmT, pmC, not_true_eq_false, not_false_eq_true, if_true, if_false, and_true, true_and, and_false, false_and, or_true, true_or, or_false, false_or, and_self, or_self, iff_true, true_iff, iff_false, false_iff, decide_eq_true_eq, decide_true, decide_false, Int32.add_zero, Nat.add_zero, ne_eq, Bool.false_eq_true, eq_self]))
          · skip
            refine lv_aload_n hx hb dX11_reason_41 rfl (lv_at hl 0 rfl) ?_
            refine va_get (ci := 10) (v := .int (m_det v)) hx hb hts h_X11 hown hK hP 0 rfl rfl 5 (by decide) f44 (fun _ h9 => h9) rfl dX11_reason_42 ?_
            refine lv_goto (tgt := 70) hx hb dX11_reason_45 (by decide) ?_
            exact zIret () hx hb hr hlocks hK hP hD hS dX11_reason_70 (show m_det v = a_rsn (m_why v) (m_det v) (m_li v) (m_ld v) x1 x2 from (by simp only [a_rsn, c6_1, eq_true c13_2, c27_6, eq_true c34_7, c38_8, p_in, p_worn, p_wi, p_creak, p_le0, p_lt1, p_rng, pmT, pmC, not_true_eq_false, not_false_eq_true, if_true, if_false, and_true, true_and, and_false, false_and, or_true, true_or, or_false, false_or, and_self, or_self, iff_true, true_iff, iff_false, false_iff, decide_eq_true_eq, decide_true, decide_false, Int32.add_zero, Nat.add_zero, ne_eq, Bool.false_eq_true, eq_self]))
      · skip
        refine lv_bipush (v := (-4)) hx hb dX11_reason_30 (by decide) ?_
        exact zIret () hx hb hr hlocks hK hP hD hS dX11_reason_32 (show (-4) = a_rsn (m_why v) (m_det v) (m_li v) (m_ld v) x1 x2 from (by simp only [a_rsn, c6_1, eq_true c13_2, eq_true c27_6, p_in, p_worn, p_wi, p_creak, p_le0, p_lt1, p_rng, pmT, pmC, not_true_eq_false, not_false_eq_true, if_true, if_false, and_true, true_and, and_false, false_and, or_true, true_or, or_false, false_or, and_self, or_self, iff_true, true_iff, iff_false, false_iff, decide_eq_true_eq, decide_true, decide_false, Int32.add_zero, Nat.add_zero, ne_eq, Bool.false_eq_true, eq_self]))
  · skip
    refine lv_bipush (v := (-2)) hx hb dX11_reason_9 (by decide) ?_
    exact zIret () hx hb hr hlocks hK hP hD hS dX11_reason_11 (show (-2) = a_rsn (m_why v) (m_det v) (m_li v) (m_ld v) x1 x2 from (by simp only [a_rsn, c6_1, p_in, p_worn, p_wi, p_creak, p_le0, p_lt1, p_rng, pmT, pmC, not_true_eq_false, not_false_eq_true, if_true, if_false, and_true, true_and, and_false, false_and, or_true, true_or, or_false, false_or, and_self, or_self, iff_true, true_iff, iff_false, false_iff, decide_eq_true_eq, decide_true, decide_false, Int32.add_zero, Nat.add_zero, ne_eq, Bool.false_eq_true, eq_self]))
abbrev rmX11_copies : Room := { frames := 0, cells := 0, slots := 0, locals := 0 }
theorem in_X11_copies_X11 : ∀ w ∈ u_ws RX11 TX11 19, w ∈ wsX11_copies := by decide +kernel
set_option maxHeartbeats 4000000 in
set_option maxRecDepth 100000 in
theorem kX11_copies {D : va_G} {ct : Nat → ClassId} {l : Launch} (o : Nat → Nat) (v : MS) (R : va_W) (k1 : Nat) (k2 : Nat) (hk1 : k1 < 12) (hk2 : k2 < 12) : MV D ct l yX11_copies wsX11_copies rmX11_copies (MW ct o v R) [.ref (o 0), .int (nI (k1)), .int (nI (k2))] (fun _ : Unit => True) (fun _ : Unit => MW ct o ((cpb (m_g v) 81 k1 k2 81), (cpf (m_fl v) 9 k1 k2 9), m_ch v, m_sv v, m_why v, m_det v, m_li v, m_ld v, m_wt v, m_wm v, m_ln v, m_lz v, m_in v, m_ty v, m_he v, m_wa v, m_fa v, m_cm v, m_cz v) R) := by
  refine MVof (cc := cX11_copies) (maxL := 4) (ret := none) (by decide) rfl (Nat.le_of_ble_eq_true rfl) ?_
  intro p e s m args below meth c A H locs F hP hK hD hS hA ls hl
  obtain ⟨hx, hb, hr, hlocks, hml, hown, hts, hin⟩ := F
  have hl : lv_has ls 4 [(0, .ref (o 0)), (1, .int (nI (k1))), (2, .int (nI (k2)))] := hl
  have h_X11 := in_X11_copies_X11
  have f9 := hts (.fieldLink RX11 9 "CartArgumentsModel" "all" "[I") (by decide +kernel)
  have f13 := hts (.fieldLink RX11 13 "CartArgumentsModel" "floats" "[F") (by decide +kernel)
  refine lv_iconst (v := nI (0)) hx hb dX11_copies_0 (by decide) ?_
  refine lv_istore_n (lv' := [(3, .int (nI (0))), (0, .ref (o 0)), (1, .int (nI (k1))), (2, .int (nI (k2)))]) hx hb dX11_copies_1 rfl hl (by decide) rfl (fun ls hl => ?_)
  have lp2 : ∀ (fu : Nat) (j : Nat) (H : Heap) (locs : List Loc) (ls : Array Slot), (j ≤ 81) → 81 - j < fu → va_P D vwCl (MW ct o ((cpb (m_g v) 81 k1 k2 j), m_fl v, m_ch v, m_sv v, m_why v, m_det v, m_li v, m_ld v, m_wt v, m_wm v, m_ln v, m_lz v, m_in v, m_ty v, m_he v, m_wa v, m_fa v, m_cm v, m_cz v) R) H → va_D A (MW ct o ((cpb (m_g v) 81 k1 k2 j), m_fl v, m_ch v, m_sv v, m_why v, m_det v, m_li v, m_ld v, m_wt v, m_wm v, m_ln v, m_lz v, m_in v, m_ty v, m_he v, m_wa v, m_fa v, m_cm v, m_cz v) R) → va_S A s.heap H locs → lv_has ls 4 [(0, .ref (o 0)), (1, .int (nI (k1))), (2, .int (nI (k2))), (3, .int (nI (j)))] → W p l e rmX11_copies s m args below meth c H locs 0 0 (MQ below (va_Qv (fun _ : Unit => True) (zB D ct A (fun _ : Unit => MW ct o ((cpb (m_g v) 81 k1 k2 81), (cpf (m_fl v) 9 k1 k2 9), m_ch v, m_sv v, m_why v, m_det v, m_li v, m_ld v, m_wt v, m_wm v, m_ln v, m_lz v, m_in v, m_ty v, m_he v, m_wa v, m_fa v, m_cm v, m_cz v) R)) A) args s rmX11_copies.cells rmX11_copies.slots A) (F0 m 2 ls []) := by
    intro fu
    induction fu with
    | zero => intro j H locs ls hj hfu; exact absurd hfu (Nat.not_lt_zero _)
    | succ fu ih2 =>
      intro j H locs ls hj hfu hP hD hS hl
      refine lv_iload_n hx hb dX11_copies_2 rfl (lv_at hl 3 rfl) ?_
      refine lv_bipush (v := nI (81)) hx hb dX11_copies_3 (by decide) ?_
      refine zN_icmp_ge (tgt := 36) hx hb (by omega) (by omega) dX11_copies_5 (by decide) (fun c5_1 => ?_) (fun c5_1 => ?_)
      · skip
        obtain rfl : j = 81 := by omega
        refine lv_iconst (v := nI (0)) hx hb dX11_copies_36 (by decide) ?_
        refine lv_istore_n (lv' := [(3, .int (nI (0))), (0, .ref (o 0)), (1, .int (nI (k1))), (2, .int (nI (k2)))]) hx hb dX11_copies_37 rfl hl (by decide) rfl (fun ls hl => ?_)
        have lp38 : ∀ (fu : Nat) (j : Nat) (H : Heap) (locs : List Loc) (ls : Array Slot), (j ≤ 9) → 9 - j < fu → va_P D vwCl (MW ct o ((cpb (m_g v) 81 k1 k2 81), (cpf (m_fl v) 9 k1 k2 j), m_ch v, m_sv v, m_why v, m_det v, m_li v, m_ld v, m_wt v, m_wm v, m_ln v, m_lz v, m_in v, m_ty v, m_he v, m_wa v, m_fa v, m_cm v, m_cz v) R) H → va_D A (MW ct o ((cpb (m_g v) 81 k1 k2 81), (cpf (m_fl v) 9 k1 k2 j), m_ch v, m_sv v, m_why v, m_det v, m_li v, m_ld v, m_wt v, m_wm v, m_ln v, m_lz v, m_in v, m_ty v, m_he v, m_wa v, m_fa v, m_cm v, m_cz v) R) → va_S A s.heap H locs → lv_has ls 4 [(0, .ref (o 0)), (1, .int (nI (k1))), (2, .int (nI (k2))), (3, .int (nI (j)))] → W p l e rmX11_copies s m args below meth c H locs 0 0 (MQ below (va_Qv (fun _ : Unit => True) (zB D ct A (fun _ : Unit => MW ct o ((cpb (m_g v) 81 k1 k2 81), (cpf (m_fl v) 9 k1 k2 9), m_ch v, m_sv v, m_why v, m_det v, m_li v, m_ld v, m_wt v, m_wm v, m_ln v, m_lz v, m_in v, m_ty v, m_he v, m_wa v, m_fa v, m_cm v, m_cz v) R)) A) args s rmX11_copies.cells rmX11_copies.slots A) (F0 m 38 ls []) := by
          intro fu
          induction fu with
          | zero => intro j H locs ls hj hfu; exact absurd hfu (Nat.not_lt_zero _)
          | succ fu ih38 =>
            intro j H locs ls hj hfu hP hD hS hl
            refine lv_iload_n hx hb dX11_copies_38 rfl (lv_at hl 3 rfl) ?_
            refine lv_bipush (v := nI (9)) hx hb dX11_copies_39 (by decide) ?_
            refine zN_icmp_ge (tgt := 72) hx hb (by omega) (by omega) dX11_copies_41 (by decide) (fun c41_2 => ?_) (fun c41_2 => ?_)
            · skip
              obtain rfl : j = 9 := by omega
              exact zVret () hx hb hr hlocks hK hP hD hS dX11_copies_72 trivial
            · skip
              refine lv_aload_n hx hb dX11_copies_44 rfl (lv_at hl 0 rfl) ?_
              refine va_get (ci := 10) (v := .ref (o 2)) hx hb hts h_X11 hown hK hP 0 rfl rfl 1 (by decide) f13 (fun _ h9 => h9) rfl dX11_copies_45 ?_
              refine lv_bipush (v := nI (9)) hx hb dX11_copies_48 (by decide) ?_
              refine lv_iload_n hx hb dX11_copies_50 rfl (lv_at hl 2 rfl) ?_
              refine zNmul hx hb dX11_copies_51 ?_
              refine lv_iload_n hx hb dX11_copies_52 rfl (lv_at hl 3 rfl) ?_
              refine zNadd hx hb dX11_copies_53 ?_
              refine lv_aload_n hx hb dX11_copies_54 rfl (lv_at hl 0 rfl) ?_
              refine va_get (ci := 10) (v := .ref (o 2)) hx hb hts h_X11 hown hK hP 0 rfl rfl 1 (by decide) f13 (fun _ h9 => h9) rfl dX11_copies_55 ?_
              refine lv_bipush (v := nI (9)) hx hb dX11_copies_58 (by decide) ?_
              refine lv_iload_n hx hb dX11_copies_60 rfl (lv_at hl 1 rfl) ?_
              refine zNmul hx hb dX11_copies_61 ?_
              refine lv_iload_n hx hb dX11_copies_62 rfl (lv_at hl 3 rfl) ?_
              refine zNadd hx hb dX11_copies_63 ?_
              refine zFald (n := 108) (f := (cpf (m_fl v) 9 k1 k2 j)) (i := ((9 * k1) + j)) hx hb hK hP 2 rfl (by omega) (by decide) dX11_copies_64 ?_
              refine zFast (n := 108) (f := (cpf (m_fl v) 9 k1 k2 j)) (i := ((9 * k2) + j)) hx hb hK hP hD hS 2 rfl (by omega) (by decide) dX11_copies_65 (fun H locs hP hD hS => ?_)
              have hP : va_P D vwCl (MW ct o ((cpb (m_g v) 81 k1 k2 81), (vf_upd ((cpf (m_fl v) 9 k1 k2 j)) (((9 * k2) + j)) (((cpf (m_fl v) 9 k1 k2 j) (((9 * k1) + j))))), m_ch v, m_sv v, m_why v, m_det v, m_li v, m_ld v, m_wt v, m_wm v, m_ln v, m_lz v, m_in v, m_ty v, m_he v, m_wa v, m_fa v, m_cm v, m_cz v) R) H := hP
              have hD : va_D A (MW ct o ((cpb (m_g v) 81 k1 k2 81), (vf_upd ((cpf (m_fl v) 9 k1 k2 j)) (((9 * k2) + j)) (((cpf (m_fl v) 9 k1 k2 j) (((9 * k1) + j))))), m_ch v, m_sv v, m_why v, m_det v, m_li v, m_ld v, m_wt v, m_wm v, m_ln v, m_lz v, m_in v, m_ty v, m_he v, m_wa v, m_fa v, m_cm v, m_cz v) R) := hD
              refine lv_iinc (v := nI ((j + 1))) (lv' := [(3, .int (nI ((j + 1)))), (0, .ref (o 0)), (1, .int (nI (k1))), (2, .int (nI (k2)))]) hx hb dX11_copies_66 hl (k := 3) rfl (zInc _) (by decide) rfl (fun ls hl => ?_)
              refine lv_goto (tgt := 38) hx hb dX11_copies_69 (by decide) ?_
              have hP : va_P D vwCl (MW ct o ((cpb (m_g v) 81 k1 k2 81), (cpf (m_fl v) 9 k1 k2 (j + 1)), m_ch v, m_sv v, m_why v, m_det v, m_li v, m_ld v, m_wt v, m_wm v, m_ln v, m_lz v, m_in v, m_ty v, m_he v, m_wa v, m_fa v, m_cm v, m_cz v) R) H := by rw [← cpf_s (by omega)]; exact hP
              have hD : va_D A (MW ct o ((cpb (m_g v) 81 k1 k2 81), (cpf (m_fl v) 9 k1 k2 (j + 1)), m_ch v, m_sv v, m_why v, m_det v, m_li v, m_ld v, m_wt v, m_wm v, m_ln v, m_lz v, m_in v, m_ty v, m_he v, m_wa v, m_fa v, m_cm v, m_cz v) R) := by rw [← cpf_s (by omega)]; exact hD
              exact ih38 ((j + 1)) H locs ls (by omega) (by omega) hP hD hS (lv_sub hl [1, 2, 3, 0] rfl)
        have hP : va_P D vwCl (MW ct o ((cpb (m_g v) 81 k1 k2 81), (cpf (m_fl v) 9 k1 k2 (0)), m_ch v, m_sv v, m_why v, m_det v, m_li v, m_ld v, m_wt v, m_wm v, m_ln v, m_lz v, m_in v, m_ty v, m_he v, m_wa v, m_fa v, m_cm v, m_cz v) R) H := by rw [cpf_0]; exact hP
        have hD : va_D A (MW ct o ((cpb (m_g v) 81 k1 k2 81), (cpf (m_fl v) 9 k1 k2 (0)), m_ch v, m_sv v, m_why v, m_det v, m_li v, m_ld v, m_wt v, m_wm v, m_ln v, m_lz v, m_in v, m_ty v, m_he v, m_wa v, m_fa v, m_cm v, m_cz v) R) := by rw [cpf_0]; exact hD
        exact lp38 ((9 - (0)) + 1) (0) H locs ls (by omega) (Nat.lt_succ_self _) hP hD hS (lv_sub hl [1, 2, 3, 0] rfl)
      · skip
        refine lv_aload_n hx hb dX11_copies_8 rfl (lv_at hl 0 rfl) ?_
        refine va_get (ci := 10) (v := .ref (o 1)) hx hb hts h_X11 hown hK hP 0 rfl rfl 0 (by decide) f9 (fun _ h9 => h9) rfl dX11_copies_9 ?_
        refine lv_bipush (v := nI (81)) hx hb dX11_copies_12 (by decide) ?_
        refine lv_iload_n hx hb dX11_copies_14 rfl (lv_at hl 2 rfl) ?_
        refine zNmul hx hb dX11_copies_15 ?_
        refine lv_iload_n hx hb dX11_copies_16 rfl (lv_at hl 3 rfl) ?_
        refine zNadd hx hb dX11_copies_17 ?_
        refine lv_aload_n hx hb dX11_copies_18 rfl (lv_at hl 0 rfl) ?_
        refine va_get (ci := 10) (v := .ref (o 1)) hx hb hts h_X11 hown hK hP 0 rfl rfl 0 (by decide) f9 (fun _ h9 => h9) rfl dX11_copies_19 ?_
        refine lv_bipush (v := nI (81)) hx hb dX11_copies_22 (by decide) ?_
        refine lv_iload_n hx hb dX11_copies_24 rfl (lv_at hl 1 rfl) ?_
        refine zNmul hx hb dX11_copies_25 ?_
        refine lv_iload_n hx hb dX11_copies_26 rfl (lv_at hl 3 rfl) ?_
        refine zNadd hx hb dX11_copies_27 ?_
        refine zIald (n := 972) (f := (cpb (m_g v) 81 k1 k2 j)) (i := ((81 * k1) + j)) hx hb hK hP 1 rfl (by omega) (by decide) dX11_copies_28 ?_
        refine zIast (n := 972) (f := (cpb (m_g v) 81 k1 k2 j)) (i := ((81 * k2) + j)) hx hb hK hP hD hS 1 rfl (by omega) (by decide) dX11_copies_29 (fun H locs hP hD hS => ?_)
        have hP : va_P D vwCl (MW ct o ((upd ((cpb (m_g v) 81 k1 k2 j)) (((81 * k2) + j)) (((cpb (m_g v) 81 k1 k2 j) (((81 * k1) + j))))), m_fl v, m_ch v, m_sv v, m_why v, m_det v, m_li v, m_ld v, m_wt v, m_wm v, m_ln v, m_lz v, m_in v, m_ty v, m_he v, m_wa v, m_fa v, m_cm v, m_cz v) R) H := hP
        have hD : va_D A (MW ct o ((upd ((cpb (m_g v) 81 k1 k2 j)) (((81 * k2) + j)) (((cpb (m_g v) 81 k1 k2 j) (((81 * k1) + j))))), m_fl v, m_ch v, m_sv v, m_why v, m_det v, m_li v, m_ld v, m_wt v, m_wm v, m_ln v, m_lz v, m_in v, m_ty v, m_he v, m_wa v, m_fa v, m_cm v, m_cz v) R) := hD
        refine lv_iinc (v := nI ((j + 1))) (lv' := [(3, .int (nI ((j + 1)))), (0, .ref (o 0)), (1, .int (nI (k1))), (2, .int (nI (k2)))]) hx hb dX11_copies_30 hl (k := 3) rfl (zInc _) (by decide) rfl (fun ls hl => ?_)
        refine lv_goto (tgt := 2) hx hb dX11_copies_33 (by decide) ?_
        have hP : va_P D vwCl (MW ct o ((cpb (m_g v) 81 k1 k2 (j + 1)), m_fl v, m_ch v, m_sv v, m_why v, m_det v, m_li v, m_ld v, m_wt v, m_wm v, m_ln v, m_lz v, m_in v, m_ty v, m_he v, m_wa v, m_fa v, m_cm v, m_cz v) R) H := by rw [← cpb_s (by omega)]; exact hP
        have hD : va_D A (MW ct o ((cpb (m_g v) 81 k1 k2 (j + 1)), m_fl v, m_ch v, m_sv v, m_why v, m_det v, m_li v, m_ld v, m_wt v, m_wm v, m_ln v, m_lz v, m_in v, m_ty v, m_he v, m_wa v, m_fa v, m_cm v, m_cz v) R) := by rw [← cpb_s (by omega)]; exact hD
        exact ih2 ((j + 1)) H locs ls (by omega) (by omega) hP hD hS (lv_sub hl [1, 2, 3, 0] rfl)
  have hP : va_P D vwCl (MW ct o ((cpb (m_g v) 81 k1 k2 (0)), m_fl v, m_ch v, m_sv v, m_why v, m_det v, m_li v, m_ld v, m_wt v, m_wm v, m_ln v, m_lz v, m_in v, m_ty v, m_he v, m_wa v, m_fa v, m_cm v, m_cz v) R) H := by rw [cpb_0]; exact hP
  have hD : va_D A (MW ct o ((cpb (m_g v) 81 k1 k2 (0)), m_fl v, m_ch v, m_sv v, m_why v, m_det v, m_li v, m_ld v, m_wt v, m_wm v, m_ln v, m_lz v, m_in v, m_ty v, m_he v, m_wa v, m_fa v, m_cm v, m_cz v) R) := by rw [cpb_0]; exact hD
  exact lp2 ((81 - (0)) + 1) (0) H locs ls (by omega) (Nat.lt_succ_self _) hP hD hS (lv_sub hl [1, 2, 3, 0] rfl)
abbrev rmX11_begins : Room := { frames := 1, cells := 0, slots := 0, locals := 23 }
set_option maxHeartbeats 4000000 in
set_option maxRecDepth 100000 in
theorem kX11_begins {D : va_G} {ct : Nat → ClassId} {l : Launch} (o : Nat → Nat) (v : MS) (R : va_W)  : MV D ct l yX11_begins wsX11_begins rmX11_begins (MW ct o v R) [.ref (o 0)] (fun _ : Unit => True) (fun _ : Unit => MW ct o ((cpb (m_g v) 81 0 10 81), (cpf (m_fl v) 9 0 10 9), m_ch v, m_sv v, m_why v, m_det v, m_li v, m_ld v, m_wt v, m_wm v, m_ln v, m_lz v, m_in v, m_ty v, m_he v, m_wa v, m_fa v, m_cm v, m_cz v) R) := by
  refine MVof (cc := cX11_begins) (maxL := 1) (ret := none) (by decide) rfl (Nat.le_of_ble_eq_true rfl) ?_
  intro p e s m args below meth c A H locs F hP hK hD hS hA ls hl
  obtain ⟨hx, hb, hr, hlocks, hml, hown, hts, hin⟩ := F
  have hl : lv_has ls 1 [(0, .ref (o 0))] := hl
  refine lv_aload_n hx hb dX11_begins_0 rfl (lv_at hl 0 rfl) ?_
  refine lv_iconst (v := nI (0)) hx hb dX11_begins_1 (by decide) ?_
  refine lv_bipush (v := nI (10)) hx hb dX11_begins_2 (by decide) ?_
  refine zVV [.int (nI (0)), .int (nI (10))] [] (kX11_copies (o) (v) (R) (0) (10) (show (0) < 12 from by omega) (show (10) < 12 from by omega)) hx hb hml hown hts (cwV 2 hts gX11_begins_X11_copies rfl rfl rfl (by decide +kernel) ⟨(Nat.le_of_ble_eq_true rfl), (Nat.le_of_ble_eq_true rfl)⟩) hK hP hD hS hA (va_recv hK hP (ci := 10) (q0 := 0) rfl rfl) rfl hl.1 rfl (Nat.le_of_ble_eq_true rfl) dX11_begins_4 ⟨(Nat.le_of_ble_eq_true rfl), (Nat.le_of_ble_eq_true rfl)⟩ (fun _ H locs hr_4 hP hD hS => ?_)
  have hP : va_P D vwCl (MW ct o ((cpb (m_g v) 81 (0) (10) 81), (cpf (m_fl v) 9 (0) (10) 9), (m_ch v), (m_sv v), (m_why v), (m_det v), (m_li v), (m_ld v), (m_wt v), (m_wm v), (m_ln v), (m_lz v), (m_in v), (m_ty v), (m_he v), (m_wa v), (m_fa v), (m_cm v), (m_cz v)) R) H := hP
  have hD : va_D A (MW ct o ((cpb (m_g v) 81 (0) (10) 81), (cpf (m_fl v) 9 (0) (10) 9), (m_ch v), (m_sv v), (m_why v), (m_det v), (m_li v), (m_ld v), (m_wt v), (m_wm v), (m_ln v), (m_lz v), (m_in v), (m_ty v), (m_he v), (m_wa v), (m_fa v), (m_cm v), (m_cz v)) R) := hD
  exact zVret () hx hb hr hlocks hK hP hD hS dX11_begins_7 trivial
abbrev rmX11_clear : Room := { frames := 0, cells := 0, slots := 0, locals := 0 }
theorem in_X11_clear_X11 : ∀ w ∈ u_ws RX11 TX11 19, w ∈ wsX11_clear := by decide +kernel
set_option maxHeartbeats 4000000 in
set_option maxRecDepth 100000 in
theorem kX11_clear {D : va_G} {ct : Nat → ClassId} {l : Launch} (o : Nat → Nat) (v : MS) (R : va_W)  : MI D ct l yX11_clear wsX11_clear rmX11_clear (MW ct o v R) [.ref (o 0)] (fun r0 (_ : Unit) => r0 = m_g v 0) (fun _ : Unit => MW ct o ((zrb (m_g v) 81), (zrf (m_fl v) 9), 0, m_sv v, m_why v, m_det v, m_li v, m_ld v, m_wt v, m_wm v, m_ln v, m_lz v, m_in v, m_ty v, m_he v, m_wa v, m_fa v, m_cm v, m_cz v) R) := by
  refine MIof (cc := cX11_clear) (maxL := 3) (ret := (some .int)) (by decide) rfl (Nat.le_of_ble_eq_true rfl) ?_
  intro p e s m args below meth c A H locs F hP hK hD hS hA ls hl
  obtain ⟨hx, hb, hr, hlocks, hml, hown, hts, hin⟩ := F
  have hl : lv_has ls 3 [(0, .ref (o 0))] := hl
  have h_X11 := in_X11_clear_X11
  have f9 := hts (.fieldLink RX11 9 "CartArgumentsModel" "all" "[I") (by decide +kernel)
  have f13 := hts (.fieldLink RX11 13 "CartArgumentsModel" "floats" "[F") (by decide +kernel)
  have f38 := hts (.fieldLink RX11 38 "CartArgumentsModel" "changes" "I") (by decide +kernel)
  refine lv_aload_n hx hb dX11_clear_0 rfl (lv_at hl 0 rfl) ?_
  refine va_get (ci := 10) (v := .ref (o 1)) hx hb hts h_X11 hown hK hP 0 rfl rfl 0 (by decide) f9 (fun _ h9 => h9) rfl dX11_clear_1 ?_
  refine lv_iconst (v := nI (0)) hx hb dX11_clear_4 (by decide) ?_
  refine zIald (n := 972) (f := m_g v) (i := 0) hx hb hK hP 1 rfl (by omega) (by decide) dX11_clear_5 ?_
  refine lv_istore_n (lv' := [(1, .int ((m_g v (0)))), (0, .ref (o 0))]) hx hb dX11_clear_6 rfl hl (by decide) rfl (fun ls hl => ?_)
  refine lv_iconst (v := nI (0)) hx hb dX11_clear_7 (by decide) ?_
  refine lv_istore_n (lv' := [(2, .int (nI (0))), (1, .int ((m_g v (0)))), (0, .ref (o 0))]) hx hb dX11_clear_8 rfl hl (by decide) rfl (fun ls hl => ?_)
  have lp9 : ∀ (fu : Nat) (j : Nat) (H : Heap) (locs : List Loc) (ls : Array Slot), (j ≤ 81) → 81 - j < fu → va_P D vwCl (MW ct o ((zrb (m_g v) j), m_fl v, m_ch v, m_sv v, m_why v, m_det v, m_li v, m_ld v, m_wt v, m_wm v, m_ln v, m_lz v, m_in v, m_ty v, m_he v, m_wa v, m_fa v, m_cm v, m_cz v) R) H → va_D A (MW ct o ((zrb (m_g v) j), m_fl v, m_ch v, m_sv v, m_why v, m_det v, m_li v, m_ld v, m_wt v, m_wm v, m_ln v, m_lz v, m_in v, m_ty v, m_he v, m_wa v, m_fa v, m_cm v, m_cz v) R) → va_S A s.heap H locs → lv_has ls 3 [(0, .ref (o 0)), (1, .int ((m_g v (0)))), (2, .int (nI (j)))] → W p l e rmX11_clear s m args below meth c H locs 0 0 (MQ below (va_Qi (fun r0 (_ : Unit) => r0 = m_g v 0) (zB D ct A (fun _ : Unit => MW ct o ((zrb (m_g v) 81), (zrf (m_fl v) 9), 0, m_sv v, m_why v, m_det v, m_li v, m_ld v, m_wt v, m_wm v, m_ln v, m_lz v, m_in v, m_ty v, m_he v, m_wa v, m_fa v, m_cm v, m_cz v) R)) A) args s rmX11_clear.cells rmX11_clear.slots A) (F0 m 9 ls []) := by
    intro fu
    induction fu with
    | zero => intro j H locs ls hj hfu; exact absurd hfu (Nat.not_lt_zero _)
    | succ fu ih9 =>
      intro j H locs ls hj hfu hP hD hS hl
      refine lv_iload_n hx hb dX11_clear_9 rfl (lv_at hl 2 rfl) ?_
      refine lv_bipush (v := nI (81)) hx hb dX11_clear_10 (by decide) ?_
      refine zN_icmp_ge (tgt := 28) hx hb (by omega) (by omega) dX11_clear_12 (by decide) (fun c12_1 => ?_) (fun c12_1 => ?_)
      · skip
        obtain rfl : j = 81 := by omega
        refine lv_iconst (v := nI (0)) hx hb dX11_clear_28 (by decide) ?_
        refine lv_istore_n (lv' := [(2, .int (nI (0))), (0, .ref (o 0)), (1, .int ((m_g v (0))))]) hx hb dX11_clear_29 rfl hl (by decide) rfl (fun ls hl => ?_)
        have lp30 : ∀ (fu : Nat) (j : Nat) (H : Heap) (locs : List Loc) (ls : Array Slot), (j ≤ 9) → 9 - j < fu → va_P D vwCl (MW ct o ((zrb (m_g v) 81), (zrf (m_fl v) j), m_ch v, m_sv v, m_why v, m_det v, m_li v, m_ld v, m_wt v, m_wm v, m_ln v, m_lz v, m_in v, m_ty v, m_he v, m_wa v, m_fa v, m_cm v, m_cz v) R) H → va_D A (MW ct o ((zrb (m_g v) 81), (zrf (m_fl v) j), m_ch v, m_sv v, m_why v, m_det v, m_li v, m_ld v, m_wt v, m_wm v, m_ln v, m_lz v, m_in v, m_ty v, m_he v, m_wa v, m_fa v, m_cm v, m_cz v) R) → va_S A s.heap H locs → lv_has ls 3 [(0, .ref (o 0)), (1, .int ((m_g v (0)))), (2, .int (nI (j)))] → W p l e rmX11_clear s m args below meth c H locs 0 0 (MQ below (va_Qi (fun r0 (_ : Unit) => r0 = m_g v 0) (zB D ct A (fun _ : Unit => MW ct o ((zrb (m_g v) 81), (zrf (m_fl v) 9), 0, m_sv v, m_why v, m_det v, m_li v, m_ld v, m_wt v, m_wm v, m_ln v, m_lz v, m_in v, m_ty v, m_he v, m_wa v, m_fa v, m_cm v, m_cz v) R)) A) args s rmX11_clear.cells rmX11_clear.slots A) (F0 m 30 ls []) := by
          intro fu
          induction fu with
          | zero => intro j H locs ls hj hfu; exact absurd hfu (Nat.not_lt_zero _)
          | succ fu ih30 =>
            intro j H locs ls hj hfu hP hD hS hl
            refine lv_iload_n hx hb dX11_clear_30 rfl (lv_at hl 2 rfl) ?_
            refine lv_bipush (v := nI (9)) hx hb dX11_clear_31 (by decide) ?_
            refine zN_icmp_ge (tgt := 49) hx hb (by omega) (by omega) dX11_clear_33 (by decide) (fun c33_2 => ?_) (fun c33_2 => ?_)
            · skip
              obtain rfl : j = 9 := by omega
              refine lv_aload_n hx hb dX11_clear_49 rfl (lv_at hl 0 rfl) ?_
              refine lv_iconst (v := nI (0)) hx hb dX11_clear_50 (by decide) ?_
              refine va_put (ci := 10) (v := .int (nI (0))) (ty := .int) hx hb hts h_X11 tyX11 tyX11_ok nmX11 hown hK hP hD hS 0 rfl rfl 2 (by decide) f38 (fun _ h9 => h9) rfl (by decide +kernel) rfl rfl (Nat.le_of_ble_eq_true rfl) dX11_clear_51 (fun H locs hP hD hS => ?_)
              have hP : va_P D vwCl (MW ct o ((zrb (m_g v) 81), (zrf (m_fl v) 9), 0, m_sv v, m_why v, m_det v, m_li v, m_ld v, m_wt v, m_wm v, m_ln v, m_lz v, m_in v, m_ty v, m_he v, m_wa v, m_fa v, m_cm v, m_cz v) R) H := hP
              have hD : va_D A (MW ct o ((zrb (m_g v) 81), (zrf (m_fl v) 9), 0, m_sv v, m_why v, m_det v, m_li v, m_ld v, m_wt v, m_wm v, m_ln v, m_lz v, m_in v, m_ty v, m_he v, m_wa v, m_fa v, m_cm v, m_cz v) R) := hD
              refine lv_iload_n hx hb dX11_clear_54 rfl (lv_at hl 1 rfl) ?_
              exact zIret () hx hb hr hlocks hK hP hD hS dX11_clear_55 (show (m_g v (0)) = m_g v 0 from rfl)
            · skip
              refine lv_aload_n hx hb dX11_clear_36 rfl (lv_at hl 0 rfl) ?_
              refine va_get (ci := 10) (v := .ref (o 2)) hx hb hts h_X11 hown hK hP 0 rfl rfl 1 (by decide) f13 (fun _ h9 => h9) rfl dX11_clear_37 ?_
              refine lv_iload_n hx hb dX11_clear_40 rfl (lv_at hl 2 rfl) ?_
              refine lv_fconst0 hx hb dX11_clear_41 ?_
              refine zFast (n := 108) (f := (zrf (m_fl v) j)) (i := j) hx hb hK hP hD hS 2 rfl (by omega) (by decide) dX11_clear_42 (fun H locs hP hD hS => ?_)
              have hP : va_P D vwCl (MW ct o ((zrb (m_g v) 81), (vf_upd ((zrf (m_fl v) j)) (j) (FP.fconst0)), m_ch v, m_sv v, m_why v, m_det v, m_li v, m_ld v, m_wt v, m_wm v, m_ln v, m_lz v, m_in v, m_ty v, m_he v, m_wa v, m_fa v, m_cm v, m_cz v) R) H := hP
              have hD : va_D A (MW ct o ((zrb (m_g v) 81), (vf_upd ((zrf (m_fl v) j)) (j) (FP.fconst0)), m_ch v, m_sv v, m_why v, m_det v, m_li v, m_ld v, m_wt v, m_wm v, m_ln v, m_lz v, m_in v, m_ty v, m_he v, m_wa v, m_fa v, m_cm v, m_cz v) R) := hD
              refine lv_iinc (v := nI ((j + 1))) (lv' := [(2, .int (nI ((j + 1)))), (0, .ref (o 0)), (1, .int ((m_g v (0))))]) hx hb dX11_clear_43 hl (k := 2) rfl (zInc _) (by decide) rfl (fun ls hl => ?_)
              refine lv_goto (tgt := 30) hx hb dX11_clear_46 (by decide) ?_
              have hP : va_P D vwCl (MW ct o ((zrb (m_g v) 81), (zrf (m_fl v) (j + 1)), m_ch v, m_sv v, m_why v, m_det v, m_li v, m_ld v, m_wt v, m_wm v, m_ln v, m_lz v, m_in v, m_ty v, m_he v, m_wa v, m_fa v, m_cm v, m_cz v) R) H := by rw [← zrf_s]; exact hP
              have hD : va_D A (MW ct o ((zrb (m_g v) 81), (zrf (m_fl v) (j + 1)), m_ch v, m_sv v, m_why v, m_det v, m_li v, m_ld v, m_wt v, m_wm v, m_ln v, m_lz v, m_in v, m_ty v, m_he v, m_wa v, m_fa v, m_cm v, m_cz v) R) := by rw [← zrf_s]; exact hD
              exact ih30 ((j + 1)) H locs ls (by omega) (by omega) hP hD hS (lv_sub hl [1, 2, 0] rfl)
        have hP : va_P D vwCl (MW ct o ((zrb (m_g v) 81), (zrf (m_fl v) (0)), m_ch v, m_sv v, m_why v, m_det v, m_li v, m_ld v, m_wt v, m_wm v, m_ln v, m_lz v, m_in v, m_ty v, m_he v, m_wa v, m_fa v, m_cm v, m_cz v) R) H := by rw [zrf_0]; exact hP
        have hD : va_D A (MW ct o ((zrb (m_g v) 81), (zrf (m_fl v) (0)), m_ch v, m_sv v, m_why v, m_det v, m_li v, m_ld v, m_wt v, m_wm v, m_ln v, m_lz v, m_in v, m_ty v, m_he v, m_wa v, m_fa v, m_cm v, m_cz v) R) := by rw [zrf_0]; exact hD
        exact lp30 ((9 - (0)) + 1) (0) H locs ls (by omega) (Nat.lt_succ_self _) hP hD hS (lv_sub hl [1, 2, 0] rfl)
      · skip
        refine lv_aload_n hx hb dX11_clear_15 rfl (lv_at hl 0 rfl) ?_
        refine va_get (ci := 10) (v := .ref (o 1)) hx hb hts h_X11 hown hK hP 0 rfl rfl 0 (by decide) f9 (fun _ h9 => h9) rfl dX11_clear_16 ?_
        refine lv_iload_n hx hb dX11_clear_19 rfl (lv_at hl 2 rfl) ?_
        refine lv_iconst (v := nI (0)) hx hb dX11_clear_20 (by decide) ?_
        refine zIast (n := 972) (f := (zrb (m_g v) j)) (i := j) hx hb hK hP hD hS 1 rfl (by omega) (by decide) dX11_clear_21 (fun H locs hP hD hS => ?_)
        have hP : va_P D vwCl (MW ct o ((upd ((zrb (m_g v) j)) (j) (nI (0))), m_fl v, m_ch v, m_sv v, m_why v, m_det v, m_li v, m_ld v, m_wt v, m_wm v, m_ln v, m_lz v, m_in v, m_ty v, m_he v, m_wa v, m_fa v, m_cm v, m_cz v) R) H := hP
        have hD : va_D A (MW ct o ((upd ((zrb (m_g v) j)) (j) (nI (0))), m_fl v, m_ch v, m_sv v, m_why v, m_det v, m_li v, m_ld v, m_wt v, m_wm v, m_ln v, m_lz v, m_in v, m_ty v, m_he v, m_wa v, m_fa v, m_cm v, m_cz v) R) := hD
        refine lv_iinc (v := nI ((j + 1))) (lv' := [(2, .int (nI ((j + 1)))), (0, .ref (o 0)), (1, .int ((m_g v (0))))]) hx hb dX11_clear_22 hl (k := 2) rfl (zInc _) (by decide) rfl (fun ls hl => ?_)
        refine lv_goto (tgt := 9) hx hb dX11_clear_25 (by decide) ?_
        have hP : va_P D vwCl (MW ct o ((zrb (m_g v) (j + 1)), m_fl v, m_ch v, m_sv v, m_why v, m_det v, m_li v, m_ld v, m_wt v, m_wm v, m_ln v, m_lz v, m_in v, m_ty v, m_he v, m_wa v, m_fa v, m_cm v, m_cz v) R) H := by rw [← zrb_s]; exact hP
        have hD : va_D A (MW ct o ((zrb (m_g v) (j + 1)), m_fl v, m_ch v, m_sv v, m_why v, m_det v, m_li v, m_ld v, m_wt v, m_wm v, m_ln v, m_lz v, m_in v, m_ty v, m_he v, m_wa v, m_fa v, m_cm v, m_cz v) R) := by rw [← zrb_s]; exact hD
        exact ih9 ((j + 1)) H locs ls (by omega) (by omega) hP hD hS (lv_sub hl [1, 2, 0] rfl)
  have hP : va_P D vwCl (MW ct o ((zrb (m_g v) (0)), m_fl v, m_ch v, m_sv v, m_why v, m_det v, m_li v, m_ld v, m_wt v, m_wm v, m_ln v, m_lz v, m_in v, m_ty v, m_he v, m_wa v, m_fa v, m_cm v, m_cz v) R) H := by rw [zrb_0]; exact hP
  have hD : va_D A (MW ct o ((zrb (m_g v) (0)), m_fl v, m_ch v, m_sv v, m_why v, m_det v, m_li v, m_ld v, m_wt v, m_wm v, m_ln v, m_lz v, m_in v, m_ty v, m_he v, m_wa v, m_fa v, m_cm v, m_cz v) R) := by rw [zrb_0]; exact hD
  exact lp9 ((81 - (0)) + 1) (0) H locs ls (by omega) (Nat.lt_succ_self _) hP hD hS (lv_sub hl [2, 1, 0] rfl)
abbrev rmX11_save : Room := { frames := 1, cells := 0, slots := 0, locals := 23 }
theorem in_X11_save_X11 : ∀ w ∈ u_ws RX11 TX11 19, w ∈ wsX11_save := by decide +kernel
set_option maxHeartbeats 4000000 in
set_option maxRecDepth 100000 in
theorem kX11_save {D : va_G} {ct : Nat → ClassId} {l : Launch} (o : Nat → Nat) (v : MS) (R : va_W)  : MI D ct l yX11_save wsX11_save rmX11_save (MW ct o v R) [.ref (o 0)] (fun r0 (_ : Unit) => r0 = cpb (m_g v) 81 0 9 81 0) (fun _ : Unit => MW ct o ((cpb (m_g v) 81 0 9 81), (cpf (m_fl v) 9 0 9 9), m_ch v, nI (1), m_why v, m_det v, m_li v, m_ld v, m_wt v, m_wm v, m_ln v, m_lz v, m_in v, m_ty v, m_he v, m_wa v, m_fa v, m_cm v, m_cz v) R) := by
  refine MIof (cc := cX11_save) (maxL := 1) (ret := (some .int)) (by decide) rfl (Nat.le_of_ble_eq_true rfl) ?_
  intro p e s m args below meth c A H locs F hP hK hD hS hA ls hl
  obtain ⟨hx, hb, hr, hlocks, hml, hown, hts, hin⟩ := F
  have hl : lv_has ls 1 [(0, .ref (o 0))] := hl
  have h_X11 := in_X11_save_X11
  have f9 := hts (.fieldLink RX11 9 "CartArgumentsModel" "all" "[I") (by decide +kernel)
  have f242 := hts (.fieldLink RX11 242 "CartArgumentsModel" "isSaved" "Z") (by decide +kernel)
  refine lv_aload_n hx hb dX11_save_0 rfl (lv_at hl 0 rfl) ?_
  refine lv_iconst (v := nI (1)) hx hb dX11_save_1 (by decide) ?_
  refine va_put (ci := 10) (v := .int (nI (1))) (ty := .boolean) hx hb hts h_X11 tyX11 tyX11_ok nmX11 hown hK hP hD hS 0 rfl rfl 3 (by decide) f242 (fun _ h9 => h9) rfl (by decide +kernel) rfl rfl (Nat.le_of_ble_eq_true rfl) dX11_save_2 (fun H locs hP hD hS => ?_)
  have hP : va_P D vwCl (MW ct o (m_g v, m_fl v, m_ch v, nI (1), m_why v, m_det v, m_li v, m_ld v, m_wt v, m_wm v, m_ln v, m_lz v, m_in v, m_ty v, m_he v, m_wa v, m_fa v, m_cm v, m_cz v) R) H := hP
  have hD : va_D A (MW ct o (m_g v, m_fl v, m_ch v, nI (1), m_why v, m_det v, m_li v, m_ld v, m_wt v, m_wm v, m_ln v, m_lz v, m_in v, m_ty v, m_he v, m_wa v, m_fa v, m_cm v, m_cz v) R) := hD
  refine lv_aload_n hx hb dX11_save_5 rfl (lv_at hl 0 rfl) ?_
  refine lv_iconst (v := nI (0)) hx hb dX11_save_6 (by decide) ?_
  refine lv_bipush (v := nI (9)) hx hb dX11_save_7 (by decide) ?_
  refine zVV [.int (nI (0)), .int (nI (9))] [] (kX11_copies (o) ((m_g v, m_fl v, m_ch v, nI (1), m_why v, m_det v, m_li v, m_ld v, m_wt v, m_wm v, m_ln v, m_lz v, m_in v, m_ty v, m_he v, m_wa v, m_fa v, m_cm v, m_cz v)) (R) (0) (9) (show (0) < 12 from by omega) (show (9) < 12 from by omega)) hx hb hml hown hts (cwV 2 hts gX11_save_X11_copies rfl rfl rfl (by decide +kernel) ⟨(Nat.le_of_ble_eq_true rfl), (Nat.le_of_ble_eq_true rfl)⟩) hK hP hD hS hA (va_recv hK hP (ci := 10) (q0 := 0) rfl rfl) rfl hl.1 rfl (Nat.le_of_ble_eq_true rfl) dX11_save_9 ⟨(Nat.le_of_ble_eq_true rfl), (Nat.le_of_ble_eq_true rfl)⟩ (fun _ H locs hr_9 hP hD hS => ?_)
  have hP : va_P D vwCl (MW ct o ((cpb (m_g v) 81 (0) (9) 81), (cpf (m_fl v) 9 (0) (9) 9), (m_ch v), (nI (1)), (m_why v), (m_det v), (m_li v), (m_ld v), (m_wt v), (m_wm v), (m_ln v), (m_lz v), (m_in v), (m_ty v), (m_he v), (m_wa v), (m_fa v), (m_cm v), (m_cz v)) R) H := hP
  have hD : va_D A (MW ct o ((cpb (m_g v) 81 (0) (9) 81), (cpf (m_fl v) 9 (0) (9) 9), (m_ch v), (nI (1)), (m_why v), (m_det v), (m_li v), (m_ld v), (m_wt v), (m_wm v), (m_ln v), (m_lz v), (m_in v), (m_ty v), (m_he v), (m_wa v), (m_fa v), (m_cm v), (m_cz v)) R) := hD
  refine lv_aload_n hx hb dX11_save_12 rfl (lv_at hl 0 rfl) ?_
  refine va_get (ci := 10) (v := .ref (o 1)) hx hb hts h_X11 hown hK hP 0 rfl rfl 0 (by decide) f9 (fun _ h9 => h9) rfl dX11_save_13 ?_
  refine lv_iconst (v := nI (0)) hx hb dX11_save_16 (by decide) ?_
  refine zIald (n := 972) (f := (cpb (m_g v) 81 (0) (9) 81)) (i := 0) hx hb hK hP 1 rfl (by omega) (by decide) dX11_save_17 ?_
  exact zIret () hx hb hr hlocks hK hP hD hS dX11_save_18 (show ((cpb (m_g v) 81 (0) (9) 81) (0)) = cpb (m_g v) 81 0 9 81 0 from rfl)
