/-! THE REFERENCE: trips, balance, undo -/
abbrev rmX11_goes : Room := { frames := 6, cells := 0, slots := 0, locals := 139 }
theorem in_X11_goes_X11 : ∀ w ∈ u_ws RX11 TX11 19, w ∈ wsX11_goes := by decide +kernel
set_option maxHeartbeats 4000000 in
set_option maxRecDepth 100000 in
theorem kX11_goes {D : va_G} {ct : Nat → ClassId} {l : Launch} (o : Nat → Nat) (v : MS) (R : va_W) (x1 : Int32) (x2 : Int32) (y : YS) (hy : yI y) (hq : RelI y (m_g v)) (hf9 : ∀ j, j < 9 → nF (m_fl v j)) : MI D ct l yX11_goes wsX11_goes rmX11_goes (MW ct o v R) [.ref (o 0), .int (x1), .int (x2)] (fun r0 (_ : Unit) => r0 = (F_goes y v x1 x2).1) (fun _ : Unit => MW ct o (F_goes y v x1 x2).2 R) := by
  refine MIof (cc := cX11_goes) (maxL := 4) (ret := (some .int)) (by decide) rfl (Nat.le_of_ble_eq_true rfl) ?_
  intro p e s m args below meth c A H locs F hP hK hD hS hA ls hl
  obtain ⟨hx, hb, hr, hlocks, hml, hown, hts, hin⟩ := F
  have hl : lv_has ls 4 [(0, .ref (o 0)), (1, .int (x1)), (2, .int (x2))] := hl
  have hB : y_n y ≤ 12 ∧ y_cn y ≤ 4 ∧ y_rn y ≤ 5 := ⟨hy.1, hy.2.1, hy.2.2.1⟩
  have hn : y_n y ≤ 12 := hy.1
  have hcn : y_cn y ≤ 4 := hy.2.1
  have hrn : y_rn y ≤ 5 := hy.2.2.1
  have h_X11 := in_X11_goes_X11
  have f9 := hts (.fieldLink RX11 9 "CartArgumentsModel" "all" "[I") (by decide +kernel)
  have f13 := hts (.fieldLink RX11 13 "CartArgumentsModel" "floats" "[F") (by decide +kernel)
  refine lv_aload_n hx hb dX11_goes_0 rfl (lv_at hl 0 rfl) ?_
  refine lv_iload_n hx hb dX11_goes_1 rfl (lv_at hl 1 rfl) ?_
  refine zVI [.int (x1)] [] (kX11_isCart (o) (v) (R) (x1) (y) (show y_n (y) ≤ 12 ∧ y_cn (y) ≤ 4 ∧ y_rn (y) ≤ 5 from hB) (show RelI (y) (m_g v) from hq)) hx hb hml hown hts (cwV 1 hts gX11_goes_X11_isCart rfl rfl rfl (by decide +kernel) ⟨(Nat.le_of_ble_eq_true rfl), (Nat.le_of_ble_eq_true rfl)⟩) hK hP hD hS hA (va_recv hK hP (ci := 10) (q0 := 0) rfl rfl) rfl hl.1 rfl (Nat.le_of_ble_eq_true rfl) dX11_goes_2 ⟨(Nat.le_of_ble_eq_true rfl), (Nat.le_of_ble_eq_true rfl)⟩ (fun r_2 _ H locs hr_2 hP hD hS => ?_)
  subst hr_2
  have hP : va_P D vwCl (MW ct o v R) H := hP
  have hD : va_D A (MW ct o v R) := hD
  refine zB_if_eq (tgt := 16) hx hb dX11_goes_5 (by decide) (fun c5_1 => ?_) (fun c5_1 => ?_)
  · skip
    refine lv_iconst (v := (-1)) hx hb dX11_goes_16 (by decide) ?_
    have e9 : F_goes y v x1 x2 = ((-1), v) := (by simp only [F_goes, mRef, ixI, c5_1, c5_1, p_in, p_worn, p_wi, p_creak, p_le0, p_lt1, p_rng, pmT, pmC, p_eq0, not_true_eq_false, not_false_eq_true, if_true, if_false, and_true, true_and, and_false, false_and, or_true, true_or, or_false, false_or, and_self, or_self, iff_true, true_iff, iff_false, false_iff, decide_eq_true_eq, decide_true, decide_false, Int32.add_zero, Nat.add_zero, ne_eq, Bool.false_eq_true, eq_self])
    exact zIret () hx hb hr hlocks hK (by show va_P D vwCl (MW ct o (F_goes y v x1 x2).2 R) H; rw [e9]; exact hP) (by show va_D A (MW ct o (F_goes y v x1 x2).2 R); rw [e9]; exact hD) hS dX11_goes_17 (show (-1) = (F_goes y v x1 x2).1 from (by rw [e9]))
  · skip
    obtain ⟨k1, hk1, ek1⟩ := p_in_ex (n := y_cn y) (by omega) c5_1
    subst ek1
    have hclk1 : (nI k1).toNatClampNeg = k1 := nI_clamp (by omega)
    refine lv_aload_n hx hb dX11_goes_8 rfl (lv_at hl 0 rfl) ?_
    refine lv_iload_n hx hb dX11_goes_9 rfl (lv_at hl 2 rfl) ?_
    refine zVI [.int (x2)] [] (kX11_isRoad (o) (v) (R) (x2) (y) (show y_n (y) ≤ 12 ∧ y_cn (y) ≤ 4 ∧ y_rn (y) ≤ 5 from hB) (show RelI (y) (m_g v) from hq)) hx hb hml hown hts (cwV 1 hts gX11_goes_X11_isRoad rfl rfl rfl (by decide +kernel) ⟨(Nat.le_of_ble_eq_true rfl), (Nat.le_of_ble_eq_true rfl)⟩) hK hP hD hS hA (va_recv hK hP (ci := 10) (q0 := 0) rfl rfl) rfl hl.1 rfl (Nat.le_of_ble_eq_true rfl) dX11_goes_10 ⟨(Nat.le_of_ble_eq_true rfl), (Nat.le_of_ble_eq_true rfl)⟩ (fun r_10 _ H locs hr_10 hP hD hS => ?_)
    subst hr_10
    have hP : va_P D vwCl (MW ct o v R) H := hP
    have hD : va_D A (MW ct o v R) := hD
    refine zB_if_ne (tgt := 18) hx hb dX11_goes_13 (by decide) (fun c13_2 => ?_) (fun c13_2 => ?_)
    · skip
      obtain ⟨k2, hk2, ek2⟩ := p_in_ex (n := y_rn y) (by omega) c13_2
      subst ek2
      have hclk2 : (nI k2).toNatClampNeg = k2 := nI_clamp (by omega)
      refine lv_aload_n hx hb dX11_goes_18 rfl (lv_at hl 0 rfl) ?_
      refine lv_iload_n hx hb dX11_goes_19 rfl (lv_at hl 1 rfl) ?_
      refine zVI [.int (nI (k1))] [] (kX11_weightOf (o) (v) (R) (k1) (y) (show y_n (y) ≤ 12 ∧ y_cn (y) ≤ 4 ∧ y_rn (y) ≤ 5 from hB) (show RelI (y) (m_g v) from hq) (show (k1) < 4 from by omega)) hx hb hml hown hts (cwV 1 hts gX11_goes_X11_weightOf rfl rfl rfl (by decide +kernel) ⟨(Nat.le_of_ble_eq_true rfl), (Nat.le_of_ble_eq_true rfl)⟩) hK hP hD hS hA (va_recv hK hP (ci := 10) (q0 := 0) rfl rfl) rfl hl.1 rfl (Nat.le_of_ble_eq_true rfl) dX11_goes_20 ⟨(Nat.le_of_ble_eq_true rfl), (Nat.le_of_ble_eq_true rfl)⟩ (fun r_20 _ H locs hr_20 hP hD hS => ?_)
      subst hr_20
      have hP : va_P D vwCl (MW ct o v R) H := hP
      have hD : va_D A (MW ct o v R) := hD
      refine lv_aload_n hx hb dX11_goes_23 rfl (lv_at hl 0 rfl) ?_
      refine lv_iload_n hx hb dX11_goes_24 rfl (lv_at hl 2 rfl) ?_
      refine lv_iconst (v := nI (0)) hx hb dX11_goes_25 (by decide) ?_
      refine zVI [.int (nI (k2)), .int (nI (0))] [.int ((t_all (y) (nI (k1))))] (kX11_r (o) (v) (R) (k2) (0) (show (k2) < 5 from by omega) (show (0) < 4 from by omega)) hx hb hml hown hts (cwV 2 hts gX11_goes_X11_r rfl rfl rfl (by decide +kernel) ⟨(Nat.le_of_ble_eq_true rfl), (Nat.le_of_ble_eq_true rfl)⟩) hK hP hD hS hA (va_recv hK hP (ci := 10) (q0 := 0) rfl rfl) rfl hl.1 rfl (Nat.le_of_ble_eq_true rfl) dX11_goes_26 ⟨(Nat.le_of_ble_eq_true rfl), (Nat.le_of_ble_eq_true rfl)⟩ (fun r_26 _ H locs hr_26 hP hD hS => ?_)
      subst hr_26
      have hP : va_P D vwCl (MW ct o v R) H := hP
      have hD : va_D A (MW ct o v R) := hD
      refine zTop (y := (y_li y (k2))) (hq.2.2.2.2.2 k2 (by omega)).1 ?_
      refine lv_isub hx hb dX11_goes_29 ?_
      refine lv_istore_n (lv' := [(3, .int (((t_all (y) (nI (k1))) - (y_li y (k2))))), (0, .ref (o 0)), (1, .int (nI (k1))), (2, .int (nI (k2)))]) hx hb dX11_goes_30 rfl hl (by decide) rfl (fun ls hl => ?_)
      refine lv_aload_n hx hb dX11_goes_31 rfl (lv_at hl 1 rfl) ?_
      refine lv_aload_n hx hb dX11_goes_32 rfl (lv_at hl 1 rfl) ?_
      refine lv_iload_n hx hb dX11_goes_33 rfl (lv_at hl 2 rfl) ?_
      refine lv_iconst (v := nI (1)) hx hb dX11_goes_34 (by decide) ?_
      refine lv_iconst (v := nI (0)) hx hb dX11_goes_35 (by decide) ?_
      refine zVI [.int (nI (k1)), .int (nI (1)), .int (nI (0))] [.ref (o 0)] (kX11_onCart_c (o) (v) (R) (k1) (nI (1)) (y) (show y_n (y) ≤ 12 ∧ y_cn (y) ≤ 4 ∧ y_rn (y) ≤ 5 from hB) (show RelI (y) (m_g v) from hq) (show (k1) < 4 from by omega)) hx hb hml hown hts (cwV 3 hts gX11_goes_X11_onCart rfl rfl rfl (by decide +kernel) ⟨(Nat.le_of_ble_eq_true rfl), (Nat.le_of_ble_eq_true rfl)⟩) hK hP hD hS hA (va_recv hK hP (ci := 10) (q0 := 0) rfl rfl) rfl hl.1 rfl (Nat.le_of_ble_eq_true rfl) dX11_goes_36 ⟨(Nat.le_of_ble_eq_true rfl), (Nat.le_of_ble_eq_true rfl)⟩ (fun r_36 _ H locs hr_36 hP hD hS => ?_)
      subst hr_36
      have hP : va_P D vwCl (MW ct o v R) H := hP
      have hD : va_D A (MW ct o v R) := hD
      refine lv_if_ne (tgt := 46) hx hb dX11_goes_39 (by decide) (fun c39_3 => ?_) (fun c39_3 => ?_)
      · skip
        refine lv_iconst (v := nI (0)) hx hb dX11_goes_46 (by decide) ?_
        refine lv_bipush (v := nI (8)) hx hb dX11_goes_47 (by decide) ?_
        refine lv_aload_n hx hb dX11_goes_49 rfl (lv_at hl 1 rfl) ?_
        refine lv_iload_n hx hb dX11_goes_50 rfl (lv_at hl 2 rfl) ?_
        refine lv_iconst (v := nI (0)) hx hb dX11_goes_51 (by decide) ?_
        refine lv_iconst (v := nI (0)) hx hb dX11_goes_52 (by decide) ?_
        refine zVI [.int (nI (k1)), .int (nI (0)), .int (nI (0))] [.int (nI (8)), .int (nI (0)), .ref (o 0)] (kX11_onCart_c (o) (v) (R) (k1) (nI (0)) (y) (show y_n (y) ≤ 12 ∧ y_cn (y) ≤ 4 ∧ y_rn (y) ≤ 5 from hB) (show RelI (y) (m_g v) from hq) (show (k1) < 4 from by omega)) hx hb hml hown hts (cwV 3 hts gX11_goes_X11_onCart rfl rfl rfl (by decide +kernel) ⟨(Nat.le_of_ble_eq_true rfl), (Nat.le_of_ble_eq_true rfl)⟩) hK hP hD hS hA (va_recv hK hP (ci := 10) (q0 := 0) rfl rfl) rfl hl.1 rfl (Nat.le_of_ble_eq_true rfl) dX11_goes_53 ⟨(Nat.le_of_ble_eq_true rfl), (Nat.le_of_ble_eq_true rfl)⟩ (fun r_53 _ H locs hr_53 hP hD hS => ?_)
        subst hr_53
        have hP : va_P D vwCl (MW ct o v R) H := hP
        have hD : va_D A (MW ct o v R) := hD
        refine zVI [.int (nI (0)), .int (nI (8)), .int ((t_oc (y) (nI (k1)) (nI (0))))] [] (kX11_refuses_f (o) (v) (R) (nI (8)) ((t_oc (y) (nI (k1)) (nI (0))))) hx hb hml hown hts (cwV 3 hts gX11_goes_X11_refuses rfl rfl rfl (by decide +kernel) ⟨(Nat.le_of_ble_eq_true rfl), (Nat.le_of_ble_eq_true rfl)⟩) hK hP hD hS hA (va_recv hK hP (ci := 10) (q0 := 0) rfl rfl) rfl hl.1 rfl (Nat.le_of_ble_eq_true rfl) dX11_goes_56 ⟨(Nat.le_of_ble_eq_true rfl), (Nat.le_of_ble_eq_true rfl)⟩ (fun r_56 _ H locs hr_56 hP hD hS => ?_)
        subst hr_56
        have hP : va_P D vwCl (MW ct o v R) H := hP
        have hD : va_D A (MW ct o v R) := hD
        refine lv_if_ne (tgt := 113) hx hb dX11_goes_59 (by decide) (fun c9 => absurd (by decide) c9) (fun c9 => ?_)
        refine lv_aload_n hx hb dX11_goes_62 rfl (lv_at hl 1 rfl) ?_
        refine lv_iload_n hx hb dX11_goes_63 rfl (lv_at hl 0 rfl) ?_
        refine lv_if_le (tgt := 71) hx hb dX11_goes_64 (by decide) (fun c64_5 => ?_) (fun c64_5 => ?_)
        · skip
          refine lv_iconst (v := nI (0)) hx hb dX11_goes_71 (by decide) ?_
          refine lv_bipush (v := nI (9)) hx hb dX11_goes_72 (by decide) ?_
          refine lv_iload_n hx hb dX11_goes_74 rfl (lv_at hl 0 rfl) ?_
          refine zVI [.int (nI (0)), .int (nI (9)), .int (((t_all (y) (nI (k1))) - (y_li y (k2))))] [] (kX11_refuses_f (o) (v) (R) (nI (9)) (((t_all (y) (nI (k1))) - (y_li y (k2))))) hx hb hml hown hts (cwV 3 hts gX11_goes_X11_refuses rfl rfl rfl (by decide +kernel) ⟨(Nat.le_of_ble_eq_true rfl), (Nat.le_of_ble_eq_true rfl)⟩) hK hP hD hS hA (va_recv hK hP (ci := 10) (q0 := 0) rfl rfl) rfl hl.1 rfl (Nat.le_of_ble_eq_true rfl) dX11_goes_75 ⟨(Nat.le_of_ble_eq_true rfl), (Nat.le_of_ble_eq_true rfl)⟩ (fun r_75 _ H locs hr_75 hP hD hS => ?_)
          subst hr_75
          have hP : va_P D vwCl (MW ct o v R) H := hP
          have hD : va_D A (MW ct o v R) := hD
          refine lv_if_ne (tgt := 113) hx hb dX11_goes_78 (by decide) (fun c9 => absurd (by decide) c9) (fun c9 => ?_)
          refine lv_aload_n hx hb dX11_goes_81 rfl (lv_at hl 1 rfl) ?_
          refine lv_aload_n hx hb dX11_goes_82 rfl (lv_at hl 1 rfl) ?_
          refine lv_iload_n hx hb dX11_goes_83 rfl (lv_at hl 2 rfl) ?_
          refine lv_iconst (v := nI (0)) hx hb dX11_goes_84 (by decide) ?_
          refine zVI [.int (nI (k1)), .int (nI (0))] [.ref (o 0)] (kX11_isWorn (o) (v) (R) (k1) (nI (0)) (show (k1) < 4 from by omega)) hx hb hml hown hts (cwV 2 hts gX11_goes_X11_isWorn rfl rfl rfl (by decide +kernel) ⟨(Nat.le_of_ble_eq_true rfl), (Nat.le_of_ble_eq_true rfl)⟩) hK hP hD hS hA (va_recv hK hP (ci := 10) (q0 := 0) rfl rfl) rfl hl.1 rfl (Nat.le_of_ble_eq_true rfl) dX11_goes_85 ⟨(Nat.le_of_ble_eq_true rfl), (Nat.le_of_ble_eq_true rfl)⟩ (fun r_85 _ H locs hr_85 hP hD hS => ?_)
          subst hr_85
          have hP : va_P D vwCl (MW ct o v R) H := hP
          have hD : va_D A (MW ct o v R) := hD
          by_cases hb88 : p_worn (m_fl v (wix (k1) (nI (0))))
          · skip
            refine zTop (y := nI (1)) (bI_t hb88) ?_
            refine lv_bipush (v := nI (10)) hx hb dX11_goes_88 (by decide) ?_
            refine lv_iconst (v := nI (0)) hx hb dX11_goes_90 (by decide) ?_
            refine zVI [.int (nI (1)), .int (nI (10)), .int (nI (0))] [] (kX11_refuses_t (o) (v) (R) (nI (10)) (nI (0))) hx hb hml hown hts (cwV 3 hts gX11_goes_X11_refuses rfl rfl rfl (by decide +kernel) ⟨(Nat.le_of_ble_eq_true rfl), (Nat.le_of_ble_eq_true rfl)⟩) hK hP hD hS hA (va_recv hK hP (ci := 10) (q0 := 0) rfl rfl) rfl hl.1 rfl (Nat.le_of_ble_eq_true rfl) dX11_goes_91 ⟨(Nat.le_of_ble_eq_true rfl), (Nat.le_of_ble_eq_true rfl)⟩ (fun r_91 _ H locs hr_91 hP hD hS => ?_)
            subst hr_91
            have hP : va_P D vwCl (MW ct o ((m_g v), (m_fl v), (m_ch v), (m_sv v), (nI (10)), (nI (0)), (nI (0)), (m_ld v), (m_wt v), (m_wm v), (m_ln v), (m_lz v), (m_in v), (m_ty v), (m_he v), (m_wa v), (m_fa v), (m_cm v), (m_cz v)) R) H := hP
            have hD : va_D A (MW ct o ((m_g v), (m_fl v), (m_ch v), (m_sv v), (nI (10)), (nI (0)), (nI (0)), (m_ld v), (m_wt v), (m_wm v), (m_ln v), (m_lz v), (m_in v), (m_ty v), (m_he v), (m_wa v), (m_fa v), (m_cm v), (m_cz v)) R) := hD
            refine lv_if_ne (tgt := 113) hx hb dX11_goes_94 (by decide) (fun c9 => ?_) (fun c9 => absurd c9 (by decide))
            refine lv_bipush (v := (-3)) hx hb dX11_goes_113 (by decide) ?_
            have e9 : F_goes y v (nI k1) (nI k2) = ((-3), ((m_g v), (m_fl v), (m_ch v), (m_sv v), (nI (10)), (nI (0)), (nI (0)), (m_ld v), (m_wt v), (m_wm v), (m_ln v), (m_lz v), (m_in v), (m_ty v), (m_he v), (m_wa v), (m_fa v), (m_cm v), (m_cz v))) := (by simp only [F_goes, mRef, ixI, c5_1, hclk1, c13_2, hclk2, c39_3, c64_5, hb88, p_in, p_worn, p_wi, p_creak, p_le0, p_lt1, p_rng, pmT, pmC, p_eq0, not_true_eq_false, not_false_eq_true, if_true, if_false, and_true, true_and, and_false, false_and, or_true, true_or, or_false, false_or, and_self, or_self, iff_true, true_iff, iff_false, false_iff, decide_eq_true_eq, decide_true, decide_false, Int32.add_zero, Nat.add_zero, ne_eq, Bool.false_eq_true, eq_self])
            exact zIret () hx hb hr hlocks hK (by show va_P D vwCl (MW ct o (F_goes y v (nI k1) (nI k2)).2 R) H; rw [e9]; exact hP) (by show va_D A (MW ct o (F_goes y v (nI k1) (nI k2)).2 R); rw [e9]; exact hD) hS dX11_goes_115 (show (-3) = (F_goes y v (nI k1) (nI k2)).1 from (by rw [e9]))
          · skip
            refine zTop (y := nI (0)) (bI_f hb88) ?_
            refine lv_bipush (v := nI (10)) hx hb dX11_goes_88 (by decide) ?_
            refine lv_iconst (v := nI (0)) hx hb dX11_goes_90 (by decide) ?_
            refine zVI [.int (nI (0)), .int (nI (10)), .int (nI (0))] [] (kX11_refuses_f (o) (v) (R) (nI (10)) (nI (0))) hx hb hml hown hts (cwV 3 hts gX11_goes_X11_refuses rfl rfl rfl (by decide +kernel) ⟨(Nat.le_of_ble_eq_true rfl), (Nat.le_of_ble_eq_true rfl)⟩) hK hP hD hS hA (va_recv hK hP (ci := 10) (q0 := 0) rfl rfl) rfl hl.1 rfl (Nat.le_of_ble_eq_true rfl) dX11_goes_91 ⟨(Nat.le_of_ble_eq_true rfl), (Nat.le_of_ble_eq_true rfl)⟩ (fun r_91 _ H locs hr_91 hP hD hS => ?_)
            subst hr_91
            have hP : va_P D vwCl (MW ct o v R) H := hP
            have hD : va_D A (MW ct o v R) := hD
            refine lv_if_ne (tgt := 113) hx hb dX11_goes_94 (by decide) (fun c9 => absurd (by decide) c9) (fun c9 => ?_)
            refine lv_aload_n hx hb dX11_goes_97 rfl (lv_at hl 1 rfl) ?_
            refine lv_aload_n hx hb dX11_goes_98 rfl (lv_at hl 1 rfl) ?_
            refine lv_iload_n hx hb dX11_goes_99 rfl (lv_at hl 2 rfl) ?_
            refine lv_iconst (v := nI (1)) hx hb dX11_goes_100 (by decide) ?_
            refine zVI [.int (nI (k1)), .int (nI (1))] [.ref (o 0)] (kX11_isWorn (o) (v) (R) (k1) (nI (1)) (show (k1) < 4 from by omega)) hx hb hml hown hts (cwV 2 hts gX11_goes_X11_isWorn rfl rfl rfl (by decide +kernel) ⟨(Nat.le_of_ble_eq_true rfl), (Nat.le_of_ble_eq_true rfl)⟩) hK hP hD hS hA (va_recv hK hP (ci := 10) (q0 := 0) rfl rfl) rfl hl.1 rfl (Nat.le_of_ble_eq_true rfl) dX11_goes_101 ⟨(Nat.le_of_ble_eq_true rfl), (Nat.le_of_ble_eq_true rfl)⟩ (fun r_101 _ H locs hr_101 hP hD hS => ?_)
            subst hr_101
            have hP : va_P D vwCl (MW ct o v R) H := hP
            have hD : va_D A (MW ct o v R) := hD
            by_cases hb104 : p_worn (m_fl v (wix (k1) (nI (1))))
            · skip
              refine zTop (y := nI (1)) (bI_t hb104) ?_
              refine lv_bipush (v := nI (10)) hx hb dX11_goes_104 (by decide) ?_
              refine lv_iconst (v := nI (1)) hx hb dX11_goes_106 (by decide) ?_
              refine zVI [.int (nI (1)), .int (nI (10)), .int (nI (1))] [] (kX11_refuses_t (o) (v) (R) (nI (10)) (nI (1))) hx hb hml hown hts (cwV 3 hts gX11_goes_X11_refuses rfl rfl rfl (by decide +kernel) ⟨(Nat.le_of_ble_eq_true rfl), (Nat.le_of_ble_eq_true rfl)⟩) hK hP hD hS hA (va_recv hK hP (ci := 10) (q0 := 0) rfl rfl) rfl hl.1 rfl (Nat.le_of_ble_eq_true rfl) dX11_goes_107 ⟨(Nat.le_of_ble_eq_true rfl), (Nat.le_of_ble_eq_true rfl)⟩ (fun r_107 _ H locs hr_107 hP hD hS => ?_)
              subst hr_107
              have hP : va_P D vwCl (MW ct o ((m_g v), (m_fl v), (m_ch v), (m_sv v), (nI (10)), (nI (1)), (nI (0)), (m_ld v), (m_wt v), (m_wm v), (m_ln v), (m_lz v), (m_in v), (m_ty v), (m_he v), (m_wa v), (m_fa v), (m_cm v), (m_cz v)) R) H := hP
              have hD : va_D A (MW ct o ((m_g v), (m_fl v), (m_ch v), (m_sv v), (nI (10)), (nI (1)), (nI (0)), (m_ld v), (m_wt v), (m_wm v), (m_ln v), (m_lz v), (m_in v), (m_ty v), (m_he v), (m_wa v), (m_fa v), (m_cm v), (m_cz v)) R) := hD
              refine lv_if_eq (tgt := 116) hx hb dX11_goes_110 (by decide) (fun c9 => absurd c9 (by decide)) (fun c9 => ?_)
              refine lv_bipush (v := (-3)) hx hb dX11_goes_113 (by decide) ?_
              have e9 : F_goes y v (nI k1) (nI k2) = ((-3), ((m_g v), (m_fl v), (m_ch v), (m_sv v), (nI (10)), (nI (1)), (nI (0)), (m_ld v), (m_wt v), (m_wm v), (m_ln v), (m_lz v), (m_in v), (m_ty v), (m_he v), (m_wa v), (m_fa v), (m_cm v), (m_cz v))) := (by simp only [F_goes, mRef, ixI, c5_1, hclk1, c13_2, hclk2, c39_3, c64_5, hb88, hb104, p_in, p_worn, p_wi, p_creak, p_le0, p_lt1, p_rng, pmT, pmC, p_eq0, not_true_eq_false, not_false_eq_true, if_true, if_false, and_true, true_and, and_false, false_and, or_true, true_or, or_false, false_or, and_self, or_self, iff_true, true_iff, iff_false, false_iff, decide_eq_true_eq, decide_true, decide_false, Int32.add_zero, Nat.add_zero, ne_eq, Bool.false_eq_true, eq_self])
              exact zIret () hx hb hr hlocks hK (by show va_P D vwCl (MW ct o (F_goes y v (nI k1) (nI k2)).2 R) H; rw [e9]; exact hP) (by show va_D A (MW ct o (F_goes y v (nI k1) (nI k2)).2 R); rw [e9]; exact hD) hS dX11_goes_115 (show (-3) = (F_goes y v (nI k1) (nI k2)).1 from (by rw [e9]))
            · skip
              refine zTop (y := nI (0)) (bI_f hb104) ?_
              refine lv_bipush (v := nI (10)) hx hb dX11_goes_104 (by decide) ?_
              refine lv_iconst (v := nI (1)) hx hb dX11_goes_106 (by decide) ?_
              refine zVI [.int (nI (0)), .int (nI (10)), .int (nI (1))] [] (kX11_refuses_f (o) (v) (R) (nI (10)) (nI (1))) hx hb hml hown hts (cwV 3 hts gX11_goes_X11_refuses rfl rfl rfl (by decide +kernel) ⟨(Nat.le_of_ble_eq_true rfl), (Nat.le_of_ble_eq_true rfl)⟩) hK hP hD hS hA (va_recv hK hP (ci := 10) (q0 := 0) rfl rfl) rfl hl.1 rfl (Nat.le_of_ble_eq_true rfl) dX11_goes_107 ⟨(Nat.le_of_ble_eq_true rfl), (Nat.le_of_ble_eq_true rfl)⟩ (fun r_107 _ H locs hr_107 hP hD hS => ?_)
              subst hr_107
              have hP : va_P D vwCl (MW ct o v R) H := hP
              have hD : va_D A (MW ct o v R) := hD
              refine lv_if_eq (tgt := 116) hx hb dX11_goes_110 (by decide) (fun c9 => ?_) (fun c9 => absurd (by decide) c9)
              refine lv_aload_n hx hb dX11_goes_116 rfl (lv_at hl 1 rfl) ?_
              refine va_get (ci := 10) (v := .ref (o 2)) hx hb hts h_X11 hown hK hP 0 rfl rfl 1 (by decide) f13 (fun _ h9 => h9) rfl dX11_goes_117 ?_
              refine lv_bipush (v := nI (8)) hx hb dX11_goes_120 (by decide) ?_
              refine lv_aload_n hx hb dX11_goes_122 rfl (lv_at hl 1 rfl) ?_
              refine va_get (ci := 10) (v := .ref (o 2)) hx hb hts h_X11 hown hK hP 0 rfl rfl 1 (by decide) f13 (fun _ h9 => h9) rfl dX11_goes_123 ?_
              refine lv_bipush (v := nI (8)) hx hb dX11_goes_126 (by decide) ?_
              refine zFald (n := 108) (f := m_fl v) (i := 8) hx hb hK hP 2 rfl (by omega) (by decide) dX11_goes_128 ?_
              refine lv_aload_n hx hb dX11_goes_129 rfl (lv_at hl 1 rfl) ?_
              refine lv_iload_n hx hb dX11_goes_130 rfl (lv_at hl 2 rfl) ?_
              refine lv_iload_n hx hb dX11_goes_131 rfl (lv_at hl 3 rfl) ?_
              refine zVF [.int (nI (k1)), .int (nI (k2))] [.float ((m_fl v (8))), .int (nI (8)), .ref (o 2)] (kX11_tollOf (o) (v) (R) (k1) (k2) (y) (show yI (y) from hy) (show RelI (y) (m_g v) from hq) (show (k1) < y_cn (y) from by omega) (show (k2) < y_rn (y) from by omega)) hx hb hml hown hts (cwV 2 hts gX11_goes_X11_tollOf rfl rfl rfl (by decide +kernel) ⟨(Nat.le_of_ble_eq_true rfl), (Nat.le_of_ble_eq_true rfl)⟩) hK hP hD hS hA (va_recv hK hP (ci := 10) (q0 := 0) rfl rfl) rfl hl.1 rfl (Nat.le_of_ble_eq_true rfl) dX11_goes_132 ⟨(Nat.le_of_ble_eq_true rfl), (Nat.le_of_ble_eq_true rfl)⟩ (fun r_132 _ H locs hr_132 hP hD hS => ?_)
              subst hr_132
              have hP : va_P D vwCl (MW ct o v R) H := hP
              have hD : va_D A (MW ct o v R) := hD
              refine lv_fadd hx hb dX11_goes_135 (nF_n32 (nF_add (hf9 8 (by omega)) (toll_nF hy hk2))) ?_
              refine zFast (n := 108) (f := m_fl v) (i := 8) hx hb hK hP hD hS 2 rfl (by omega) (by decide) dX11_goes_136 (fun H locs hP hD hS => ?_)
              have hP : va_P D vwCl (MW ct o (m_g v, (vf_upd (m_fl v) (8) ((FP.fadd (m_fl v (8)) (t_toll (y) (k1) (k2))))), m_ch v, m_sv v, m_why v, m_det v, m_li v, m_ld v, m_wt v, m_wm v, m_ln v, m_lz v, m_in v, m_ty v, m_he v, m_wa v, m_fa v, m_cm v, m_cz v) R) H := hP
              have hD : va_D A (MW ct o (m_g v, (vf_upd (m_fl v) (8) ((FP.fadd (m_fl v (8)) (t_toll (y) (k1) (k2))))), m_ch v, m_sv v, m_why v, m_det v, m_li v, m_ld v, m_wt v, m_wm v, m_ln v, m_lz v, m_in v, m_ty v, m_he v, m_wa v, m_fa v, m_cm v, m_cz v) R) := hD
              refine lv_aload_n hx hb dX11_goes_137 rfl (lv_at hl 1 rfl) ?_
              refine lv_iload_n hx hb dX11_goes_138 rfl (lv_at hl 2 rfl) ?_
              refine lv_iconst (v := nI (0)) hx hb dX11_goes_139 (by decide) ?_
              refine lv_aload_n hx hb dX11_goes_140 rfl (lv_at hl 1 rfl) ?_
              refine lv_iload_n hx hb dX11_goes_141 rfl (lv_at hl 3 rfl) ?_
              refine lv_iconst (v := nI (1)) hx hb dX11_goes_142 (by decide) ?_
              refine zVI [.int (nI (k2)), .int (nI (1))] [.int (nI (0)), .int (nI (k1)), .ref (o 0)] (kX11_r (o) ((m_g v, (vf_upd (m_fl v) (8) ((FP.fadd (m_fl v (8)) (t_toll (y) (k1) (k2))))), m_ch v, m_sv v, m_why v, m_det v, m_li v, m_ld v, m_wt v, m_wm v, m_ln v, m_lz v, m_in v, m_ty v, m_he v, m_wa v, m_fa v, m_cm v, m_cz v)) (R) (k2) (1) (show (k2) < 5 from by omega) (show (1) < 4 from by omega)) hx hb hml hown hts (cwV 2 hts gX11_goes_X11_r rfl rfl rfl (by decide +kernel) ⟨(Nat.le_of_ble_eq_true rfl), (Nat.le_of_ble_eq_true rfl)⟩) hK hP hD hS hA (va_recv hK hP (ci := 10) (q0 := 0) rfl rfl) rfl hl.1 rfl (Nat.le_of_ble_eq_true rfl) dX11_goes_143 ⟨(Nat.le_of_ble_eq_true rfl), (Nat.le_of_ble_eq_true rfl)⟩ (fun r_143 _ H locs hr_143 hP hD hS => ?_)
              subst hr_143
              have hP : va_P D vwCl (MW ct o (m_g v, (vf_upd (m_fl v) (8) ((FP.fadd (m_fl v (8)) (t_toll (y) (k1) (k2))))), m_ch v, m_sv v, m_why v, m_det v, m_li v, m_ld v, m_wt v, m_wm v, m_ln v, m_lz v, m_in v, m_ty v, m_he v, m_wa v, m_fa v, m_cm v, m_cz v) R) H := hP
              have hD : va_D A (MW ct o (m_g v, (vf_upd (m_fl v) (8) ((FP.fadd (m_fl v (8)) (t_toll (y) (k1) (k2))))), m_ch v, m_sv v, m_why v, m_det v, m_li v, m_ld v, m_wt v, m_wm v, m_ln v, m_lz v, m_in v, m_ty v, m_he v, m_wa v, m_fa v, m_cm v, m_cz v) R) := hD
              refine zTop (y := (y_mi y (k2))) (hq.2.2.2.2.2 k2 (by omega)).2.1 ?_
              refine zVV [.int (nI (k1)), .int (nI (0)), .int ((y_mi y (k2)))] [] (kX11_wears_f (o) ((m_g v, (vf_upd (m_fl v) (8) ((FP.fadd (m_fl v (8)) (t_toll (y) (k1) (k2))))), m_ch v, m_sv v, m_why v, m_det v, m_li v, m_ld v, m_wt v, m_wm v, m_ln v, m_lz v, m_in v, m_ty v, m_he v, m_wa v, m_fa v, m_cm v, m_cz v)) (R) (k1) ((y_mi y (k2))) (y) (k2) (show yI (y) from hy) (show RelI (y) (m_g v) from hq) (show (k1) < y_cn (y) from by omega) (show (k2) < y_rn (y) from by omega) (show ((y_mi y (k2))) = y_mi (y) (k2) from rfl) (show ∀ j, j < 8 → nF ((vf_upd (m_fl v) (8) ((FP.fadd (m_fl v (8)) (t_toll (y) (k1) (k2))))) j) from nF89 (toll8_nF hy hk2 hf9))) hx hb hml hown hts (cwV 3 hts gX11_goes_X11_wears rfl rfl rfl (by decide +kernel) ⟨(Nat.le_of_ble_eq_true rfl), (Nat.le_of_ble_eq_true rfl)⟩) hK hP hD hS hA (va_recv hK hP (ci := 10) (q0 := 0) rfl rfl) rfl hl.1 rfl (Nat.le_of_ble_eq_true rfl) dX11_goes_146 ⟨(Nat.le_of_ble_eq_true rfl), (Nat.le_of_ble_eq_true rfl)⟩ (fun _ H locs hr_146 hP hD hS => ?_)
              have hP : va_P D vwCl (MW ct o (F_wearsf (y) (m_g v, (vf_upd (m_fl v) (8) ((FP.fadd (m_fl v (8)) (t_toll (y) (k1) (k2))))), m_ch v, m_sv v, m_why v, m_det v, m_li v, m_ld v, m_wt v, m_wm v, m_ln v, m_lz v, m_in v, m_ty v, m_he v, m_wa v, m_fa v, m_cm v, m_cz v) (k1) (k2)) R) H := hP
              have hD : va_D A (MW ct o (F_wearsf (y) (m_g v, (vf_upd (m_fl v) (8) ((FP.fadd (m_fl v (8)) (t_toll (y) (k1) (k2))))), m_ch v, m_sv v, m_why v, m_det v, m_li v, m_ld v, m_wt v, m_wm v, m_ln v, m_lz v, m_in v, m_ty v, m_he v, m_wa v, m_fa v, m_cm v, m_cz v) (k1) (k2)) R) := hD
              refine lv_aload_n hx hb dX11_goes_149 rfl (lv_at hl 1 rfl) ?_
              refine lv_iload_n hx hb dX11_goes_150 rfl (lv_at hl 2 rfl) ?_
              refine lv_iconst (v := nI (1)) hx hb dX11_goes_151 (by decide) ?_
              refine lv_aload_n hx hb dX11_goes_152 rfl (lv_at hl 1 rfl) ?_
              refine lv_iload_n hx hb dX11_goes_153 rfl (lv_at hl 3 rfl) ?_
              refine lv_iconst (v := nI (1)) hx hb dX11_goes_154 (by decide) ?_
              refine zVI [.int (nI (k2)), .int (nI (1))] [.int (nI (1)), .int (nI (k1)), .ref (o 0)] (kX11_r (o) ((F_wearsf (y) (m_g v, (vf_upd (m_fl v) (8) ((FP.fadd (m_fl v (8)) (t_toll (y) (k1) (k2))))), m_ch v, m_sv v, m_why v, m_det v, m_li v, m_ld v, m_wt v, m_wm v, m_ln v, m_lz v, m_in v, m_ty v, m_he v, m_wa v, m_fa v, m_cm v, m_cz v) (k1) (k2))) (R) (k2) (1) (show (k2) < 5 from by omega) (show (1) < 4 from by omega)) hx hb hml hown hts (cwV 2 hts gX11_goes_X11_r rfl rfl rfl (by decide +kernel) ⟨(Nat.le_of_ble_eq_true rfl), (Nat.le_of_ble_eq_true rfl)⟩) hK hP hD hS hA (va_recv hK hP (ci := 10) (q0 := 0) rfl rfl) rfl hl.1 rfl (Nat.le_of_ble_eq_true rfl) dX11_goes_155 ⟨(Nat.le_of_ble_eq_true rfl), (Nat.le_of_ble_eq_true rfl)⟩ (fun r_155 _ H locs hr_155 hP hD hS => ?_)
              subst hr_155
              have hP : va_P D vwCl (MW ct o (F_wearsf (y) (m_g v, (vf_upd (m_fl v) (8) ((FP.fadd (m_fl v (8)) (t_toll (y) (k1) (k2))))), m_ch v, m_sv v, m_why v, m_det v, m_li v, m_ld v, m_wt v, m_wm v, m_ln v, m_lz v, m_in v, m_ty v, m_he v, m_wa v, m_fa v, m_cm v, m_cz v) (k1) (k2)) R) H := hP
              have hD : va_D A (MW ct o (F_wearsf (y) (m_g v, (vf_upd (m_fl v) (8) ((FP.fadd (m_fl v (8)) (t_toll (y) (k1) (k2))))), m_ch v, m_sv v, m_why v, m_det v, m_li v, m_ld v, m_wt v, m_wm v, m_ln v, m_lz v, m_in v, m_ty v, m_he v, m_wa v, m_fa v, m_cm v, m_cz v) (k1) (k2)) R) := hD
              refine zTop (y := (y_mi y (k2))) (hq.2.2.2.2.2 k2 (by omega)).2.1 ?_
              refine zVV [.int (nI (k1)), .int (nI (1)), .int ((y_mi y (k2)))] [] (kX11_wears_r (o) ((F_wearsf (y) (m_g v, (vf_upd (m_fl v) (8) ((FP.fadd (m_fl v (8)) (t_toll (y) (k1) (k2))))), m_ch v, m_sv v, m_why v, m_det v, m_li v, m_ld v, m_wt v, m_wm v, m_ln v, m_lz v, m_in v, m_ty v, m_he v, m_wa v, m_fa v, m_cm v, m_cz v) (k1) (k2))) (R) (k1) ((y_mi y (k2))) (y) (k2) (show yI (y) from hy) (show RelI (y) ((m_g (F_wearsf (y) (m_g v, (vf_upd (m_fl v) (8) ((FP.fadd (m_fl v (8)) (t_toll (y) (k1) (k2))))), m_ch v, m_sv v, m_why v, m_det v, m_li v, m_ld v, m_wt v, m_wm v, m_ln v, m_lz v, m_in v, m_ty v, m_he v, m_wa v, m_fa v, m_cm v, m_cz v) (k1) (k2)))) from hq) (show (k1) < y_cn (y) from by omega) (show (k2) < y_rn (y) from by omega) (show ((y_mi y (k2))) = y_mi (y) (k2) from rfl) (show ∀ j, j < 8 → nF ((m_fl (F_wearsf (y) (m_g v, (vf_upd (m_fl v) (8) ((FP.fadd (m_fl v (8)) (t_toll (y) (k1) (k2))))), m_ch v, m_sv v, m_why v, m_det v, m_li v, m_ld v, m_wt v, m_wm v, m_ln v, m_lz v, m_in v, m_ty v, m_he v, m_wa v, m_fa v, m_cm v, m_cz v) (k1) (k2))) j) from nF89 (wearsf_nF hy hk1 hk2 (toll8_nF hy hk2 hf9)))) hx hb hml hown hts (cwV 3 hts gX11_goes_X11_wears rfl rfl rfl (by decide +kernel) ⟨(Nat.le_of_ble_eq_true rfl), (Nat.le_of_ble_eq_true rfl)⟩) hK hP hD hS hA (va_recv hK hP (ci := 10) (q0 := 0) rfl rfl) rfl hl.1 rfl (Nat.le_of_ble_eq_true rfl) dX11_goes_158 ⟨(Nat.le_of_ble_eq_true rfl), (Nat.le_of_ble_eq_true rfl)⟩ (fun _ H locs hr_158 hP hD hS => ?_)
              have hP : va_P D vwCl (MW ct o (F_wearsr (y) (F_wearsf (y) (m_g v, (vf_upd (m_fl v) (8) ((FP.fadd (m_fl v (8)) (t_toll (y) (k1) (k2))))), m_ch v, m_sv v, m_why v, m_det v, m_li v, m_ld v, m_wt v, m_wm v, m_ln v, m_lz v, m_in v, m_ty v, m_he v, m_wa v, m_fa v, m_cm v, m_cz v) (k1) (k2)) (k1) (k2)) R) H := hP
              have hD : va_D A (MW ct o (F_wearsr (y) (F_wearsf (y) (m_g v, (vf_upd (m_fl v) (8) ((FP.fadd (m_fl v (8)) (t_toll (y) (k1) (k2))))), m_ch v, m_sv v, m_why v, m_det v, m_li v, m_ld v, m_wt v, m_wm v, m_ln v, m_lz v, m_in v, m_ty v, m_he v, m_wa v, m_fa v, m_cm v, m_cz v) (k1) (k2)) (k1) (k2)) R) := hD
              obtain ⟨w2, hw2⟩ : ∃ w2, w2 = (F_wearsr (y) (F_wearsf (y) (m_g v, (vf_upd (m_fl v) (8) ((FP.fadd (m_fl v (8)) (t_toll (y) (k1) (k2))))), m_ch v, m_sv v, m_why v, m_det v, m_li v, m_ld v, m_wt v, m_wm v, m_ln v, m_lz v, m_in v, m_ty v, m_he v, m_wa v, m_fa v, m_cm v, m_cz v) (k1) (k2)) (k1) (k2)) := ⟨_, rfl⟩
              have hq2 : RelI y (m_g w2) := by rw [hw2]; exact hq
              rw [← hw2] at hP hD
              have hP : va_P D vwCl (MW ct o w2 R) H := hP
              have hD : va_D A (MW ct o w2 R) := hD
              refine lv_aload_n hx hb dX11_goes_161 rfl (lv_at hl 1 rfl) ?_
              refine va_get (ci := 10) (v := .ref (o 1)) hx hb hts h_X11 hown hK hP 0 rfl rfl 0 (by decide) f9 (fun _ h9 => h9) rfl dX11_goes_162 ?_
              refine lv_bipush (v := nI (53)) hx hb dX11_goes_165 (by decide) ?_
              refine lv_iconst (v := nI (2)) hx hb dX11_goes_167 (by decide) ?_
              refine lv_iload_n hx hb dX11_goes_168 rfl (lv_at hl 2 rfl) ?_
              refine zNmul hx hb dX11_goes_169 ?_
              refine zNadd hx hb dX11_goes_170 ?_
              refine lv_iconst (v := nI (1)) hx hb dX11_goes_171 (by decide) ?_
              refine zNadd hx hb dX11_goes_172 ?_
              refine lv_dup2_11 hx hb dX11_goes_173 rfl rfl ?_
              refine zIald (n := 972) (f := m_g w2) (i := ((53 + (2 * k1)) + 1)) hx hb hK hP 1 rfl (by omega) (by decide) dX11_goes_174 ?_
              refine lv_iconst (v := nI (1)) hx hb dX11_goes_175 (by decide) ?_
              refine lv_iadd hx hb dX11_goes_176 ?_
              refine zIast (n := 972) (f := m_g w2) (i := ((53 + (2 * k1)) + 1)) hx hb hK hP hD hS 1 rfl (by omega) (by decide) dX11_goes_177 (fun H locs hP hD hS => ?_)
              have hP : va_P D vwCl (MW ct o ((upd (m_g w2) (((53 + (2 * k1)) + 1)) (((m_g w2 (((53 + (2 * k1)) + 1))) + nI (1)))), m_fl w2, m_ch w2, m_sv w2, m_why w2, m_det w2, m_li w2, m_ld w2, m_wt w2, m_wm w2, m_ln w2, m_lz w2, m_in w2, m_ty w2, m_he w2, m_wa w2, m_fa w2, m_cm w2, m_cz w2) R) H := hP
              have hD : va_D A (MW ct o ((upd (m_g w2) (((53 + (2 * k1)) + 1)) (((m_g w2 (((53 + (2 * k1)) + 1))) + nI (1)))), m_fl w2, m_ch w2, m_sv w2, m_why w2, m_det w2, m_li w2, m_ld w2, m_wt w2, m_wm w2, m_ln w2, m_lz w2, m_in w2, m_ty w2, m_he w2, m_wa w2, m_fa w2, m_cm w2, m_cz w2) R) := hD
              refine lv_aload_n hx hb dX11_goes_178 rfl (lv_at hl 1 rfl) ?_
              refine va_get (ci := 10) (v := .ref (o 1)) hx hb hts h_X11 hown hK hP 0 rfl rfl 0 (by decide) f9 (fun _ h9 => h9) rfl dX11_goes_179 ?_
              refine lv_bipush (v := nI (61)) hx hb dX11_goes_182 (by decide) ?_
              refine lv_iconst (v := nI (4)) hx hb dX11_goes_184 (by decide) ?_
              refine lv_iload_n hx hb dX11_goes_185 rfl (lv_at hl 3 rfl) ?_
              refine zNmul hx hb dX11_goes_186 ?_
              refine zNadd hx hb dX11_goes_187 ?_
              refine lv_iconst (v := nI (3)) hx hb dX11_goes_188 (by decide) ?_
              refine zNadd hx hb dX11_goes_189 ?_
              refine lv_dup2_11 hx hb dX11_goes_190 rfl rfl ?_
              refine zIald (n := 972) (f := (upd (m_g w2) (((53 + (2 * k1)) + 1)) (((m_g w2 (((53 + (2 * k1)) + 1))) + nI (1))))) (i := ((61 + (4 * k2)) + 3)) hx hb hK hP 1 rfl (by omega) (by decide) dX11_goes_191 ?_
              refine lv_iconst (v := nI (1)) hx hb dX11_goes_192 (by decide) ?_
              refine lv_iadd hx hb dX11_goes_193 ?_
              refine zIast (n := 972) (f := (upd (m_g w2) (((53 + (2 * k1)) + 1)) (((m_g w2 (((53 + (2 * k1)) + 1))) + nI (1))))) (i := ((61 + (4 * k2)) + 3)) hx hb hK hP hD hS 1 rfl (by omega) (by decide) dX11_goes_194 (fun H locs hP hD hS => ?_)
              have hP : va_P D vwCl (MW ct o ((upd ((upd (m_g w2) (((53 + (2 * k1)) + 1)) (((m_g w2 (((53 + (2 * k1)) + 1))) + nI (1))))) (((61 + (4 * k2)) + 3)) ((((upd (m_g w2) (((53 + (2 * k1)) + 1)) (((m_g w2 (((53 + (2 * k1)) + 1))) + nI (1)))) (((61 + (4 * k2)) + 3))) + nI (1)))), m_fl w2, m_ch w2, m_sv w2, m_why w2, m_det w2, m_li w2, m_ld w2, m_wt w2, m_wm w2, m_ln w2, m_lz w2, m_in w2, m_ty w2, m_he w2, m_wa w2, m_fa w2, m_cm w2, m_cz w2) R) H := hP
              have hD : va_D A (MW ct o ((upd ((upd (m_g w2) (((53 + (2 * k1)) + 1)) (((m_g w2 (((53 + (2 * k1)) + 1))) + nI (1))))) (((61 + (4 * k2)) + 3)) ((((upd (m_g w2) (((53 + (2 * k1)) + 1)) (((m_g w2 (((53 + (2 * k1)) + 1))) + nI (1)))) (((61 + (4 * k2)) + 3))) + nI (1)))), m_fl w2, m_ch w2, m_sv w2, m_why w2, m_det w2, m_li w2, m_ld w2, m_wt w2, m_wm w2, m_ln w2, m_lz w2, m_in w2, m_ty w2, m_he w2, m_wa w2, m_fa w2, m_cm w2, m_cz w2) R) := hD
              refine lv_aload_n hx hb dX11_goes_195 rfl (lv_at hl 1 rfl) ?_
              refine va_get (ci := 10) (v := .ref (o 1)) hx hb hts h_X11 hown hK hP 0 rfl rfl 0 (by decide) f9 (fun _ h9 => h9) rfl dX11_goes_196 ?_
              refine lv_iconst (v := nI (3)) hx hb dX11_goes_199 (by decide) ?_
              refine lv_dup2_11 hx hb dX11_goes_200 rfl rfl ?_
              refine zIald (n := 972) (f := (upd ((upd (m_g w2) (((53 + (2 * k1)) + 1)) (((m_g w2 (((53 + (2 * k1)) + 1))) + nI (1))))) (((61 + (4 * k2)) + 3)) ((((upd (m_g w2) (((53 + (2 * k1)) + 1)) (((m_g w2 (((53 + (2 * k1)) + 1))) + nI (1)))) (((61 + (4 * k2)) + 3))) + nI (1))))) (i := 3) hx hb hK hP 1 rfl (by omega) (by decide) dX11_goes_201 ?_
              refine lv_iconst (v := nI (1)) hx hb dX11_goes_202 (by decide) ?_
              refine lv_iadd hx hb dX11_goes_203 ?_
              refine zIast (n := 972) (f := (upd ((upd (m_g w2) (((53 + (2 * k1)) + 1)) (((m_g w2 (((53 + (2 * k1)) + 1))) + nI (1))))) (((61 + (4 * k2)) + 3)) ((((upd (m_g w2) (((53 + (2 * k1)) + 1)) (((m_g w2 (((53 + (2 * k1)) + 1))) + nI (1)))) (((61 + (4 * k2)) + 3))) + nI (1))))) (i := 3) hx hb hK hP hD hS 1 rfl (by omega) (by decide) dX11_goes_204 (fun H locs hP hD hS => ?_)
              have hP : va_P D vwCl (MW ct o ((upd ((upd ((upd (m_g w2) (((53 + (2 * k1)) + 1)) (((m_g w2 (((53 + (2 * k1)) + 1))) + nI (1))))) (((61 + (4 * k2)) + 3)) ((((upd (m_g w2) (((53 + (2 * k1)) + 1)) (((m_g w2 (((53 + (2 * k1)) + 1))) + nI (1)))) (((61 + (4 * k2)) + 3))) + nI (1))))) (3) ((((upd ((upd (m_g w2) (((53 + (2 * k1)) + 1)) (((m_g w2 (((53 + (2 * k1)) + 1))) + nI (1))))) (((61 + (4 * k2)) + 3)) ((((upd (m_g w2) (((53 + (2 * k1)) + 1)) (((m_g w2 (((53 + (2 * k1)) + 1))) + nI (1)))) (((61 + (4 * k2)) + 3))) + nI (1)))) (3)) + nI (1)))), m_fl w2, m_ch w2, m_sv w2, m_why w2, m_det w2, m_li w2, m_ld w2, m_wt w2, m_wm w2, m_ln w2, m_lz w2, m_in w2, m_ty w2, m_he w2, m_wa w2, m_fa w2, m_cm w2, m_cz w2) R) H := hP
              have hD : va_D A (MW ct o ((upd ((upd ((upd (m_g w2) (((53 + (2 * k1)) + 1)) (((m_g w2 (((53 + (2 * k1)) + 1))) + nI (1))))) (((61 + (4 * k2)) + 3)) ((((upd (m_g w2) (((53 + (2 * k1)) + 1)) (((m_g w2 (((53 + (2 * k1)) + 1))) + nI (1)))) (((61 + (4 * k2)) + 3))) + nI (1))))) (3) ((((upd ((upd (m_g w2) (((53 + (2 * k1)) + 1)) (((m_g w2 (((53 + (2 * k1)) + 1))) + nI (1))))) (((61 + (4 * k2)) + 3)) ((((upd (m_g w2) (((53 + (2 * k1)) + 1)) (((m_g w2 (((53 + (2 * k1)) + 1))) + nI (1)))) (((61 + (4 * k2)) + 3))) + nI (1)))) (3)) + nI (1)))), m_fl w2, m_ch w2, m_sv w2, m_why w2, m_det w2, m_li w2, m_ld w2, m_wt w2, m_wm w2, m_ln w2, m_lz w2, m_in w2, m_ty w2, m_he w2, m_wa w2, m_fa w2, m_cm w2, m_cz w2) R) := hD
              refine lv_aload_n hx hb dX11_goes_205 rfl (lv_at hl 1 rfl) ?_
              refine va_get (ci := 10) (v := .ref (o 1)) hx hb hts h_X11 hown hK hP 0 rfl rfl 0 (by decide) f9 (fun _ h9 => h9) rfl dX11_goes_206 ?_
              refine lv_iconst (v := nI (4)) hx hb dX11_goes_209 (by decide) ?_
              refine lv_dup2_11 hx hb dX11_goes_210 rfl rfl ?_
              refine zIald (n := 972) (f := (upd ((upd ((upd (m_g w2) (((53 + (2 * k1)) + 1)) (((m_g w2 (((53 + (2 * k1)) + 1))) + nI (1))))) (((61 + (4 * k2)) + 3)) ((((upd (m_g w2) (((53 + (2 * k1)) + 1)) (((m_g w2 (((53 + (2 * k1)) + 1))) + nI (1)))) (((61 + (4 * k2)) + 3))) + nI (1))))) (3) ((((upd ((upd (m_g w2) (((53 + (2 * k1)) + 1)) (((m_g w2 (((53 + (2 * k1)) + 1))) + nI (1))))) (((61 + (4 * k2)) + 3)) ((((upd (m_g w2) (((53 + (2 * k1)) + 1)) (((m_g w2 (((53 + (2 * k1)) + 1))) + nI (1)))) (((61 + (4 * k2)) + 3))) + nI (1)))) (3)) + nI (1))))) (i := 4) hx hb hK hP 1 rfl (by omega) (by decide) dX11_goes_211 ?_
              refine lv_aload_n hx hb dX11_goes_212 rfl (lv_at hl 1 rfl) ?_
              refine lv_iload_n hx hb dX11_goes_213 rfl (lv_at hl 3 rfl) ?_
              refine lv_iconst (v := nI (1)) hx hb dX11_goes_214 (by decide) ?_
              refine zVI [.int (nI (k2)), .int (nI (1))] [.int (((upd ((upd ((upd (m_g w2) (((53 + (2 * k1)) + 1)) (((m_g w2 (((53 + (2 * k1)) + 1))) + nI (1))))) (((61 + (4 * k2)) + 3)) ((((upd (m_g w2) (((53 + (2 * k1)) + 1)) (((m_g w2 (((53 + (2 * k1)) + 1))) + nI (1)))) (((61 + (4 * k2)) + 3))) + nI (1))))) (3) ((((upd ((upd (m_g w2) (((53 + (2 * k1)) + 1)) (((m_g w2 (((53 + (2 * k1)) + 1))) + nI (1))))) (((61 + (4 * k2)) + 3)) ((((upd (m_g w2) (((53 + (2 * k1)) + 1)) (((m_g w2 (((53 + (2 * k1)) + 1))) + nI (1)))) (((61 + (4 * k2)) + 3))) + nI (1)))) (3)) + nI (1)))) (4))), .int (nI (4)), .ref (o 1)] (kX11_r (o) (((upd ((upd ((upd (m_g w2) (((53 + (2 * k1)) + 1)) (((m_g w2 (((53 + (2 * k1)) + 1))) + nI (1))))) (((61 + (4 * k2)) + 3)) ((((upd (m_g w2) (((53 + (2 * k1)) + 1)) (((m_g w2 (((53 + (2 * k1)) + 1))) + nI (1)))) (((61 + (4 * k2)) + 3))) + nI (1))))) (3) ((((upd ((upd (m_g w2) (((53 + (2 * k1)) + 1)) (((m_g w2 (((53 + (2 * k1)) + 1))) + nI (1))))) (((61 + (4 * k2)) + 3)) ((((upd (m_g w2) (((53 + (2 * k1)) + 1)) (((m_g w2 (((53 + (2 * k1)) + 1))) + nI (1)))) (((61 + (4 * k2)) + 3))) + nI (1)))) (3)) + nI (1)))), m_fl w2, m_ch w2, m_sv w2, m_why w2, m_det w2, m_li w2, m_ld w2, m_wt w2, m_wm w2, m_ln w2, m_lz w2, m_in w2, m_ty w2, m_he w2, m_wa w2, m_fa w2, m_cm w2, m_cz w2)) (R) (k2) (1) (show (k2) < 5 from by omega) (show (1) < 4 from by omega)) hx hb hml hown hts (cwV 2 hts gX11_goes_X11_r rfl rfl rfl (by decide +kernel) ⟨(Nat.le_of_ble_eq_true rfl), (Nat.le_of_ble_eq_true rfl)⟩) hK hP hD hS hA (va_recv hK hP (ci := 10) (q0 := 0) rfl rfl) rfl hl.1 rfl (Nat.le_of_ble_eq_true rfl) dX11_goes_215 ⟨(Nat.le_of_ble_eq_true rfl), (Nat.le_of_ble_eq_true rfl)⟩ (fun r_215 _ H locs hr_215 hP hD hS => ?_)
              subst hr_215
              have hP : va_P D vwCl (MW ct o ((upd ((upd ((upd (m_g w2) (((53 + (2 * k1)) + 1)) (((m_g w2 (((53 + (2 * k1)) + 1))) + nI (1))))) (((61 + (4 * k2)) + 3)) ((((upd (m_g w2) (((53 + (2 * k1)) + 1)) (((m_g w2 (((53 + (2 * k1)) + 1))) + nI (1)))) (((61 + (4 * k2)) + 3))) + nI (1))))) (3) ((((upd ((upd (m_g w2) (((53 + (2 * k1)) + 1)) (((m_g w2 (((53 + (2 * k1)) + 1))) + nI (1))))) (((61 + (4 * k2)) + 3)) ((((upd (m_g w2) (((53 + (2 * k1)) + 1)) (((m_g w2 (((53 + (2 * k1)) + 1))) + nI (1)))) (((61 + (4 * k2)) + 3))) + nI (1)))) (3)) + nI (1)))), m_fl w2, m_ch w2, m_sv w2, m_why w2, m_det w2, m_li w2, m_ld w2, m_wt w2, m_wm w2, m_ln w2, m_lz w2, m_in w2, m_ty w2, m_he w2, m_wa w2, m_fa w2, m_cm w2, m_cz w2) R) H := hP
              have hD : va_D A (MW ct o ((upd ((upd ((upd (m_g w2) (((53 + (2 * k1)) + 1)) (((m_g w2 (((53 + (2 * k1)) + 1))) + nI (1))))) (((61 + (4 * k2)) + 3)) ((((upd (m_g w2) (((53 + (2 * k1)) + 1)) (((m_g w2 (((53 + (2 * k1)) + 1))) + nI (1)))) (((61 + (4 * k2)) + 3))) + nI (1))))) (3) ((((upd ((upd (m_g w2) (((53 + (2 * k1)) + 1)) (((m_g w2 (((53 + (2 * k1)) + 1))) + nI (1))))) (((61 + (4 * k2)) + 3)) ((((upd (m_g w2) (((53 + (2 * k1)) + 1)) (((m_g w2 (((53 + (2 * k1)) + 1))) + nI (1)))) (((61 + (4 * k2)) + 3))) + nI (1)))) (3)) + nI (1)))), m_fl w2, m_ch w2, m_sv w2, m_why w2, m_det w2, m_li w2, m_ld w2, m_wt w2, m_wm w2, m_ln w2, m_lz w2, m_in w2, m_ty w2, m_he w2, m_wa w2, m_fa w2, m_cm w2, m_cz w2) R) := hD
              refine lv_iadd hx hb dX11_goes_218 ?_
              refine zIast (n := 972) (f := (upd ((upd ((upd (m_g w2) (((53 + (2 * k1)) + 1)) (((m_g w2 (((53 + (2 * k1)) + 1))) + nI (1))))) (((61 + (4 * k2)) + 3)) ((((upd (m_g w2) (((53 + (2 * k1)) + 1)) (((m_g w2 (((53 + (2 * k1)) + 1))) + nI (1)))) (((61 + (4 * k2)) + 3))) + nI (1))))) (3) ((((upd ((upd (m_g w2) (((53 + (2 * k1)) + 1)) (((m_g w2 (((53 + (2 * k1)) + 1))) + nI (1))))) (((61 + (4 * k2)) + 3)) ((((upd (m_g w2) (((53 + (2 * k1)) + 1)) (((m_g w2 (((53 + (2 * k1)) + 1))) + nI (1)))) (((61 + (4 * k2)) + 3))) + nI (1)))) (3)) + nI (1))))) (i := 4) hx hb hK hP hD hS 1 rfl (by omega) (by decide) dX11_goes_219 (fun H locs hP hD hS => ?_)
              have hP : va_P D vwCl (MW ct o ((upd ((upd ((upd ((upd (m_g w2) (((53 + (2 * k1)) + 1)) (((m_g w2 (((53 + (2 * k1)) + 1))) + nI (1))))) (((61 + (4 * k2)) + 3)) ((((upd (m_g w2) (((53 + (2 * k1)) + 1)) (((m_g w2 (((53 + (2 * k1)) + 1))) + nI (1)))) (((61 + (4 * k2)) + 3))) + nI (1))))) (3) ((((upd ((upd (m_g w2) (((53 + (2 * k1)) + 1)) (((m_g w2 (((53 + (2 * k1)) + 1))) + nI (1))))) (((61 + (4 * k2)) + 3)) ((((upd (m_g w2) (((53 + (2 * k1)) + 1)) (((m_g w2 (((53 + (2 * k1)) + 1))) + nI (1)))) (((61 + (4 * k2)) + 3))) + nI (1)))) (3)) + nI (1))))) (4) ((((upd ((upd ((upd (m_g w2) (((53 + (2 * k1)) + 1)) (((m_g w2 (((53 + (2 * k1)) + 1))) + nI (1))))) (((61 + (4 * k2)) + 3)) ((((upd (m_g w2) (((53 + (2 * k1)) + 1)) (((m_g w2 (((53 + (2 * k1)) + 1))) + nI (1)))) (((61 + (4 * k2)) + 3))) + nI (1))))) (3) ((((upd ((upd (m_g w2) (((53 + (2 * k1)) + 1)) (((m_g w2 (((53 + (2 * k1)) + 1))) + nI (1))))) (((61 + (4 * k2)) + 3)) ((((upd (m_g w2) (((53 + (2 * k1)) + 1)) (((m_g w2 (((53 + (2 * k1)) + 1))) + nI (1)))) (((61 + (4 * k2)) + 3))) + nI (1)))) (3)) + nI (1)))) (4)) + ((upd ((upd ((upd (m_g w2) (((53 + (2 * k1)) + 1)) (((m_g w2 (((53 + (2 * k1)) + 1))) + nI (1))))) (((61 + (4 * k2)) + 3)) ((((upd (m_g w2) (((53 + (2 * k1)) + 1)) (((m_g w2 (((53 + (2 * k1)) + 1))) + nI (1)))) (((61 + (4 * k2)) + 3))) + nI (1))))) (3) ((((upd ((upd (m_g w2) (((53 + (2 * k1)) + 1)) (((m_g w2 (((53 + (2 * k1)) + 1))) + nI (1))))) (((61 + (4 * k2)) + 3)) ((((upd (m_g w2) (((53 + (2 * k1)) + 1)) (((m_g w2 (((53 + (2 * k1)) + 1))) + nI (1)))) (((61 + (4 * k2)) + 3))) + nI (1)))) (3)) + nI (1)))) (61 + 4 * (k2) + (1)))))), m_fl w2, m_ch w2, m_sv w2, m_why w2, m_det w2, m_li w2, m_ld w2, m_wt w2, m_wm w2, m_ln w2, m_lz w2, m_in w2, m_ty w2, m_he w2, m_wa w2, m_fa w2, m_cm w2, m_cz w2) R) H := hP
              have hD : va_D A (MW ct o ((upd ((upd ((upd ((upd (m_g w2) (((53 + (2 * k1)) + 1)) (((m_g w2 (((53 + (2 * k1)) + 1))) + nI (1))))) (((61 + (4 * k2)) + 3)) ((((upd (m_g w2) (((53 + (2 * k1)) + 1)) (((m_g w2 (((53 + (2 * k1)) + 1))) + nI (1)))) (((61 + (4 * k2)) + 3))) + nI (1))))) (3) ((((upd ((upd (m_g w2) (((53 + (2 * k1)) + 1)) (((m_g w2 (((53 + (2 * k1)) + 1))) + nI (1))))) (((61 + (4 * k2)) + 3)) ((((upd (m_g w2) (((53 + (2 * k1)) + 1)) (((m_g w2 (((53 + (2 * k1)) + 1))) + nI (1)))) (((61 + (4 * k2)) + 3))) + nI (1)))) (3)) + nI (1))))) (4) ((((upd ((upd ((upd (m_g w2) (((53 + (2 * k1)) + 1)) (((m_g w2 (((53 + (2 * k1)) + 1))) + nI (1))))) (((61 + (4 * k2)) + 3)) ((((upd (m_g w2) (((53 + (2 * k1)) + 1)) (((m_g w2 (((53 + (2 * k1)) + 1))) + nI (1)))) (((61 + (4 * k2)) + 3))) + nI (1))))) (3) ((((upd ((upd (m_g w2) (((53 + (2 * k1)) + 1)) (((m_g w2 (((53 + (2 * k1)) + 1))) + nI (1))))) (((61 + (4 * k2)) + 3)) ((((upd (m_g w2) (((53 + (2 * k1)) + 1)) (((m_g w2 (((53 + (2 * k1)) + 1))) + nI (1)))) (((61 + (4 * k2)) + 3))) + nI (1)))) (3)) + nI (1)))) (4)) + ((upd ((upd ((upd (m_g w2) (((53 + (2 * k1)) + 1)) (((m_g w2 (((53 + (2 * k1)) + 1))) + nI (1))))) (((61 + (4 * k2)) + 3)) ((((upd (m_g w2) (((53 + (2 * k1)) + 1)) (((m_g w2 (((53 + (2 * k1)) + 1))) + nI (1)))) (((61 + (4 * k2)) + 3))) + nI (1))))) (3) ((((upd ((upd (m_g w2) (((53 + (2 * k1)) + 1)) (((m_g w2 (((53 + (2 * k1)) + 1))) + nI (1))))) (((61 + (4 * k2)) + 3)) ((((upd (m_g w2) (((53 + (2 * k1)) + 1)) (((m_g w2 (((53 + (2 * k1)) + 1))) + nI (1)))) (((61 + (4 * k2)) + 3))) + nI (1)))) (3)) + nI (1)))) (61 + 4 * (k2) + (1)))))), m_fl w2, m_ch w2, m_sv w2, m_why w2, m_det w2, m_li w2, m_ld w2, m_wt w2, m_wm w2, m_ln w2, m_lz w2, m_in w2, m_ty w2, m_he w2, m_wa w2, m_fa w2, m_cm w2, m_cz w2) R) := hD
              have hP : va_P D vwCl (MW ct o (mGF w2 (markG (m_g w2) k1 k2) (m_fl w2)) R) H := hP
              have hD : va_D A (MW ct o (mGF w2 (markG (m_g w2) k1 k2) (m_fl w2)) R) := hD
              refine lv_aload_n hx hb dX11_goes_220 rfl (lv_at hl 1 rfl) ?_
              refine lv_iload_n hx hb dX11_goes_221 rfl (lv_at hl 2 rfl) ?_
              refine zVI [.int (nI (k1))] [] (kX11_creaking (o) ((mGF w2 (markG (m_g w2) k1 k2) (m_fl w2))) (R) (k1) (y) (show yI (y) from hy) (show RelI (y) ((m_g (mGF w2 (markG (m_g w2) k1 k2) (m_fl w2)))) from RelI_mark hB hq2 (by omega) (by omega)) (show (k1) < y_cn (y) from by omega)) hx hb hml hown hts (cwV 1 hts gX11_goes_X11_creaking rfl rfl rfl (by decide +kernel) ⟨(Nat.le_of_ble_eq_true rfl), (Nat.le_of_ble_eq_true rfl)⟩) hK hP hD hS hA (va_recv hK hP (ci := 10) (q0 := 0) rfl rfl) rfl hl.1 rfl (Nat.le_of_ble_eq_true rfl) dX11_goes_222 ⟨(Nat.le_of_ble_eq_true rfl), (Nat.le_of_ble_eq_true rfl)⟩ (fun r_222 _ H locs hr_222 hP hD hS => ?_)
              subst hr_222
              have hP : va_P D vwCl (MW ct o (mGF w2 (markG (m_g w2) k1 k2) (m_fl w2)) R) H := hP
              have hD : va_D A (MW ct o (mGF w2 (markG (m_g w2) k1 k2) (m_fl w2)) R) := hD
              have q222 := t_cr_le (y) (k1)
              have hgo : goneM y v k1 k2 = mGF w2 (markG (m_g w2) k1 k2) (m_fl w2) := by rw [hw2]; rfl
              have e9 : F_goes y v (nI k1) (nI k2) = (nI (t_cr (y) (k1)), (mGF w2 (markG (m_g w2) k1 k2) (m_fl w2))) := (by simp only [F_goes, ixI, hgo, c5_1, hclk1, c13_2, hclk2, c39_3, c64_5, hb88, hb104, p_in, p_worn, p_wi, p_creak, p_le0, p_lt1, p_rng, pmT, pmC, p_eq0, not_true_eq_false, not_false_eq_true, if_true, if_false, and_true, true_and, and_false, false_and, or_true, true_or, or_false, false_or, and_self, or_self, iff_true, true_iff, iff_false, false_iff, decide_eq_true_eq, decide_true, decide_false, Int32.add_zero, Nat.add_zero, ne_eq, Bool.false_eq_true, eq_self])
              exact zIret () hx hb hr hlocks hK (by show va_P D vwCl (MW ct o (F_goes y v (nI k1) (nI k2)).2 R) H; rw [e9]; exact hP) (by show va_D A (MW ct o (F_goes y v (nI k1) (nI k2)).2 R); rw [e9]; exact hD) hS dX11_goes_225 (show nI (t_cr (y) (k1)) = (F_goes y v (nI k1) (nI k2)).1 from (by rw [e9]))
        · skip
          refine lv_iconst (v := nI (1)) hx hb dX11_goes_67 (by decide) ?_
          refine lv_goto (tgt := 72) hx hb dX11_goes_68 (by decide) ?_
          refine lv_bipush (v := nI (9)) hx hb dX11_goes_72 (by decide) ?_
          refine lv_iload_n hx hb dX11_goes_74 rfl (lv_at hl 0 rfl) ?_
          refine zVI [.int (nI (1)), .int (nI (9)), .int (((t_all (y) (nI (k1))) - (y_li y (k2))))] [] (kX11_refuses_t (o) (v) (R) (nI (9)) (((t_all (y) (nI (k1))) - (y_li y (k2))))) hx hb hml hown hts (cwV 3 hts gX11_goes_X11_refuses rfl rfl rfl (by decide +kernel) ⟨(Nat.le_of_ble_eq_true rfl), (Nat.le_of_ble_eq_true rfl)⟩) hK hP hD hS hA (va_recv hK hP (ci := 10) (q0 := 0) rfl rfl) rfl hl.1 rfl (Nat.le_of_ble_eq_true rfl) dX11_goes_75 ⟨(Nat.le_of_ble_eq_true rfl), (Nat.le_of_ble_eq_true rfl)⟩ (fun r_75 _ H locs hr_75 hP hD hS => ?_)
          subst hr_75
          have hP : va_P D vwCl (MW ct o ((m_g v), (m_fl v), (m_ch v), (m_sv v), (nI (9)), (((t_all (y) (nI (k1))) - (y_li y (k2)))), (nI (0)), (m_ld v), (m_wt v), (m_wm v), (m_ln v), (m_lz v), (m_in v), (m_ty v), (m_he v), (m_wa v), (m_fa v), (m_cm v), (m_cz v)) R) H := hP
          have hD : va_D A (MW ct o ((m_g v), (m_fl v), (m_ch v), (m_sv v), (nI (9)), (((t_all (y) (nI (k1))) - (y_li y (k2)))), (nI (0)), (m_ld v), (m_wt v), (m_wm v), (m_ln v), (m_lz v), (m_in v), (m_ty v), (m_he v), (m_wa v), (m_fa v), (m_cm v), (m_cz v)) R) := hD
          refine lv_if_ne (tgt := 113) hx hb dX11_goes_78 (by decide) (fun c9 => ?_) (fun c9 => absurd c9 (by decide))
          refine lv_bipush (v := (-3)) hx hb dX11_goes_113 (by decide) ?_
          have e9 : F_goes y v (nI k1) (nI k2) = ((-3), ((m_g v), (m_fl v), (m_ch v), (m_sv v), (nI (9)), (((t_all (y) (nI (k1))) - (y_li y (k2)))), (nI (0)), (m_ld v), (m_wt v), (m_wm v), (m_ln v), (m_lz v), (m_in v), (m_ty v), (m_he v), (m_wa v), (m_fa v), (m_cm v), (m_cz v))) := (by simp only [F_goes, mRef, ixI, c5_1, hclk1, c13_2, hclk2, c39_3, c64_5, p_in, p_worn, p_wi, p_creak, p_le0, p_lt1, p_rng, pmT, pmC, p_eq0, not_true_eq_false, not_false_eq_true, if_true, if_false, and_true, true_and, and_false, false_and, or_true, true_or, or_false, false_or, and_self, or_self, iff_true, true_iff, iff_false, false_iff, decide_eq_true_eq, decide_true, decide_false, Int32.add_zero, Nat.add_zero, ne_eq, Bool.false_eq_true, eq_self])
          exact zIret () hx hb hr hlocks hK (by show va_P D vwCl (MW ct o (F_goes y v (nI k1) (nI k2)).2 R) H; rw [e9]; exact hP) (by show va_D A (MW ct o (F_goes y v (nI k1) (nI k2)).2 R); rw [e9]; exact hD) hS dX11_goes_115 (show (-3) = (F_goes y v (nI k1) (nI k2)).1 from (by rw [e9]))
      · skip
        refine lv_iconst (v := nI (1)) hx hb dX11_goes_42 (by decide) ?_
        refine lv_goto (tgt := 47) hx hb dX11_goes_43 (by decide) ?_
        refine lv_bipush (v := nI (8)) hx hb dX11_goes_47 (by decide) ?_
        refine lv_aload_n hx hb dX11_goes_49 rfl (lv_at hl 1 rfl) ?_
        refine lv_iload_n hx hb dX11_goes_50 rfl (lv_at hl 2 rfl) ?_
        refine lv_iconst (v := nI (0)) hx hb dX11_goes_51 (by decide) ?_
        refine lv_iconst (v := nI (0)) hx hb dX11_goes_52 (by decide) ?_
        refine zVI [.int (nI (k1)), .int (nI (0)), .int (nI (0))] [.int (nI (8)), .int (nI (1)), .ref (o 0)] (kX11_onCart_c (o) (v) (R) (k1) (nI (0)) (y) (show y_n (y) ≤ 12 ∧ y_cn (y) ≤ 4 ∧ y_rn (y) ≤ 5 from hB) (show RelI (y) (m_g v) from hq) (show (k1) < 4 from by omega)) hx hb hml hown hts (cwV 3 hts gX11_goes_X11_onCart rfl rfl rfl (by decide +kernel) ⟨(Nat.le_of_ble_eq_true rfl), (Nat.le_of_ble_eq_true rfl)⟩) hK hP hD hS hA (va_recv hK hP (ci := 10) (q0 := 0) rfl rfl) rfl hl.1 rfl (Nat.le_of_ble_eq_true rfl) dX11_goes_53 ⟨(Nat.le_of_ble_eq_true rfl), (Nat.le_of_ble_eq_true rfl)⟩ (fun r_53 _ H locs hr_53 hP hD hS => ?_)
        subst hr_53
        have hP : va_P D vwCl (MW ct o v R) H := hP
        have hD : va_D A (MW ct o v R) := hD
        refine zVI [.int (nI (1)), .int (nI (8)), .int ((t_oc (y) (nI (k1)) (nI (0))))] [] (kX11_refuses_t (o) (v) (R) (nI (8)) ((t_oc (y) (nI (k1)) (nI (0))))) hx hb hml hown hts (cwV 3 hts gX11_goes_X11_refuses rfl rfl rfl (by decide +kernel) ⟨(Nat.le_of_ble_eq_true rfl), (Nat.le_of_ble_eq_true rfl)⟩) hK hP hD hS hA (va_recv hK hP (ci := 10) (q0 := 0) rfl rfl) rfl hl.1 rfl (Nat.le_of_ble_eq_true rfl) dX11_goes_56 ⟨(Nat.le_of_ble_eq_true rfl), (Nat.le_of_ble_eq_true rfl)⟩ (fun r_56 _ H locs hr_56 hP hD hS => ?_)
        subst hr_56
        have hP : va_P D vwCl (MW ct o ((m_g v), (m_fl v), (m_ch v), (m_sv v), (nI (8)), ((t_oc (y) (nI (k1)) (nI (0)))), (nI (0)), (m_ld v), (m_wt v), (m_wm v), (m_ln v), (m_lz v), (m_in v), (m_ty v), (m_he v), (m_wa v), (m_fa v), (m_cm v), (m_cz v)) R) H := hP
        have hD : va_D A (MW ct o ((m_g v), (m_fl v), (m_ch v), (m_sv v), (nI (8)), ((t_oc (y) (nI (k1)) (nI (0)))), (nI (0)), (m_ld v), (m_wt v), (m_wm v), (m_ln v), (m_lz v), (m_in v), (m_ty v), (m_he v), (m_wa v), (m_fa v), (m_cm v), (m_cz v)) R) := hD
        refine lv_if_ne (tgt := 113) hx hb dX11_goes_59 (by decide) (fun c9 => ?_) (fun c9 => absurd c9 (by decide))
        refine lv_bipush (v := (-3)) hx hb dX11_goes_113 (by decide) ?_
        have e9 : F_goes y v (nI k1) (nI k2) = ((-3), ((m_g v), (m_fl v), (m_ch v), (m_sv v), (nI (8)), ((t_oc (y) (nI (k1)) (nI (0)))), (nI (0)), (m_ld v), (m_wt v), (m_wm v), (m_ln v), (m_lz v), (m_in v), (m_ty v), (m_he v), (m_wa v), (m_fa v), (m_cm v), (m_cz v))) := (by simp only [F_goes, mRef, ixI, c5_1, hclk1, c13_2, hclk2, eq_true c39_3, p_in, p_worn, p_wi, p_creak, p_le0, p_lt1, p_rng, pmT, pmC, p_eq0, not_true_eq_false, not_false_eq_true, if_true, if_false, and_true, true_and, and_false, false_and, or_true, true_or, or_false, false_or, and_self, or_self, iff_true, true_iff, iff_false, false_iff, decide_eq_true_eq, decide_true, decide_false, Int32.add_zero, Nat.add_zero, ne_eq, Bool.false_eq_true, eq_self])
        exact zIret () hx hb hr hlocks hK (by show va_P D vwCl (MW ct o (F_goes y v (nI k1) (nI k2)).2 R) H; rw [e9]; exact hP) (by show va_D A (MW ct o (F_goes y v (nI k1) (nI k2)).2 R); rw [e9]; exact hD) hS dX11_goes_115 (show (-3) = (F_goes y v (nI k1) (nI k2)).1 from (by rw [e9]))
    · skip
      refine lv_iconst (v := (-1)) hx hb dX11_goes_16 (by decide) ?_
      have e9 : F_goes y v (nI k1) x2 = ((-1), v) := (by simp only [F_goes, mRef, ixI, c5_1, hclk1, c13_2, p_in, p_worn, p_wi, p_creak, p_le0, p_lt1, p_rng, pmT, pmC, p_eq0, not_true_eq_false, not_false_eq_true, if_true, if_false, and_true, true_and, and_false, false_and, or_true, true_or, or_false, false_or, and_self, or_self, iff_true, true_iff, iff_false, false_iff, decide_eq_true_eq, decide_true, decide_false, Int32.add_zero, Nat.add_zero, ne_eq, Bool.false_eq_true, eq_self])
      exact zIret () hx hb hr hlocks hK (by show va_P D vwCl (MW ct o (F_goes y v (nI k1) x2).2 R) H; rw [e9]; exact hP) (by show va_D A (MW ct o (F_goes y v (nI k1) x2).2 R); rw [e9]; exact hD) hS dX11_goes_17 (show (-1) = (F_goes y v (nI k1) x2).1 from (by rw [e9]))
abbrev rmX11_greases : Room := { frames := 2, cells := 0, slots := 0, locals := 44 }
theorem in_X11_greases_X11 : ∀ w ∈ u_ws RX11 TX11 19, w ∈ wsX11_greases := by decide +kernel
set_option maxHeartbeats 4000000 in
set_option maxRecDepth 100000 in
theorem kX11_greases {D : va_G} {ct : Nat → ClassId} {l : Launch} (o : Nat → Nat) (v : MS) (R : va_W) (x1 : Int32) (y : YS) (hB : y_n y ≤ 12 ∧ y_cn y ≤ 4 ∧ y_rn y ≤ 5) (hq : RelI y (m_g v)) : MI D ct l yX11_greases wsX11_greases rmX11_greases (MW ct o v R) [.ref (o 0), .int (x1)] (fun r0 (_ : Unit) => r0 = (F_grs y v x1).1) (fun _ : Unit => MW ct o (F_grs y v x1).2 R) := by
  refine MIof (cc := cX11_greases) (maxL := 3) (ret := (some .int)) (by decide) rfl (Nat.le_of_ble_eq_true rfl) ?_
  intro p e s m args below meth c A H locs F hP hK hD hS hA ls hl
  obtain ⟨hx, hb, hr, hlocks, hml, hown, hts, hin⟩ := F
  have hl : lv_has ls 3 [(0, .ref (o 0)), (1, .int (x1))] := hl
  have hn : y_n y ≤ 12 := hB.1
  have hcn : y_cn y ≤ 4 := hB.2.1
  have hrn : y_rn y ≤ 5 := hB.2.2
  have h_X11 := in_X11_greases_X11
  have f13 := hts (.fieldLink RX11 13 "CartArgumentsModel" "floats" "[F") (by decide +kernel)
  refine lv_aload_n hx hb dX11_greases_0 rfl (lv_at hl 0 rfl) ?_
  refine lv_iload_n hx hb dX11_greases_1 rfl (lv_at hl 1 rfl) ?_
  refine zVI [.int (x1)] [] (kX11_isCart (o) (v) (R) (x1) (y) (show y_n (y) ≤ 12 ∧ y_cn (y) ≤ 4 ∧ y_rn (y) ≤ 5 from hB) (show RelI (y) (m_g v) from hq)) hx hb hml hown hts (cwV 1 hts gX11_greases_X11_isCart rfl rfl rfl (by decide +kernel) ⟨(Nat.le_of_ble_eq_true rfl), (Nat.le_of_ble_eq_true rfl)⟩) hK hP hD hS hA (va_recv hK hP (ci := 10) (q0 := 0) rfl rfl) rfl hl.1 rfl (Nat.le_of_ble_eq_true rfl) dX11_greases_2 ⟨(Nat.le_of_ble_eq_true rfl), (Nat.le_of_ble_eq_true rfl)⟩ (fun r_2 _ H locs hr_2 hP hD hS => ?_)
  subst hr_2
  have hP : va_P D vwCl (MW ct o v R) H := hP
  have hD : va_D A (MW ct o v R) := hD
  refine zB_if_ne (tgt := 10) hx hb dX11_greases_5 (by decide) (fun c5_1 => ?_) (fun c5_1 => ?_)
  · skip
    obtain ⟨k1, hk1, ek1⟩ := p_in_ex (n := y_cn y) (by omega) c5_1
    subst ek1
    have hclk1 : (nI k1).toNatClampNeg = k1 := nI_clamp (by omega)
    refine lv_aload_n hx hb dX11_greases_10 rfl (lv_at hl 0 rfl) ?_
    refine lv_aload_n hx hb dX11_greases_11 rfl (lv_at hl 0 rfl) ?_
    refine lv_iload_n hx hb dX11_greases_12 rfl (lv_at hl 1 rfl) ?_
    refine lv_iconst (v := nI (0)) hx hb dX11_greases_13 (by decide) ?_
    refine zVF [.int (nI (k1)), .int (nI (0))] [.ref (o 0)] (kX11_wearOf (o) (v) (R) (k1) (nI (0)) (show (k1) < 4 from by omega)) hx hb hml hown hts (cwV 2 hts gX11_greases_X11_wearOf rfl rfl rfl (by decide +kernel) ⟨(Nat.le_of_ble_eq_true rfl), (Nat.le_of_ble_eq_true rfl)⟩) hK hP hD hS hA (va_recv hK hP (ci := 10) (q0 := 0) rfl rfl) rfl hl.1 rfl (Nat.le_of_ble_eq_true rfl) dX11_greases_14 ⟨(Nat.le_of_ble_eq_true rfl), (Nat.le_of_ble_eq_true rfl)⟩ (fun r_14 _ H locs hr_14 hP hD hS => ?_)
    subst hr_14
    have hP : va_P D vwCl (MW ct o v R) H := hP
    have hD : va_D A (MW ct o v R) := hD
    refine lv_fconst0 hx hb dX11_greases_17 ?_
    refine lv_fcmp hx hb dX11_greases_18 ?_
    refine lv_if_ne (tgt := 37) hx hb dX11_greases_19 (by decide) (fun c19_2 => ?_) (fun c19_2 => ?_)
    · skip
      refine lv_iconst (v := nI (0)) hx hb dX11_greases_37 (by decide) ?_
      refine lv_bipush (v := nI (11)) hx hb dX11_greases_38 (by decide) ?_
      refine lv_iload_n hx hb dX11_greases_40 rfl (lv_at hl 1 rfl) ?_
      refine zVI [.int (nI (0)), .int (nI (11)), .int (nI (k1))] [] (kX11_refuses_f (o) (v) (R) (nI (11)) (nI (k1))) hx hb hml hown hts (cwV 3 hts gX11_greases_X11_refuses rfl rfl rfl (by decide +kernel) ⟨(Nat.le_of_ble_eq_true rfl), (Nat.le_of_ble_eq_true rfl)⟩) hK hP hD hS hA (va_recv hK hP (ci := 10) (q0 := 0) rfl rfl) rfl hl.1 rfl (Nat.le_of_ble_eq_true rfl) dX11_greases_41 ⟨(Nat.le_of_ble_eq_true rfl), (Nat.le_of_ble_eq_true rfl)⟩ (fun r_41 _ H locs hr_41 hP hD hS => ?_)
      subst hr_41
      have hP : va_P D vwCl (MW ct o v R) H := hP
      have hD : va_D A (MW ct o v R) := hD
      refine lv_if_eq (tgt := 50) hx hb dX11_greases_44 (by decide) (fun c9 => ?_) (fun c9 => absurd (by decide) c9)
      refine lv_aload_n hx hb dX11_greases_50 rfl (lv_at hl 0 rfl) ?_
      refine lv_iload_n hx hb dX11_greases_51 rfl (lv_at hl 1 rfl) ?_
      refine lv_iconst (v := nI (0)) hx hb dX11_greases_52 (by decide) ?_
      refine zVI [.int (nI (k1)), .int (nI (0))] [] (kX11_isWorn (o) (v) (R) (k1) (nI (0)) (show (k1) < 4 from by omega)) hx hb hml hown hts (cwV 2 hts gX11_greases_X11_isWorn rfl rfl rfl (by decide +kernel) ⟨(Nat.le_of_ble_eq_true rfl), (Nat.le_of_ble_eq_true rfl)⟩) hK hP hD hS hA (va_recv hK hP (ci := 10) (q0 := 0) rfl rfl) rfl hl.1 rfl (Nat.le_of_ble_eq_true rfl) dX11_greases_53 ⟨(Nat.le_of_ble_eq_true rfl), (Nat.le_of_ble_eq_true rfl)⟩ (fun r_53 _ H locs hr_53 hP hD hS => ?_)
      subst hr_53
      have hP : va_P D vwCl (MW ct o v R) H := hP
      have hD : va_D A (MW ct o v R) := hD
      refine zB_if_eq (tgt := 63) hx hb dX11_greases_56 (by decide) (fun c56_4 => ?_) (fun c56_4 => ?_)
      · skip
        refine lv_iconst (v := nI (0)) hx hb dX11_greases_63 (by decide) ?_
        refine lv_aload_n hx hb dX11_greases_64 rfl (lv_at hl 0 rfl) ?_
        refine lv_iload_n hx hb dX11_greases_65 rfl (lv_at hl 1 rfl) ?_
        refine lv_iconst (v := nI (1)) hx hb dX11_greases_66 (by decide) ?_
        refine zVI [.int (nI (k1)), .int (nI (1))] [.int (nI (0))] (kX11_isWorn (o) (v) (R) (k1) (nI (1)) (show (k1) < 4 from by omega)) hx hb hml hown hts (cwV 2 hts gX11_greases_X11_isWorn rfl rfl rfl (by decide +kernel) ⟨(Nat.le_of_ble_eq_true rfl), (Nat.le_of_ble_eq_true rfl)⟩) hK hP hD hS hA (va_recv hK hP (ci := 10) (q0 := 0) rfl rfl) rfl hl.1 rfl (Nat.le_of_ble_eq_true rfl) dX11_greases_67 ⟨(Nat.le_of_ble_eq_true rfl), (Nat.le_of_ble_eq_true rfl)⟩ (fun r_67 _ H locs hr_67 hP hD hS => ?_)
        subst hr_67
        have hP : va_P D vwCl (MW ct o v R) H := hP
        have hD : va_D A (MW ct o v R) := hD
        refine zB_if_eq (tgt := 77) hx hb dX11_greases_70 (by decide) (fun c70_5 => ?_) (fun c70_5 => ?_)
        · skip
          refine lv_iconst (v := nI (0)) hx hb dX11_greases_77 (by decide) ?_
          refine zNadd hx hb dX11_greases_78 ?_
          refine lv_istore_n (lv' := [(2, .int (nI ((0 + 0)))), (0, .ref (o 0)), (1, .int (nI (k1)))]) hx hb dX11_greases_79 rfl hl (by decide) rfl (fun ls hl => ?_)
          refine lv_aload_n hx hb dX11_greases_80 rfl (lv_at hl 1 rfl) ?_
          refine va_get (ci := 10) (v := .ref (o 2)) hx hb hts h_X11 hown hK hP 0 rfl rfl 1 (by decide) f13 (fun _ h9 => h9) rfl dX11_greases_81 ?_
          refine lv_iconst (v := nI (2)) hx hb dX11_greases_84 (by decide) ?_
          refine lv_iload_n hx hb dX11_greases_85 rfl (lv_at hl 2 rfl) ?_
          refine zNmul hx hb dX11_greases_86 ?_
          refine lv_fconst0 hx hb dX11_greases_87 ?_
          refine zFast (n := 108) (f := m_fl v) (i := (2 * k1)) hx hb hK hP hD hS 2 rfl (by omega) (by decide) dX11_greases_88 (fun H locs hP hD hS => ?_)
          have hP : va_P D vwCl (MW ct o (m_g v, (vf_upd (m_fl v) ((2 * k1)) (FP.fconst0)), m_ch v, m_sv v, m_why v, m_det v, m_li v, m_ld v, m_wt v, m_wm v, m_ln v, m_lz v, m_in v, m_ty v, m_he v, m_wa v, m_fa v, m_cm v, m_cz v) R) H := hP
          have hD : va_D A (MW ct o (m_g v, (vf_upd (m_fl v) ((2 * k1)) (FP.fconst0)), m_ch v, m_sv v, m_why v, m_det v, m_li v, m_ld v, m_wt v, m_wm v, m_ln v, m_lz v, m_in v, m_ty v, m_he v, m_wa v, m_fa v, m_cm v, m_cz v) R) := hD
          refine lv_aload_n hx hb dX11_greases_89 rfl (lv_at hl 1 rfl) ?_
          refine va_get (ci := 10) (v := .ref (o 2)) hx hb hts h_X11 hown hK hP 0 rfl rfl 1 (by decide) f13 (fun _ h9 => h9) rfl dX11_greases_90 ?_
          refine lv_iconst (v := nI (2)) hx hb dX11_greases_93 (by decide) ?_
          refine lv_iload_n hx hb dX11_greases_94 rfl (lv_at hl 2 rfl) ?_
          refine zNmul hx hb dX11_greases_95 ?_
          refine lv_iconst (v := nI (1)) hx hb dX11_greases_96 (by decide) ?_
          refine zNadd hx hb dX11_greases_97 ?_
          refine lv_fconst0 hx hb dX11_greases_98 ?_
          refine zFast (n := 108) (f := (vf_upd (m_fl v) ((2 * k1)) (FP.fconst0))) (i := ((2 * k1) + 1)) hx hb hK hP hD hS 2 rfl (by omega) (by decide) dX11_greases_99 (fun H locs hP hD hS => ?_)
          have hP : va_P D vwCl (MW ct o (m_g v, (vf_upd ((vf_upd (m_fl v) ((2 * k1)) (FP.fconst0))) (((2 * k1) + 1)) (FP.fconst0)), m_ch v, m_sv v, m_why v, m_det v, m_li v, m_ld v, m_wt v, m_wm v, m_ln v, m_lz v, m_in v, m_ty v, m_he v, m_wa v, m_fa v, m_cm v, m_cz v) R) H := hP
          have hD : va_D A (MW ct o (m_g v, (vf_upd ((vf_upd (m_fl v) ((2 * k1)) (FP.fconst0))) (((2 * k1) + 1)) (FP.fconst0)), m_ch v, m_sv v, m_why v, m_det v, m_li v, m_ld v, m_wt v, m_wm v, m_ln v, m_lz v, m_in v, m_ty v, m_he v, m_wa v, m_fa v, m_cm v, m_cz v) R) := hD
          refine lv_iload_n hx hb dX11_greases_100 rfl (lv_at hl 0 rfl) ?_
          have e9 : F_grs y v (nI k1) = (nI ((0 + 0)), (m_g v, (vf_upd ((vf_upd (m_fl v) ((2 * k1)) (FP.fconst0))) (((2 * k1) + 1)) (FP.fconst0)), m_ch v, m_sv v, m_why v, m_det v, m_li v, m_ld v, m_wt v, m_wm v, m_ln v, m_lz v, m_in v, m_ty v, m_he v, m_wa v, m_fa v, m_cm v, m_cz v)) := (by simp only [F_grs, mRef, mGF, ixI, c5_1, hclk1, c19_2, c56_4, c70_5, p_in, p_worn, p_wi, p_creak, p_le0, p_lt1, p_rng, pmT, pmC, p_eq0, not_true_eq_false, not_false_eq_true, if_true, if_false, and_true, true_and, and_false, false_and, or_true, true_or, or_false, false_or, and_self, or_self, iff_true, true_iff, iff_false, false_iff, decide_eq_true_eq, decide_true, decide_false, Int32.add_zero, Nat.add_zero, ne_eq, Bool.false_eq_true, eq_self])
          exact zIret () hx hb hr hlocks hK (by show va_P D vwCl (MW ct o (F_grs y v (nI k1)).2 R) H; rw [e9]; exact hP) (by show va_D A (MW ct o (F_grs y v (nI k1)).2 R); rw [e9]; exact hD) hS dX11_greases_101 (show nI ((0 + 0)) = (F_grs y v (nI k1)).1 from (by rw [e9]))
        · skip
          refine lv_iconst (v := nI (1)) hx hb dX11_greases_73 (by decide) ?_
          refine lv_goto (tgt := 78) hx hb dX11_greases_74 (by decide) ?_
          refine zNadd hx hb dX11_greases_78 ?_
          refine lv_istore_n (lv' := [(2, .int (nI ((0 + 1)))), (0, .ref (o 0)), (1, .int (nI (k1)))]) hx hb dX11_greases_79 rfl hl (by decide) rfl (fun ls hl => ?_)
          refine lv_aload_n hx hb dX11_greases_80 rfl (lv_at hl 1 rfl) ?_
          refine va_get (ci := 10) (v := .ref (o 2)) hx hb hts h_X11 hown hK hP 0 rfl rfl 1 (by decide) f13 (fun _ h9 => h9) rfl dX11_greases_81 ?_
          refine lv_iconst (v := nI (2)) hx hb dX11_greases_84 (by decide) ?_
          refine lv_iload_n hx hb dX11_greases_85 rfl (lv_at hl 2 rfl) ?_
          refine zNmul hx hb dX11_greases_86 ?_
          refine lv_fconst0 hx hb dX11_greases_87 ?_
          refine zFast (n := 108) (f := m_fl v) (i := (2 * k1)) hx hb hK hP hD hS 2 rfl (by omega) (by decide) dX11_greases_88 (fun H locs hP hD hS => ?_)
          have hP : va_P D vwCl (MW ct o (m_g v, (vf_upd (m_fl v) ((2 * k1)) (FP.fconst0)), m_ch v, m_sv v, m_why v, m_det v, m_li v, m_ld v, m_wt v, m_wm v, m_ln v, m_lz v, m_in v, m_ty v, m_he v, m_wa v, m_fa v, m_cm v, m_cz v) R) H := hP
          have hD : va_D A (MW ct o (m_g v, (vf_upd (m_fl v) ((2 * k1)) (FP.fconst0)), m_ch v, m_sv v, m_why v, m_det v, m_li v, m_ld v, m_wt v, m_wm v, m_ln v, m_lz v, m_in v, m_ty v, m_he v, m_wa v, m_fa v, m_cm v, m_cz v) R) := hD
          refine lv_aload_n hx hb dX11_greases_89 rfl (lv_at hl 1 rfl) ?_
          refine va_get (ci := 10) (v := .ref (o 2)) hx hb hts h_X11 hown hK hP 0 rfl rfl 1 (by decide) f13 (fun _ h9 => h9) rfl dX11_greases_90 ?_
          refine lv_iconst (v := nI (2)) hx hb dX11_greases_93 (by decide) ?_
          refine lv_iload_n hx hb dX11_greases_94 rfl (lv_at hl 2 rfl) ?_
          refine zNmul hx hb dX11_greases_95 ?_
          refine lv_iconst (v := nI (1)) hx hb dX11_greases_96 (by decide) ?_
          refine zNadd hx hb dX11_greases_97 ?_
          refine lv_fconst0 hx hb dX11_greases_98 ?_
          refine zFast (n := 108) (f := (vf_upd (m_fl v) ((2 * k1)) (FP.fconst0))) (i := ((2 * k1) + 1)) hx hb hK hP hD hS 2 rfl (by omega) (by decide) dX11_greases_99 (fun H locs hP hD hS => ?_)
          have hP : va_P D vwCl (MW ct o (m_g v, (vf_upd ((vf_upd (m_fl v) ((2 * k1)) (FP.fconst0))) (((2 * k1) + 1)) (FP.fconst0)), m_ch v, m_sv v, m_why v, m_det v, m_li v, m_ld v, m_wt v, m_wm v, m_ln v, m_lz v, m_in v, m_ty v, m_he v, m_wa v, m_fa v, m_cm v, m_cz v) R) H := hP
          have hD : va_D A (MW ct o (m_g v, (vf_upd ((vf_upd (m_fl v) ((2 * k1)) (FP.fconst0))) (((2 * k1) + 1)) (FP.fconst0)), m_ch v, m_sv v, m_why v, m_det v, m_li v, m_ld v, m_wt v, m_wm v, m_ln v, m_lz v, m_in v, m_ty v, m_he v, m_wa v, m_fa v, m_cm v, m_cz v) R) := hD
          refine lv_iload_n hx hb dX11_greases_100 rfl (lv_at hl 0 rfl) ?_
          have e9 : F_grs y v (nI k1) = (nI ((0 + 1)), (m_g v, (vf_upd ((vf_upd (m_fl v) ((2 * k1)) (FP.fconst0))) (((2 * k1) + 1)) (FP.fconst0)), m_ch v, m_sv v, m_why v, m_det v, m_li v, m_ld v, m_wt v, m_wm v, m_ln v, m_lz v, m_in v, m_ty v, m_he v, m_wa v, m_fa v, m_cm v, m_cz v)) := (by simp only [F_grs, mRef, mGF, ixI, c5_1, hclk1, c19_2, c56_4, c70_5, p_in, p_worn, p_wi, p_creak, p_le0, p_lt1, p_rng, pmT, pmC, p_eq0, not_true_eq_false, not_false_eq_true, if_true, if_false, and_true, true_and, and_false, false_and, or_true, true_or, or_false, false_or, and_self, or_self, iff_true, true_iff, iff_false, false_iff, decide_eq_true_eq, decide_true, decide_false, Int32.add_zero, Nat.add_zero, ne_eq, Bool.false_eq_true, eq_self])
          exact zIret () hx hb hr hlocks hK (by show va_P D vwCl (MW ct o (F_grs y v (nI k1)).2 R) H; rw [e9]; exact hP) (by show va_D A (MW ct o (F_grs y v (nI k1)).2 R); rw [e9]; exact hD) hS dX11_greases_101 (show nI ((0 + 1)) = (F_grs y v (nI k1)).1 from (by rw [e9]))
      · skip
        refine lv_iconst (v := nI (1)) hx hb dX11_greases_59 (by decide) ?_
        refine lv_goto (tgt := 64) hx hb dX11_greases_60 (by decide) ?_
        refine lv_aload_n hx hb dX11_greases_64 rfl (lv_at hl 0 rfl) ?_
        refine lv_iload_n hx hb dX11_greases_65 rfl (lv_at hl 1 rfl) ?_
        refine lv_iconst (v := nI (1)) hx hb dX11_greases_66 (by decide) ?_
        refine zVI [.int (nI (k1)), .int (nI (1))] [.int (nI (1))] (kX11_isWorn (o) (v) (R) (k1) (nI (1)) (show (k1) < 4 from by omega)) hx hb hml hown hts (cwV 2 hts gX11_greases_X11_isWorn rfl rfl rfl (by decide +kernel) ⟨(Nat.le_of_ble_eq_true rfl), (Nat.le_of_ble_eq_true rfl)⟩) hK hP hD hS hA (va_recv hK hP (ci := 10) (q0 := 0) rfl rfl) rfl hl.1 rfl (Nat.le_of_ble_eq_true rfl) dX11_greases_67 ⟨(Nat.le_of_ble_eq_true rfl), (Nat.le_of_ble_eq_true rfl)⟩ (fun r_67 _ H locs hr_67 hP hD hS => ?_)
        subst hr_67
        have hP : va_P D vwCl (MW ct o v R) H := hP
        have hD : va_D A (MW ct o v R) := hD
        refine zB_if_eq (tgt := 77) hx hb dX11_greases_70 (by decide) (fun c70_6 => ?_) (fun c70_6 => ?_)
        · skip
          refine lv_iconst (v := nI (0)) hx hb dX11_greases_77 (by decide) ?_
          refine zNadd hx hb dX11_greases_78 ?_
          refine lv_istore_n (lv' := [(2, .int (nI ((1 + 0)))), (0, .ref (o 0)), (1, .int (nI (k1)))]) hx hb dX11_greases_79 rfl hl (by decide) rfl (fun ls hl => ?_)
          refine lv_aload_n hx hb dX11_greases_80 rfl (lv_at hl 1 rfl) ?_
          refine va_get (ci := 10) (v := .ref (o 2)) hx hb hts h_X11 hown hK hP 0 rfl rfl 1 (by decide) f13 (fun _ h9 => h9) rfl dX11_greases_81 ?_
          refine lv_iconst (v := nI (2)) hx hb dX11_greases_84 (by decide) ?_
          refine lv_iload_n hx hb dX11_greases_85 rfl (lv_at hl 2 rfl) ?_
          refine zNmul hx hb dX11_greases_86 ?_
          refine lv_fconst0 hx hb dX11_greases_87 ?_
          refine zFast (n := 108) (f := m_fl v) (i := (2 * k1)) hx hb hK hP hD hS 2 rfl (by omega) (by decide) dX11_greases_88 (fun H locs hP hD hS => ?_)
          have hP : va_P D vwCl (MW ct o (m_g v, (vf_upd (m_fl v) ((2 * k1)) (FP.fconst0)), m_ch v, m_sv v, m_why v, m_det v, m_li v, m_ld v, m_wt v, m_wm v, m_ln v, m_lz v, m_in v, m_ty v, m_he v, m_wa v, m_fa v, m_cm v, m_cz v) R) H := hP
          have hD : va_D A (MW ct o (m_g v, (vf_upd (m_fl v) ((2 * k1)) (FP.fconst0)), m_ch v, m_sv v, m_why v, m_det v, m_li v, m_ld v, m_wt v, m_wm v, m_ln v, m_lz v, m_in v, m_ty v, m_he v, m_wa v, m_fa v, m_cm v, m_cz v) R) := hD
          refine lv_aload_n hx hb dX11_greases_89 rfl (lv_at hl 1 rfl) ?_
          refine va_get (ci := 10) (v := .ref (o 2)) hx hb hts h_X11 hown hK hP 0 rfl rfl 1 (by decide) f13 (fun _ h9 => h9) rfl dX11_greases_90 ?_
          refine lv_iconst (v := nI (2)) hx hb dX11_greases_93 (by decide) ?_
          refine lv_iload_n hx hb dX11_greases_94 rfl (lv_at hl 2 rfl) ?_
          refine zNmul hx hb dX11_greases_95 ?_
          refine lv_iconst (v := nI (1)) hx hb dX11_greases_96 (by decide) ?_
          refine zNadd hx hb dX11_greases_97 ?_
          refine lv_fconst0 hx hb dX11_greases_98 ?_
          refine zFast (n := 108) (f := (vf_upd (m_fl v) ((2 * k1)) (FP.fconst0))) (i := ((2 * k1) + 1)) hx hb hK hP hD hS 2 rfl (by omega) (by decide) dX11_greases_99 (fun H locs hP hD hS => ?_)
          have hP : va_P D vwCl (MW ct o (m_g v, (vf_upd ((vf_upd (m_fl v) ((2 * k1)) (FP.fconst0))) (((2 * k1) + 1)) (FP.fconst0)), m_ch v, m_sv v, m_why v, m_det v, m_li v, m_ld v, m_wt v, m_wm v, m_ln v, m_lz v, m_in v, m_ty v, m_he v, m_wa v, m_fa v, m_cm v, m_cz v) R) H := hP
          have hD : va_D A (MW ct o (m_g v, (vf_upd ((vf_upd (m_fl v) ((2 * k1)) (FP.fconst0))) (((2 * k1) + 1)) (FP.fconst0)), m_ch v, m_sv v, m_why v, m_det v, m_li v, m_ld v, m_wt v, m_wm v, m_ln v, m_lz v, m_in v, m_ty v, m_he v, m_wa v, m_fa v, m_cm v, m_cz v) R) := hD
          refine lv_iload_n hx hb dX11_greases_100 rfl (lv_at hl 0 rfl) ?_
          have e9 : F_grs y v (nI k1) = (nI ((1 + 0)), (m_g v, (vf_upd ((vf_upd (m_fl v) ((2 * k1)) (FP.fconst0))) (((2 * k1) + 1)) (FP.fconst0)), m_ch v, m_sv v, m_why v, m_det v, m_li v, m_ld v, m_wt v, m_wm v, m_ln v, m_lz v, m_in v, m_ty v, m_he v, m_wa v, m_fa v, m_cm v, m_cz v)) := (by simp only [F_grs, mRef, mGF, ixI, c5_1, hclk1, c19_2, c56_4, c70_6, p_in, p_worn, p_wi, p_creak, p_le0, p_lt1, p_rng, pmT, pmC, p_eq0, not_true_eq_false, not_false_eq_true, if_true, if_false, and_true, true_and, and_false, false_and, or_true, true_or, or_false, false_or, and_self, or_self, iff_true, true_iff, iff_false, false_iff, decide_eq_true_eq, decide_true, decide_false, Int32.add_zero, Nat.add_zero, ne_eq, Bool.false_eq_true, eq_self])
          exact zIret () hx hb hr hlocks hK (by show va_P D vwCl (MW ct o (F_grs y v (nI k1)).2 R) H; rw [e9]; exact hP) (by show va_D A (MW ct o (F_grs y v (nI k1)).2 R); rw [e9]; exact hD) hS dX11_greases_101 (show nI ((1 + 0)) = (F_grs y v (nI k1)).1 from (by rw [e9]))
        · skip
          refine lv_iconst (v := nI (1)) hx hb dX11_greases_73 (by decide) ?_
          refine lv_goto (tgt := 78) hx hb dX11_greases_74 (by decide) ?_
          refine zNadd hx hb dX11_greases_78 ?_
          refine lv_istore_n (lv' := [(2, .int (nI ((1 + 1)))), (0, .ref (o 0)), (1, .int (nI (k1)))]) hx hb dX11_greases_79 rfl hl (by decide) rfl (fun ls hl => ?_)
          refine lv_aload_n hx hb dX11_greases_80 rfl (lv_at hl 1 rfl) ?_
          refine va_get (ci := 10) (v := .ref (o 2)) hx hb hts h_X11 hown hK hP 0 rfl rfl 1 (by decide) f13 (fun _ h9 => h9) rfl dX11_greases_81 ?_
          refine lv_iconst (v := nI (2)) hx hb dX11_greases_84 (by decide) ?_
          refine lv_iload_n hx hb dX11_greases_85 rfl (lv_at hl 2 rfl) ?_
          refine zNmul hx hb dX11_greases_86 ?_
          refine lv_fconst0 hx hb dX11_greases_87 ?_
          refine zFast (n := 108) (f := m_fl v) (i := (2 * k1)) hx hb hK hP hD hS 2 rfl (by omega) (by decide) dX11_greases_88 (fun H locs hP hD hS => ?_)
          have hP : va_P D vwCl (MW ct o (m_g v, (vf_upd (m_fl v) ((2 * k1)) (FP.fconst0)), m_ch v, m_sv v, m_why v, m_det v, m_li v, m_ld v, m_wt v, m_wm v, m_ln v, m_lz v, m_in v, m_ty v, m_he v, m_wa v, m_fa v, m_cm v, m_cz v) R) H := hP
          have hD : va_D A (MW ct o (m_g v, (vf_upd (m_fl v) ((2 * k1)) (FP.fconst0)), m_ch v, m_sv v, m_why v, m_det v, m_li v, m_ld v, m_wt v, m_wm v, m_ln v, m_lz v, m_in v, m_ty v, m_he v, m_wa v, m_fa v, m_cm v, m_cz v) R) := hD
          refine lv_aload_n hx hb dX11_greases_89 rfl (lv_at hl 1 rfl) ?_
          refine va_get (ci := 10) (v := .ref (o 2)) hx hb hts h_X11 hown hK hP 0 rfl rfl 1 (by decide) f13 (fun _ h9 => h9) rfl dX11_greases_90 ?_
          refine lv_iconst (v := nI (2)) hx hb dX11_greases_93 (by decide) ?_
          refine lv_iload_n hx hb dX11_greases_94 rfl (lv_at hl 2 rfl) ?_
          refine zNmul hx hb dX11_greases_95 ?_
          refine lv_iconst (v := nI (1)) hx hb dX11_greases_96 (by decide) ?_
          refine zNadd hx hb dX11_greases_97 ?_
          refine lv_fconst0 hx hb dX11_greases_98 ?_
          refine zFast (n := 108) (f := (vf_upd (m_fl v) ((2 * k1)) (FP.fconst0))) (i := ((2 * k1) + 1)) hx hb hK hP hD hS 2 rfl (by omega) (by decide) dX11_greases_99 (fun H locs hP hD hS => ?_)
          have hP : va_P D vwCl (MW ct o (m_g v, (vf_upd ((vf_upd (m_fl v) ((2 * k1)) (FP.fconst0))) (((2 * k1) + 1)) (FP.fconst0)), m_ch v, m_sv v, m_why v, m_det v, m_li v, m_ld v, m_wt v, m_wm v, m_ln v, m_lz v, m_in v, m_ty v, m_he v, m_wa v, m_fa v, m_cm v, m_cz v) R) H := hP
          have hD : va_D A (MW ct o (m_g v, (vf_upd ((vf_upd (m_fl v) ((2 * k1)) (FP.fconst0))) (((2 * k1) + 1)) (FP.fconst0)), m_ch v, m_sv v, m_why v, m_det v, m_li v, m_ld v, m_wt v, m_wm v, m_ln v, m_lz v, m_in v, m_ty v, m_he v, m_wa v, m_fa v, m_cm v, m_cz v) R) := hD
          refine lv_iload_n hx hb dX11_greases_100 rfl (lv_at hl 0 rfl) ?_
          have e9 : F_grs y v (nI k1) = (nI ((1 + 1)), (m_g v, (vf_upd ((vf_upd (m_fl v) ((2 * k1)) (FP.fconst0))) (((2 * k1) + 1)) (FP.fconst0)), m_ch v, m_sv v, m_why v, m_det v, m_li v, m_ld v, m_wt v, m_wm v, m_ln v, m_lz v, m_in v, m_ty v, m_he v, m_wa v, m_fa v, m_cm v, m_cz v)) := (by simp only [F_grs, mRef, mGF, ixI, c5_1, hclk1, c19_2, c56_4, c70_6, p_in, p_worn, p_wi, p_creak, p_le0, p_lt1, p_rng, pmT, pmC, p_eq0, not_true_eq_false, not_false_eq_true, if_true, if_false, and_true, true_and, and_false, false_and, or_true, true_or, or_false, false_or, and_self, or_self, iff_true, true_iff, iff_false, false_iff, decide_eq_true_eq, decide_true, decide_false, Int32.add_zero, Nat.add_zero, ne_eq, Bool.false_eq_true, eq_self])
          exact zIret () hx hb hr hlocks hK (by show va_P D vwCl (MW ct o (F_grs y v (nI k1)).2 R) H; rw [e9]; exact hP) (by show va_D A (MW ct o (F_grs y v (nI k1)).2 R); rw [e9]; exact hD) hS dX11_greases_101 (show nI ((1 + 1)) = (F_grs y v (nI k1)).1 from (by rw [e9]))
    · skip
      refine lv_aload_n hx hb dX11_greases_22 rfl (lv_at hl 0 rfl) ?_
      refine lv_iload_n hx hb dX11_greases_23 rfl (lv_at hl 1 rfl) ?_
      refine lv_iconst (v := nI (1)) hx hb dX11_greases_24 (by decide) ?_
      refine zVF [.int (nI (k1)), .int (nI (1))] [.ref (o 0)] (kX11_wearOf (o) (v) (R) (k1) (nI (1)) (show (k1) < 4 from by omega)) hx hb hml hown hts (cwV 2 hts gX11_greases_X11_wearOf rfl rfl rfl (by decide +kernel) ⟨(Nat.le_of_ble_eq_true rfl), (Nat.le_of_ble_eq_true rfl)⟩) hK hP hD hS hA (va_recv hK hP (ci := 10) (q0 := 0) rfl rfl) rfl hl.1 rfl (Nat.le_of_ble_eq_true rfl) dX11_greases_25 ⟨(Nat.le_of_ble_eq_true rfl), (Nat.le_of_ble_eq_true rfl)⟩ (fun r_25 _ H locs hr_25 hP hD hS => ?_)
      subst hr_25
      have hP : va_P D vwCl (MW ct o v R) H := hP
      have hD : va_D A (MW ct o v R) := hD
      refine lv_fconst0 hx hb dX11_greases_28 ?_
      refine lv_fcmp hx hb dX11_greases_29 ?_
      refine lv_if_ne (tgt := 37) hx hb dX11_greases_30 (by decide) (fun c30_7 => ?_) (fun c30_7 => ?_)
      · skip
        refine lv_iconst (v := nI (0)) hx hb dX11_greases_37 (by decide) ?_
        refine lv_bipush (v := nI (11)) hx hb dX11_greases_38 (by decide) ?_
        refine lv_iload_n hx hb dX11_greases_40 rfl (lv_at hl 1 rfl) ?_
        refine zVI [.int (nI (0)), .int (nI (11)), .int (nI (k1))] [] (kX11_refuses_f (o) (v) (R) (nI (11)) (nI (k1))) hx hb hml hown hts (cwV 3 hts gX11_greases_X11_refuses rfl rfl rfl (by decide +kernel) ⟨(Nat.le_of_ble_eq_true rfl), (Nat.le_of_ble_eq_true rfl)⟩) hK hP hD hS hA (va_recv hK hP (ci := 10) (q0 := 0) rfl rfl) rfl hl.1 rfl (Nat.le_of_ble_eq_true rfl) dX11_greases_41 ⟨(Nat.le_of_ble_eq_true rfl), (Nat.le_of_ble_eq_true rfl)⟩ (fun r_41 _ H locs hr_41 hP hD hS => ?_)
        subst hr_41
        have hP : va_P D vwCl (MW ct o v R) H := hP
        have hD : va_D A (MW ct o v R) := hD
        refine lv_if_eq (tgt := 50) hx hb dX11_greases_44 (by decide) (fun c9 => ?_) (fun c9 => absurd (by decide) c9)
        refine lv_aload_n hx hb dX11_greases_50 rfl (lv_at hl 0 rfl) ?_
        refine lv_iload_n hx hb dX11_greases_51 rfl (lv_at hl 1 rfl) ?_
        refine lv_iconst (v := nI (0)) hx hb dX11_greases_52 (by decide) ?_
        refine zVI [.int (nI (k1)), .int (nI (0))] [] (kX11_isWorn (o) (v) (R) (k1) (nI (0)) (show (k1) < 4 from by omega)) hx hb hml hown hts (cwV 2 hts gX11_greases_X11_isWorn rfl rfl rfl (by decide +kernel) ⟨(Nat.le_of_ble_eq_true rfl), (Nat.le_of_ble_eq_true rfl)⟩) hK hP hD hS hA (va_recv hK hP (ci := 10) (q0 := 0) rfl rfl) rfl hl.1 rfl (Nat.le_of_ble_eq_true rfl) dX11_greases_53 ⟨(Nat.le_of_ble_eq_true rfl), (Nat.le_of_ble_eq_true rfl)⟩ (fun r_53 _ H locs hr_53 hP hD hS => ?_)
        subst hr_53
        have hP : va_P D vwCl (MW ct o v R) H := hP
        have hD : va_D A (MW ct o v R) := hD
        refine zB_if_eq (tgt := 63) hx hb dX11_greases_56 (by decide) (fun c56_9 => ?_) (fun c56_9 => ?_)
        · skip
          refine lv_iconst (v := nI (0)) hx hb dX11_greases_63 (by decide) ?_
          refine lv_aload_n hx hb dX11_greases_64 rfl (lv_at hl 0 rfl) ?_
          refine lv_iload_n hx hb dX11_greases_65 rfl (lv_at hl 1 rfl) ?_
          refine lv_iconst (v := nI (1)) hx hb dX11_greases_66 (by decide) ?_
          refine zVI [.int (nI (k1)), .int (nI (1))] [.int (nI (0))] (kX11_isWorn (o) (v) (R) (k1) (nI (1)) (show (k1) < 4 from by omega)) hx hb hml hown hts (cwV 2 hts gX11_greases_X11_isWorn rfl rfl rfl (by decide +kernel) ⟨(Nat.le_of_ble_eq_true rfl), (Nat.le_of_ble_eq_true rfl)⟩) hK hP hD hS hA (va_recv hK hP (ci := 10) (q0 := 0) rfl rfl) rfl hl.1 rfl (Nat.le_of_ble_eq_true rfl) dX11_greases_67 ⟨(Nat.le_of_ble_eq_true rfl), (Nat.le_of_ble_eq_true rfl)⟩ (fun r_67 _ H locs hr_67 hP hD hS => ?_)
          subst hr_67
          have hP : va_P D vwCl (MW ct o v R) H := hP
          have hD : va_D A (MW ct o v R) := hD
          refine zB_if_eq (tgt := 77) hx hb dX11_greases_70 (by decide) (fun c70_10 => ?_) (fun c70_10 => ?_)
          · skip
            refine lv_iconst (v := nI (0)) hx hb dX11_greases_77 (by decide) ?_
            refine zNadd hx hb dX11_greases_78 ?_
            refine lv_istore_n (lv' := [(2, .int (nI ((0 + 0)))), (0, .ref (o 0)), (1, .int (nI (k1)))]) hx hb dX11_greases_79 rfl hl (by decide) rfl (fun ls hl => ?_)
            refine lv_aload_n hx hb dX11_greases_80 rfl (lv_at hl 1 rfl) ?_
            refine va_get (ci := 10) (v := .ref (o 2)) hx hb hts h_X11 hown hK hP 0 rfl rfl 1 (by decide) f13 (fun _ h9 => h9) rfl dX11_greases_81 ?_
            refine lv_iconst (v := nI (2)) hx hb dX11_greases_84 (by decide) ?_
            refine lv_iload_n hx hb dX11_greases_85 rfl (lv_at hl 2 rfl) ?_
            refine zNmul hx hb dX11_greases_86 ?_
            refine lv_fconst0 hx hb dX11_greases_87 ?_
            refine zFast (n := 108) (f := m_fl v) (i := (2 * k1)) hx hb hK hP hD hS 2 rfl (by omega) (by decide) dX11_greases_88 (fun H locs hP hD hS => ?_)
            have hP : va_P D vwCl (MW ct o (m_g v, (vf_upd (m_fl v) ((2 * k1)) (FP.fconst0)), m_ch v, m_sv v, m_why v, m_det v, m_li v, m_ld v, m_wt v, m_wm v, m_ln v, m_lz v, m_in v, m_ty v, m_he v, m_wa v, m_fa v, m_cm v, m_cz v) R) H := hP
            have hD : va_D A (MW ct o (m_g v, (vf_upd (m_fl v) ((2 * k1)) (FP.fconst0)), m_ch v, m_sv v, m_why v, m_det v, m_li v, m_ld v, m_wt v, m_wm v, m_ln v, m_lz v, m_in v, m_ty v, m_he v, m_wa v, m_fa v, m_cm v, m_cz v) R) := hD
            refine lv_aload_n hx hb dX11_greases_89 rfl (lv_at hl 1 rfl) ?_
            refine va_get (ci := 10) (v := .ref (o 2)) hx hb hts h_X11 hown hK hP 0 rfl rfl 1 (by decide) f13 (fun _ h9 => h9) rfl dX11_greases_90 ?_
            refine lv_iconst (v := nI (2)) hx hb dX11_greases_93 (by decide) ?_
            refine lv_iload_n hx hb dX11_greases_94 rfl (lv_at hl 2 rfl) ?_
            refine zNmul hx hb dX11_greases_95 ?_
            refine lv_iconst (v := nI (1)) hx hb dX11_greases_96 (by decide) ?_
            refine zNadd hx hb dX11_greases_97 ?_
            refine lv_fconst0 hx hb dX11_greases_98 ?_
            refine zFast (n := 108) (f := (vf_upd (m_fl v) ((2 * k1)) (FP.fconst0))) (i := ((2 * k1) + 1)) hx hb hK hP hD hS 2 rfl (by omega) (by decide) dX11_greases_99 (fun H locs hP hD hS => ?_)
            have hP : va_P D vwCl (MW ct o (m_g v, (vf_upd ((vf_upd (m_fl v) ((2 * k1)) (FP.fconst0))) (((2 * k1) + 1)) (FP.fconst0)), m_ch v, m_sv v, m_why v, m_det v, m_li v, m_ld v, m_wt v, m_wm v, m_ln v, m_lz v, m_in v, m_ty v, m_he v, m_wa v, m_fa v, m_cm v, m_cz v) R) H := hP
            have hD : va_D A (MW ct o (m_g v, (vf_upd ((vf_upd (m_fl v) ((2 * k1)) (FP.fconst0))) (((2 * k1) + 1)) (FP.fconst0)), m_ch v, m_sv v, m_why v, m_det v, m_li v, m_ld v, m_wt v, m_wm v, m_ln v, m_lz v, m_in v, m_ty v, m_he v, m_wa v, m_fa v, m_cm v, m_cz v) R) := hD
            refine lv_iload_n hx hb dX11_greases_100 rfl (lv_at hl 0 rfl) ?_
            have e9 : F_grs y v (nI k1) = (nI ((0 + 0)), (m_g v, (vf_upd ((vf_upd (m_fl v) ((2 * k1)) (FP.fconst0))) (((2 * k1) + 1)) (FP.fconst0)), m_ch v, m_sv v, m_why v, m_det v, m_li v, m_ld v, m_wt v, m_wm v, m_ln v, m_lz v, m_in v, m_ty v, m_he v, m_wa v, m_fa v, m_cm v, m_cz v)) := (by simp only [F_grs, mRef, mGF, ixI, c5_1, hclk1, eq_true c19_2, c30_7, c56_9, c70_10, p_in, p_worn, p_wi, p_creak, p_le0, p_lt1, p_rng, pmT, pmC, p_eq0, not_true_eq_false, not_false_eq_true, if_true, if_false, and_true, true_and, and_false, false_and, or_true, true_or, or_false, false_or, and_self, or_self, iff_true, true_iff, iff_false, false_iff, decide_eq_true_eq, decide_true, decide_false, Int32.add_zero, Nat.add_zero, ne_eq, Bool.false_eq_true, eq_self])
            exact zIret () hx hb hr hlocks hK (by show va_P D vwCl (MW ct o (F_grs y v (nI k1)).2 R) H; rw [e9]; exact hP) (by show va_D A (MW ct o (F_grs y v (nI k1)).2 R); rw [e9]; exact hD) hS dX11_greases_101 (show nI ((0 + 0)) = (F_grs y v (nI k1)).1 from (by rw [e9]))
          · skip
            refine lv_iconst (v := nI (1)) hx hb dX11_greases_73 (by decide) ?_
            refine lv_goto (tgt := 78) hx hb dX11_greases_74 (by decide) ?_
            refine zNadd hx hb dX11_greases_78 ?_
            refine lv_istore_n (lv' := [(2, .int (nI ((0 + 1)))), (0, .ref (o 0)), (1, .int (nI (k1)))]) hx hb dX11_greases_79 rfl hl (by decide) rfl (fun ls hl => ?_)
            refine lv_aload_n hx hb dX11_greases_80 rfl (lv_at hl 1 rfl) ?_
            refine va_get (ci := 10) (v := .ref (o 2)) hx hb hts h_X11 hown hK hP 0 rfl rfl 1 (by decide) f13 (fun _ h9 => h9) rfl dX11_greases_81 ?_
            refine lv_iconst (v := nI (2)) hx hb dX11_greases_84 (by decide) ?_
            refine lv_iload_n hx hb dX11_greases_85 rfl (lv_at hl 2 rfl) ?_
            refine zNmul hx hb dX11_greases_86 ?_
            refine lv_fconst0 hx hb dX11_greases_87 ?_
            refine zFast (n := 108) (f := m_fl v) (i := (2 * k1)) hx hb hK hP hD hS 2 rfl (by omega) (by decide) dX11_greases_88 (fun H locs hP hD hS => ?_)
            have hP : va_P D vwCl (MW ct o (m_g v, (vf_upd (m_fl v) ((2 * k1)) (FP.fconst0)), m_ch v, m_sv v, m_why v, m_det v, m_li v, m_ld v, m_wt v, m_wm v, m_ln v, m_lz v, m_in v, m_ty v, m_he v, m_wa v, m_fa v, m_cm v, m_cz v) R) H := hP
            have hD : va_D A (MW ct o (m_g v, (vf_upd (m_fl v) ((2 * k1)) (FP.fconst0)), m_ch v, m_sv v, m_why v, m_det v, m_li v, m_ld v, m_wt v, m_wm v, m_ln v, m_lz v, m_in v, m_ty v, m_he v, m_wa v, m_fa v, m_cm v, m_cz v) R) := hD
            refine lv_aload_n hx hb dX11_greases_89 rfl (lv_at hl 1 rfl) ?_
            refine va_get (ci := 10) (v := .ref (o 2)) hx hb hts h_X11 hown hK hP 0 rfl rfl 1 (by decide) f13 (fun _ h9 => h9) rfl dX11_greases_90 ?_
            refine lv_iconst (v := nI (2)) hx hb dX11_greases_93 (by decide) ?_
            refine lv_iload_n hx hb dX11_greases_94 rfl (lv_at hl 2 rfl) ?_
            refine zNmul hx hb dX11_greases_95 ?_
            refine lv_iconst (v := nI (1)) hx hb dX11_greases_96 (by decide) ?_
            refine zNadd hx hb dX11_greases_97 ?_
            refine lv_fconst0 hx hb dX11_greases_98 ?_
            refine zFast (n := 108) (f := (vf_upd (m_fl v) ((2 * k1)) (FP.fconst0))) (i := ((2 * k1) + 1)) hx hb hK hP hD hS 2 rfl (by omega) (by decide) dX11_greases_99 (fun H locs hP hD hS => ?_)
            have hP : va_P D vwCl (MW ct o (m_g v, (vf_upd ((vf_upd (m_fl v) ((2 * k1)) (FP.fconst0))) (((2 * k1) + 1)) (FP.fconst0)), m_ch v, m_sv v, m_why v, m_det v, m_li v, m_ld v, m_wt v, m_wm v, m_ln v, m_lz v, m_in v, m_ty v, m_he v, m_wa v, m_fa v, m_cm v, m_cz v) R) H := hP
            have hD : va_D A (MW ct o (m_g v, (vf_upd ((vf_upd (m_fl v) ((2 * k1)) (FP.fconst0))) (((2 * k1) + 1)) (FP.fconst0)), m_ch v, m_sv v, m_why v, m_det v, m_li v, m_ld v, m_wt v, m_wm v, m_ln v, m_lz v, m_in v, m_ty v, m_he v, m_wa v, m_fa v, m_cm v, m_cz v) R) := hD
            refine lv_iload_n hx hb dX11_greases_100 rfl (lv_at hl 0 rfl) ?_
            have e9 : F_grs y v (nI k1) = (nI ((0 + 1)), (m_g v, (vf_upd ((vf_upd (m_fl v) ((2 * k1)) (FP.fconst0))) (((2 * k1) + 1)) (FP.fconst0)), m_ch v, m_sv v, m_why v, m_det v, m_li v, m_ld v, m_wt v, m_wm v, m_ln v, m_lz v, m_in v, m_ty v, m_he v, m_wa v, m_fa v, m_cm v, m_cz v)) := (by simp only [F_grs, mRef, mGF, ixI, c5_1, hclk1, eq_true c19_2, c30_7, c56_9, c70_10, p_in, p_worn, p_wi, p_creak, p_le0, p_lt1, p_rng, pmT, pmC, p_eq0, not_true_eq_false, not_false_eq_true, if_true, if_false, and_true, true_and, and_false, false_and, or_true, true_or, or_false, false_or, and_self, or_self, iff_true, true_iff, iff_false, false_iff, decide_eq_true_eq, decide_true, decide_false, Int32.add_zero, Nat.add_zero, ne_eq, Bool.false_eq_true, eq_self])
            exact zIret () hx hb hr hlocks hK (by show va_P D vwCl (MW ct o (F_grs y v (nI k1)).2 R) H; rw [e9]; exact hP) (by show va_D A (MW ct o (F_grs y v (nI k1)).2 R); rw [e9]; exact hD) hS dX11_greases_101 (show nI ((0 + 1)) = (F_grs y v (nI k1)).1 from (by rw [e9]))
        · skip
          refine lv_iconst (v := nI (1)) hx hb dX11_greases_59 (by decide) ?_
          refine lv_goto (tgt := 64) hx hb dX11_greases_60 (by decide) ?_
          refine lv_aload_n hx hb dX11_greases_64 rfl (lv_at hl 0 rfl) ?_
          refine lv_iload_n hx hb dX11_greases_65 rfl (lv_at hl 1 rfl) ?_
          refine lv_iconst (v := nI (1)) hx hb dX11_greases_66 (by decide) ?_
          refine zVI [.int (nI (k1)), .int (nI (1))] [.int (nI (1))] (kX11_isWorn (o) (v) (R) (k1) (nI (1)) (show (k1) < 4 from by omega)) hx hb hml hown hts (cwV 2 hts gX11_greases_X11_isWorn rfl rfl rfl (by decide +kernel) ⟨(Nat.le_of_ble_eq_true rfl), (Nat.le_of_ble_eq_true rfl)⟩) hK hP hD hS hA (va_recv hK hP (ci := 10) (q0 := 0) rfl rfl) rfl hl.1 rfl (Nat.le_of_ble_eq_true rfl) dX11_greases_67 ⟨(Nat.le_of_ble_eq_true rfl), (Nat.le_of_ble_eq_true rfl)⟩ (fun r_67 _ H locs hr_67 hP hD hS => ?_)
          subst hr_67
          have hP : va_P D vwCl (MW ct o v R) H := hP
          have hD : va_D A (MW ct o v R) := hD
          refine zB_if_eq (tgt := 77) hx hb dX11_greases_70 (by decide) (fun c70_11 => ?_) (fun c70_11 => ?_)
          · skip
            refine lv_iconst (v := nI (0)) hx hb dX11_greases_77 (by decide) ?_
            refine zNadd hx hb dX11_greases_78 ?_
            refine lv_istore_n (lv' := [(2, .int (nI ((1 + 0)))), (0, .ref (o 0)), (1, .int (nI (k1)))]) hx hb dX11_greases_79 rfl hl (by decide) rfl (fun ls hl => ?_)
            refine lv_aload_n hx hb dX11_greases_80 rfl (lv_at hl 1 rfl) ?_
            refine va_get (ci := 10) (v := .ref (o 2)) hx hb hts h_X11 hown hK hP 0 rfl rfl 1 (by decide) f13 (fun _ h9 => h9) rfl dX11_greases_81 ?_
            refine lv_iconst (v := nI (2)) hx hb dX11_greases_84 (by decide) ?_
            refine lv_iload_n hx hb dX11_greases_85 rfl (lv_at hl 2 rfl) ?_
            refine zNmul hx hb dX11_greases_86 ?_
            refine lv_fconst0 hx hb dX11_greases_87 ?_
            refine zFast (n := 108) (f := m_fl v) (i := (2 * k1)) hx hb hK hP hD hS 2 rfl (by omega) (by decide) dX11_greases_88 (fun H locs hP hD hS => ?_)
            have hP : va_P D vwCl (MW ct o (m_g v, (vf_upd (m_fl v) ((2 * k1)) (FP.fconst0)), m_ch v, m_sv v, m_why v, m_det v, m_li v, m_ld v, m_wt v, m_wm v, m_ln v, m_lz v, m_in v, m_ty v, m_he v, m_wa v, m_fa v, m_cm v, m_cz v) R) H := hP
            have hD : va_D A (MW ct o (m_g v, (vf_upd (m_fl v) ((2 * k1)) (FP.fconst0)), m_ch v, m_sv v, m_why v, m_det v, m_li v, m_ld v, m_wt v, m_wm v, m_ln v, m_lz v, m_in v, m_ty v, m_he v, m_wa v, m_fa v, m_cm v, m_cz v) R) := hD
            refine lv_aload_n hx hb dX11_greases_89 rfl (lv_at hl 1 rfl) ?_
            refine va_get (ci := 10) (v := .ref (o 2)) hx hb hts h_X11 hown hK hP 0 rfl rfl 1 (by decide) f13 (fun _ h9 => h9) rfl dX11_greases_90 ?_
            refine lv_iconst (v := nI (2)) hx hb dX11_greases_93 (by decide) ?_
            refine lv_iload_n hx hb dX11_greases_94 rfl (lv_at hl 2 rfl) ?_
            refine zNmul hx hb dX11_greases_95 ?_
            refine lv_iconst (v := nI (1)) hx hb dX11_greases_96 (by decide) ?_
            refine zNadd hx hb dX11_greases_97 ?_
            refine lv_fconst0 hx hb dX11_greases_98 ?_
            refine zFast (n := 108) (f := (vf_upd (m_fl v) ((2 * k1)) (FP.fconst0))) (i := ((2 * k1) + 1)) hx hb hK hP hD hS 2 rfl (by omega) (by decide) dX11_greases_99 (fun H locs hP hD hS => ?_)
            have hP : va_P D vwCl (MW ct o (m_g v, (vf_upd ((vf_upd (m_fl v) ((2 * k1)) (FP.fconst0))) (((2 * k1) + 1)) (FP.fconst0)), m_ch v, m_sv v, m_why v, m_det v, m_li v, m_ld v, m_wt v, m_wm v, m_ln v, m_lz v, m_in v, m_ty v, m_he v, m_wa v, m_fa v, m_cm v, m_cz v) R) H := hP
            have hD : va_D A (MW ct o (m_g v, (vf_upd ((vf_upd (m_fl v) ((2 * k1)) (FP.fconst0))) (((2 * k1) + 1)) (FP.fconst0)), m_ch v, m_sv v, m_why v, m_det v, m_li v, m_ld v, m_wt v, m_wm v, m_ln v, m_lz v, m_in v, m_ty v, m_he v, m_wa v, m_fa v, m_cm v, m_cz v) R) := hD
            refine lv_iload_n hx hb dX11_greases_100 rfl (lv_at hl 0 rfl) ?_
            have e9 : F_grs y v (nI k1) = (nI ((1 + 0)), (m_g v, (vf_upd ((vf_upd (m_fl v) ((2 * k1)) (FP.fconst0))) (((2 * k1) + 1)) (FP.fconst0)), m_ch v, m_sv v, m_why v, m_det v, m_li v, m_ld v, m_wt v, m_wm v, m_ln v, m_lz v, m_in v, m_ty v, m_he v, m_wa v, m_fa v, m_cm v, m_cz v)) := (by simp only [F_grs, mRef, mGF, ixI, c5_1, hclk1, eq_true c19_2, c30_7, c56_9, c70_11, p_in, p_worn, p_wi, p_creak, p_le0, p_lt1, p_rng, pmT, pmC, p_eq0, not_true_eq_false, not_false_eq_true, if_true, if_false, and_true, true_and, and_false, false_and, or_true, true_or, or_false, false_or, and_self, or_self, iff_true, true_iff, iff_false, false_iff, decide_eq_true_eq, decide_true, decide_false, Int32.add_zero, Nat.add_zero, ne_eq, Bool.false_eq_true, eq_self])
            exact zIret () hx hb hr hlocks hK (by show va_P D vwCl (MW ct o (F_grs y v (nI k1)).2 R) H; rw [e9]; exact hP) (by show va_D A (MW ct o (F_grs y v (nI k1)).2 R); rw [e9]; exact hD) hS dX11_greases_101 (show nI ((1 + 0)) = (F_grs y v (nI k1)).1 from (by rw [e9]))
          · skip
            refine lv_iconst (v := nI (1)) hx hb dX11_greases_73 (by decide) ?_
            refine lv_goto (tgt := 78) hx hb dX11_greases_74 (by decide) ?_
            refine zNadd hx hb dX11_greases_78 ?_
            refine lv_istore_n (lv' := [(2, .int (nI ((1 + 1)))), (0, .ref (o 0)), (1, .int (nI (k1)))]) hx hb dX11_greases_79 rfl hl (by decide) rfl (fun ls hl => ?_)
            refine lv_aload_n hx hb dX11_greases_80 rfl (lv_at hl 1 rfl) ?_
            refine va_get (ci := 10) (v := .ref (o 2)) hx hb hts h_X11 hown hK hP 0 rfl rfl 1 (by decide) f13 (fun _ h9 => h9) rfl dX11_greases_81 ?_
            refine lv_iconst (v := nI (2)) hx hb dX11_greases_84 (by decide) ?_
            refine lv_iload_n hx hb dX11_greases_85 rfl (lv_at hl 2 rfl) ?_
            refine zNmul hx hb dX11_greases_86 ?_
            refine lv_fconst0 hx hb dX11_greases_87 ?_
            refine zFast (n := 108) (f := m_fl v) (i := (2 * k1)) hx hb hK hP hD hS 2 rfl (by omega) (by decide) dX11_greases_88 (fun H locs hP hD hS => ?_)
            have hP : va_P D vwCl (MW ct o (m_g v, (vf_upd (m_fl v) ((2 * k1)) (FP.fconst0)), m_ch v, m_sv v, m_why v, m_det v, m_li v, m_ld v, m_wt v, m_wm v, m_ln v, m_lz v, m_in v, m_ty v, m_he v, m_wa v, m_fa v, m_cm v, m_cz v) R) H := hP
            have hD : va_D A (MW ct o (m_g v, (vf_upd (m_fl v) ((2 * k1)) (FP.fconst0)), m_ch v, m_sv v, m_why v, m_det v, m_li v, m_ld v, m_wt v, m_wm v, m_ln v, m_lz v, m_in v, m_ty v, m_he v, m_wa v, m_fa v, m_cm v, m_cz v) R) := hD
            refine lv_aload_n hx hb dX11_greases_89 rfl (lv_at hl 1 rfl) ?_
            refine va_get (ci := 10) (v := .ref (o 2)) hx hb hts h_X11 hown hK hP 0 rfl rfl 1 (by decide) f13 (fun _ h9 => h9) rfl dX11_greases_90 ?_
            refine lv_iconst (v := nI (2)) hx hb dX11_greases_93 (by decide) ?_
            refine lv_iload_n hx hb dX11_greases_94 rfl (lv_at hl 2 rfl) ?_
            refine zNmul hx hb dX11_greases_95 ?_
            refine lv_iconst (v := nI (1)) hx hb dX11_greases_96 (by decide) ?_
            refine zNadd hx hb dX11_greases_97 ?_
            refine lv_fconst0 hx hb dX11_greases_98 ?_
            refine zFast (n := 108) (f := (vf_upd (m_fl v) ((2 * k1)) (FP.fconst0))) (i := ((2 * k1) + 1)) hx hb hK hP hD hS 2 rfl (by omega) (by decide) dX11_greases_99 (fun H locs hP hD hS => ?_)
            have hP : va_P D vwCl (MW ct o (m_g v, (vf_upd ((vf_upd (m_fl v) ((2 * k1)) (FP.fconst0))) (((2 * k1) + 1)) (FP.fconst0)), m_ch v, m_sv v, m_why v, m_det v, m_li v, m_ld v, m_wt v, m_wm v, m_ln v, m_lz v, m_in v, m_ty v, m_he v, m_wa v, m_fa v, m_cm v, m_cz v) R) H := hP
            have hD : va_D A (MW ct o (m_g v, (vf_upd ((vf_upd (m_fl v) ((2 * k1)) (FP.fconst0))) (((2 * k1) + 1)) (FP.fconst0)), m_ch v, m_sv v, m_why v, m_det v, m_li v, m_ld v, m_wt v, m_wm v, m_ln v, m_lz v, m_in v, m_ty v, m_he v, m_wa v, m_fa v, m_cm v, m_cz v) R) := hD
            refine lv_iload_n hx hb dX11_greases_100 rfl (lv_at hl 0 rfl) ?_
            have e9 : F_grs y v (nI k1) = (nI ((1 + 1)), (m_g v, (vf_upd ((vf_upd (m_fl v) ((2 * k1)) (FP.fconst0))) (((2 * k1) + 1)) (FP.fconst0)), m_ch v, m_sv v, m_why v, m_det v, m_li v, m_ld v, m_wt v, m_wm v, m_ln v, m_lz v, m_in v, m_ty v, m_he v, m_wa v, m_fa v, m_cm v, m_cz v)) := (by simp only [F_grs, mRef, mGF, ixI, c5_1, hclk1, eq_true c19_2, c30_7, c56_9, c70_11, p_in, p_worn, p_wi, p_creak, p_le0, p_lt1, p_rng, pmT, pmC, p_eq0, not_true_eq_false, not_false_eq_true, if_true, if_false, and_true, true_and, and_false, false_and, or_true, true_or, or_false, false_or, and_self, or_self, iff_true, true_iff, iff_false, false_iff, decide_eq_true_eq, decide_true, decide_false, Int32.add_zero, Nat.add_zero, ne_eq, Bool.false_eq_true, eq_self])
            exact zIret () hx hb hr hlocks hK (by show va_P D vwCl (MW ct o (F_grs y v (nI k1)).2 R) H; rw [e9]; exact hP) (by show va_D A (MW ct o (F_grs y v (nI k1)).2 R); rw [e9]; exact hD) hS dX11_greases_101 (show nI ((1 + 1)) = (F_grs y v (nI k1)).1 from (by rw [e9]))
      · skip
        refine lv_iconst (v := nI (1)) hx hb dX11_greases_33 (by decide) ?_
        refine lv_goto (tgt := 38) hx hb dX11_greases_34 (by decide) ?_
        refine lv_bipush (v := nI (11)) hx hb dX11_greases_38 (by decide) ?_
        refine lv_iload_n hx hb dX11_greases_40 rfl (lv_at hl 1 rfl) ?_
        refine zVI [.int (nI (1)), .int (nI (11)), .int (nI (k1))] [] (kX11_refuses_t (o) (v) (R) (nI (11)) (nI (k1))) hx hb hml hown hts (cwV 3 hts gX11_greases_X11_refuses rfl rfl rfl (by decide +kernel) ⟨(Nat.le_of_ble_eq_true rfl), (Nat.le_of_ble_eq_true rfl)⟩) hK hP hD hS hA (va_recv hK hP (ci := 10) (q0 := 0) rfl rfl) rfl hl.1 rfl (Nat.le_of_ble_eq_true rfl) dX11_greases_41 ⟨(Nat.le_of_ble_eq_true rfl), (Nat.le_of_ble_eq_true rfl)⟩ (fun r_41 _ H locs hr_41 hP hD hS => ?_)
        subst hr_41
        have hP : va_P D vwCl (MW ct o ((m_g v), (m_fl v), (m_ch v), (m_sv v), (nI (11)), (nI (k1)), (nI (0)), (m_ld v), (m_wt v), (m_wm v), (m_ln v), (m_lz v), (m_in v), (m_ty v), (m_he v), (m_wa v), (m_fa v), (m_cm v), (m_cz v)) R) H := hP
        have hD : va_D A (MW ct o ((m_g v), (m_fl v), (m_ch v), (m_sv v), (nI (11)), (nI (k1)), (nI (0)), (m_ld v), (m_wt v), (m_wm v), (m_ln v), (m_lz v), (m_in v), (m_ty v), (m_he v), (m_wa v), (m_fa v), (m_cm v), (m_cz v)) R) := hD
        refine lv_if_eq (tgt := 50) hx hb dX11_greases_44 (by decide) (fun c9 => absurd c9 (by decide)) (fun c9 => ?_)
        refine lv_bipush (v := (-3)) hx hb dX11_greases_47 (by decide) ?_
        have e9 : F_grs y v (nI k1) = ((-3), ((m_g v), (m_fl v), (m_ch v), (m_sv v), (nI (11)), (nI (k1)), (nI (0)), (m_ld v), (m_wt v), (m_wm v), (m_ln v), (m_lz v), (m_in v), (m_ty v), (m_he v), (m_wa v), (m_fa v), (m_cm v), (m_cz v))) := (by simp only [F_grs, mRef, mGF, ixI, c5_1, hclk1, eq_true c19_2, eq_true c30_7, p_in, p_worn, p_wi, p_creak, p_le0, p_lt1, p_rng, pmT, pmC, p_eq0, not_true_eq_false, not_false_eq_true, if_true, if_false, and_true, true_and, and_false, false_and, or_true, true_or, or_false, false_or, and_self, or_self, iff_true, true_iff, iff_false, false_iff, decide_eq_true_eq, decide_true, decide_false, Int32.add_zero, Nat.add_zero, ne_eq, Bool.false_eq_true, eq_self])
        exact zIret () hx hb hr hlocks hK (by show va_P D vwCl (MW ct o (F_grs y v (nI k1)).2 R) H; rw [e9]; exact hP) (by show va_D A (MW ct o (F_grs y v (nI k1)).2 R); rw [e9]; exact hD) hS dX11_greases_49 (show (-3) = (F_grs y v (nI k1)).1 from (by rw [e9]))
  · skip
    refine lv_iconst (v := (-1)) hx hb dX11_greases_8 (by decide) ?_
    have e9 : F_grs y v x1 = ((-1), v) := (by simp only [F_grs, mRef, mGF, ixI, c5_1, p_in, p_worn, p_wi, p_creak, p_le0, p_lt1, p_rng, pmT, pmC, p_eq0, not_true_eq_false, not_false_eq_true, if_true, if_false, and_true, true_and, and_false, false_and, or_true, true_or, or_false, false_or, and_self, or_self, iff_true, true_iff, iff_false, false_iff, decide_eq_true_eq, decide_true, decide_false, Int32.add_zero, Nat.add_zero, ne_eq, Bool.false_eq_true, eq_self])
    exact zIret () hx hb hr hlocks hK (by show va_P D vwCl (MW ct o (F_grs y v x1).2 R) H; rw [e9]; exact hP) (by show va_D A (MW ct o (F_grs y v x1).2 R); rw [e9]; exact hD) hS dX11_greases_9 (show (-1) = (F_grs y v x1).1 from (by rw [e9]))
abbrev rmX11_premise : Room := { frames := 2, cells := 0, slots := 0, locals := 47 }
set_option maxHeartbeats 4000000 in
set_option maxRecDepth 100000 in
theorem kX11_premise {D : va_G} {ct : Nat → ClassId} {l : Launch} (o : Nat → Nat) (v : MS) (R : va_W) (x1 : Int32) (y : YS) (hB : y_n y ≤ 12 ∧ y_cn y ≤ 4 ∧ y_rn y ≤ 5) (hq : RelI y (m_g v)) (hch : m_ch v ≤ 8) : MI D ct l yX11_premise wsX11_premise rmX11_premise (MW ct o v R) [.ref (o 0), .int (x1)] (fun r0 (_ : Unit) => r0 = (F_ch (F_adds y (F_beg v) (nI (0)) x1)).1) (fun _ : Unit => MW ct o (F_ch (F_adds y (F_beg v) (nI (0)) x1)).2 R) := by
  refine MIof (cc := cX11_premise) (maxL := 2) (ret := (some .int)) (by decide) rfl (Nat.le_of_ble_eq_true rfl) ?_
  intro p e s m args below meth c A H locs F hP hK hD hS hA ls hl
  obtain ⟨hx, hb, hr, hlocks, hml, hown, hts, hin⟩ := F
  have hl : lv_has ls 2 [(0, .ref (o 0)), (1, .int (x1))] := hl
  have hn : y_n y ≤ 12 := hB.1
  have hcn : y_cn y ≤ 4 := hB.2.1
  have hrn : y_rn y ≤ 5 := hB.2.2
  refine lv_aload_n hx hb dX11_premise_0 rfl (lv_at hl 0 rfl) ?_
  refine zVV [] [] (kX11_begins (o) (v) (R)) hx hb hml hown hts (cwV 0 hts gX11_premise_X11_begins rfl rfl rfl (by decide +kernel) ⟨(Nat.le_of_ble_eq_true rfl), (Nat.le_of_ble_eq_true rfl)⟩) hK hP hD hS hA (va_recv hK hP (ci := 10) (q0 := 0) rfl rfl) rfl hl.1 rfl (Nat.le_of_ble_eq_true rfl) dX11_premise_1 ⟨(Nat.le_of_ble_eq_true rfl), (Nat.le_of_ble_eq_true rfl)⟩ (fun _ H locs hr_1 hP hD hS => ?_)
  have hP : va_P D vwCl (MW ct o ((cpb (m_g v) 81 0 10 81), (cpf (m_fl v) 9 0 10 9), (m_ch v), (m_sv v), (m_why v), (m_det v), (m_li v), (m_ld v), (m_wt v), (m_wm v), (m_ln v), (m_lz v), (m_in v), (m_ty v), (m_he v), (m_wa v), (m_fa v), (m_cm v), (m_cz v)) R) H := hP
  have hD : va_D A (MW ct o ((cpb (m_g v) 81 0 10 81), (cpf (m_fl v) 9 0 10 9), (m_ch v), (m_sv v), (m_why v), (m_det v), (m_li v), (m_ld v), (m_wt v), (m_wm v), (m_ln v), (m_lz v), (m_in v), (m_ty v), (m_he v), (m_wa v), (m_fa v), (m_cm v), (m_cz v)) R) := hD
  refine lv_aload_n hx hb dX11_premise_4 rfl (lv_at hl 0 rfl) ?_
  refine lv_aload_n hx hb dX11_premise_5 rfl (lv_at hl 0 rfl) ?_
  refine lv_iconst (v := nI (0)) hx hb dX11_premise_6 (by decide) ?_
  refine lv_iload_n hx hb dX11_premise_7 rfl (lv_at hl 1 rfl) ?_
  refine zVI [.int (nI (0)), .int (x1)] [.ref (o 0)] (kX11_adds (o) (((cpb (m_g v) 81 0 10 81), (cpf (m_fl v) 9 0 10 9), (m_ch v), (m_sv v), (m_why v), (m_det v), (m_li v), (m_ld v), (m_wt v), (m_wm v), (m_ln v), (m_lz v), (m_in v), (m_ty v), (m_he v), (m_wa v), (m_fa v), (m_cm v), (m_cz v))) (R) (nI (0)) (x1) (y) (show y_n (y) ≤ 12 ∧ y_cn (y) ≤ 4 ∧ y_rn (y) ≤ 5 from hB) (show RelI (y) ((cpb (m_g v) 81 0 10 81)) from RelI_cpb hB hq (by decide))) hx hb hml hown hts (cwV 2 hts gX11_premise_X11_adds rfl rfl rfl (by decide +kernel) ⟨(Nat.le_of_ble_eq_true rfl), (Nat.le_of_ble_eq_true rfl)⟩) hK hP hD hS hA (va_recv hK hP (ci := 10) (q0 := 0) rfl rfl) rfl hl.1 rfl (Nat.le_of_ble_eq_true rfl) dX11_premise_8 ⟨(Nat.le_of_ble_eq_true rfl), (Nat.le_of_ble_eq_true rfl)⟩ (fun r_8 _ H locs hr_8 hP hD hS => ?_)
  subst hr_8
  have hP : va_P D vwCl (MW ct o (F_adds (y) ((cpb (m_g v) 81 0 10 81), (cpf (m_fl v) 9 0 10 9), (m_ch v), (m_sv v), (m_why v), (m_det v), (m_li v), (m_ld v), (m_wt v), (m_wm v), (m_ln v), (m_lz v), (m_in v), (m_ty v), (m_he v), (m_wa v), (m_fa v), (m_cm v), (m_cz v)) (nI (0)) (x1)).2 R) H := hP
  have hD : va_D A (MW ct o (F_adds (y) ((cpb (m_g v) 81 0 10 81), (cpf (m_fl v) 9 0 10 9), (m_ch v), (m_sv v), (m_why v), (m_det v), (m_li v), (m_ld v), (m_wt v), (m_wm v), (m_ln v), (m_lz v), (m_in v), (m_ty v), (m_he v), (m_wa v), (m_fa v), (m_cm v), (m_cz v)) (nI (0)) (x1)).2 R) := hD
  refine zVI [.int (((F_adds (y) ((cpb (m_g v) 81 0 10 81), (cpf (m_fl v) 9 0 10 9), (m_ch v), (m_sv v), (m_why v), (m_det v), (m_li v), (m_ld v), (m_wt v), (m_wm v), (m_ln v), (m_lz v), (m_in v), (m_ty v), (m_he v), (m_wa v), (m_fa v), (m_cm v), (m_cz v)) (nI (0)) (x1)).1))] [] (kX11_ends (o) ((F_adds (y) ((cpb (m_g v) 81 0 10 81), (cpf (m_fl v) 9 0 10 9), (m_ch v), (m_sv v), (m_why v), (m_det v), (m_li v), (m_ld v), (m_wt v), (m_wm v), (m_ln v), (m_lz v), (m_in v), (m_ty v), (m_he v), (m_wa v), (m_fa v), (m_cm v), (m_cz v)) (nI (0)) (x1)).2) (R) (((F_adds (y) ((cpb (m_g v) 81 0 10 81), (cpf (m_fl v) 9 0 10 9), (m_ch v), (m_sv v), (m_why v), (m_det v), (m_li v), (m_ld v), (m_wt v), (m_wm v), (m_ln v), (m_lz v), (m_in v), (m_ty v), (m_he v), (m_wa v), (m_fa v), (m_cm v), (m_cz v)) (nI (0)) (x1)).1)) (show (m_ch (F_adds (y) ((cpb (m_g v) 81 0 10 81), (cpf (m_fl v) 9 0 10 9), (m_ch v), (m_sv v), (m_why v), (m_det v), (m_li v), (m_ld v), (m_wt v), (m_wm v), (m_ln v), (m_lz v), (m_in v), (m_ty v), (m_he v), (m_wa v), (m_fa v), (m_cm v), (m_cz v)) (nI (0)) (x1)).2) ≤ 8 from adds_ch hch)) hx hb hml hown hts (cwV 1 hts gX11_premise_X11_ends rfl rfl rfl (by decide +kernel) ⟨(Nat.le_of_ble_eq_true rfl), (Nat.le_of_ble_eq_true rfl)⟩) hK hP hD hS hA (va_recv hK hP (ci := 10) (q0 := 0) rfl rfl) rfl hl.1 rfl (Nat.le_of_ble_eq_true rfl) dX11_premise_11 ⟨(Nat.le_of_ble_eq_true rfl), (Nat.le_of_ble_eq_true rfl)⟩ (fun r_11 _ H locs hr_11 hP hD hS => ?_)
  subst hr_11
  have hP : va_P D vwCl (MW ct o (F_ends (F_adds (y) ((cpb (m_g v) 81 0 10 81), (cpf (m_fl v) 9 0 10 9), (m_ch v), (m_sv v), (m_why v), (m_det v), (m_li v), (m_ld v), (m_wt v), (m_wm v), (m_ln v), (m_lz v), (m_in v), (m_ty v), (m_he v), (m_wa v), (m_fa v), (m_cm v), (m_cz v)) (nI (0)) (x1)).2 (((F_adds (y) ((cpb (m_g v) 81 0 10 81), (cpf (m_fl v) 9 0 10 9), (m_ch v), (m_sv v), (m_why v), (m_det v), (m_li v), (m_ld v), (m_wt v), (m_wm v), (m_ln v), (m_lz v), (m_in v), (m_ty v), (m_he v), (m_wa v), (m_fa v), (m_cm v), (m_cz v)) (nI (0)) (x1)).1))).2 R) H := hP
  have hD : va_D A (MW ct o (F_ends (F_adds (y) ((cpb (m_g v) 81 0 10 81), (cpf (m_fl v) 9 0 10 9), (m_ch v), (m_sv v), (m_why v), (m_det v), (m_li v), (m_ld v), (m_wt v), (m_wm v), (m_ln v), (m_lz v), (m_in v), (m_ty v), (m_he v), (m_wa v), (m_fa v), (m_cm v), (m_cz v)) (nI (0)) (x1)).2 (((F_adds (y) ((cpb (m_g v) 81 0 10 81), (cpf (m_fl v) 9 0 10 9), (m_ch v), (m_sv v), (m_why v), (m_det v), (m_li v), (m_ld v), (m_wt v), (m_wm v), (m_ln v), (m_lz v), (m_in v), (m_ty v), (m_he v), (m_wa v), (m_fa v), (m_cm v), (m_cz v)) (nI (0)) (x1)).1))).2 R) := hD
  have e9 : F_ch (F_adds y (F_beg v) (nI (0)) x1) = (((F_ends (F_adds (y) ((cpb (m_g v) 81 0 10 81), (cpf (m_fl v) 9 0 10 9), (m_ch v), (m_sv v), (m_why v), (m_det v), (m_li v), (m_ld v), (m_wt v), (m_wm v), (m_ln v), (m_lz v), (m_in v), (m_ty v), (m_he v), (m_wa v), (m_fa v), (m_cm v), (m_cz v)) (nI (0)) (x1)).2 (((F_adds (y) ((cpb (m_g v) 81 0 10 81), (cpf (m_fl v) 9 0 10 9), (m_ch v), (m_sv v), (m_why v), (m_det v), (m_li v), (m_ld v), (m_wt v), (m_wm v), (m_ln v), (m_lz v), (m_in v), (m_ty v), (m_he v), (m_wa v), (m_fa v), (m_cm v), (m_cz v)) (nI (0)) (x1)).1))).1), (F_ends (F_adds (y) ((cpb (m_g v) 81 0 10 81), (cpf (m_fl v) 9 0 10 9), (m_ch v), (m_sv v), (m_why v), (m_det v), (m_li v), (m_ld v), (m_wt v), (m_wm v), (m_ln v), (m_lz v), (m_in v), (m_ty v), (m_he v), (m_wa v), (m_fa v), (m_cm v), (m_cz v)) (nI (0)) (x1)).2 (((F_adds (y) ((cpb (m_g v) 81 0 10 81), (cpf (m_fl v) 9 0 10 9), (m_ch v), (m_sv v), (m_why v), (m_det v), (m_li v), (m_ld v), (m_wt v), (m_wm v), (m_ln v), (m_lz v), (m_in v), (m_ty v), (m_he v), (m_wa v), (m_fa v), (m_cm v), (m_cz v)) (nI (0)) (x1)).1))).2) := rfl
  exact zIret () hx hb hr hlocks hK (by show va_P D vwCl (MW ct o (F_ch (F_adds y (F_beg v) (nI (0)) x1)).2 R) H; rw [e9]; exact hP) (by show va_D A (MW ct o (F_ch (F_adds y (F_beg v) (nI (0)) x1)).2 R); rw [e9]; exact hD) hS dX11_premise_14 (show ((F_ends (F_adds (y) ((cpb (m_g v) 81 0 10 81), (cpf (m_fl v) 9 0 10 9), (m_ch v), (m_sv v), (m_why v), (m_det v), (m_li v), (m_ld v), (m_wt v), (m_wm v), (m_ln v), (m_lz v), (m_in v), (m_ty v), (m_he v), (m_wa v), (m_fa v), (m_cm v), (m_cz v)) (nI (0)) (x1)).2 (((F_adds (y) ((cpb (m_g v) 81 0 10 81), (cpf (m_fl v) 9 0 10 9), (m_ch v), (m_sv v), (m_why v), (m_det v), (m_li v), (m_ld v), (m_wt v), (m_wm v), (m_ln v), (m_lz v), (m_in v), (m_ty v), (m_he v), (m_wa v), (m_fa v), (m_cm v), (m_cz v)) (nI (0)) (x1)).1))).1) = (F_ch (F_adds y (F_beg v) (nI (0)) x1)).1 from (by rw [e9]))
abbrev rmX11_conclusion : Room := { frames := 2, cells := 0, slots := 0, locals := 47 }
set_option maxHeartbeats 4000000 in
set_option maxRecDepth 100000 in
theorem kX11_conclusion {D : va_G} {ct : Nat → ClassId} {l : Launch} (o : Nat → Nat) (v : MS) (R : va_W) (x1 : Int32) (y : YS) (hB : y_n y ≤ 12 ∧ y_cn y ≤ 4 ∧ y_rn y ≤ 5) (hq : RelI y (m_g v)) (hch : m_ch v ≤ 8) : MI D ct l yX11_conclusion wsX11_conclusion rmX11_conclusion (MW ct o v R) [.ref (o 0), .int (x1)] (fun r0 (_ : Unit) => r0 = (F_ch (F_adds y (F_beg v) (nI (1)) x1)).1) (fun _ : Unit => MW ct o (F_ch (F_adds y (F_beg v) (nI (1)) x1)).2 R) := by
  refine MIof (cc := cX11_conclusion) (maxL := 2) (ret := (some .int)) (by decide) rfl (Nat.le_of_ble_eq_true rfl) ?_
  intro p e s m args below meth c A H locs F hP hK hD hS hA ls hl
  obtain ⟨hx, hb, hr, hlocks, hml, hown, hts, hin⟩ := F
  have hl : lv_has ls 2 [(0, .ref (o 0)), (1, .int (x1))] := hl
  have hn : y_n y ≤ 12 := hB.1
  have hcn : y_cn y ≤ 4 := hB.2.1
  have hrn : y_rn y ≤ 5 := hB.2.2
  refine lv_aload_n hx hb dX11_conclusion_0 rfl (lv_at hl 0 rfl) ?_
  refine zVV [] [] (kX11_begins (o) (v) (R)) hx hb hml hown hts (cwV 0 hts gX11_conclusion_X11_begins rfl rfl rfl (by decide +kernel) ⟨(Nat.le_of_ble_eq_true rfl), (Nat.le_of_ble_eq_true rfl)⟩) hK hP hD hS hA (va_recv hK hP (ci := 10) (q0 := 0) rfl rfl) rfl hl.1 rfl (Nat.le_of_ble_eq_true rfl) dX11_conclusion_1 ⟨(Nat.le_of_ble_eq_true rfl), (Nat.le_of_ble_eq_true rfl)⟩ (fun _ H locs hr_1 hP hD hS => ?_)
  have hP : va_P D vwCl (MW ct o ((cpb (m_g v) 81 0 10 81), (cpf (m_fl v) 9 0 10 9), (m_ch v), (m_sv v), (m_why v), (m_det v), (m_li v), (m_ld v), (m_wt v), (m_wm v), (m_ln v), (m_lz v), (m_in v), (m_ty v), (m_he v), (m_wa v), (m_fa v), (m_cm v), (m_cz v)) R) H := hP
  have hD : va_D A (MW ct o ((cpb (m_g v) 81 0 10 81), (cpf (m_fl v) 9 0 10 9), (m_ch v), (m_sv v), (m_why v), (m_det v), (m_li v), (m_ld v), (m_wt v), (m_wm v), (m_ln v), (m_lz v), (m_in v), (m_ty v), (m_he v), (m_wa v), (m_fa v), (m_cm v), (m_cz v)) R) := hD
  refine lv_aload_n hx hb dX11_conclusion_4 rfl (lv_at hl 0 rfl) ?_
  refine lv_aload_n hx hb dX11_conclusion_5 rfl (lv_at hl 0 rfl) ?_
  refine lv_iconst (v := nI (1)) hx hb dX11_conclusion_6 (by decide) ?_
  refine lv_iload_n hx hb dX11_conclusion_7 rfl (lv_at hl 1 rfl) ?_
  refine zVI [.int (nI (1)), .int (x1)] [.ref (o 0)] (kX11_adds (o) (((cpb (m_g v) 81 0 10 81), (cpf (m_fl v) 9 0 10 9), (m_ch v), (m_sv v), (m_why v), (m_det v), (m_li v), (m_ld v), (m_wt v), (m_wm v), (m_ln v), (m_lz v), (m_in v), (m_ty v), (m_he v), (m_wa v), (m_fa v), (m_cm v), (m_cz v))) (R) (nI (1)) (x1) (y) (show y_n (y) ≤ 12 ∧ y_cn (y) ≤ 4 ∧ y_rn (y) ≤ 5 from hB) (show RelI (y) ((cpb (m_g v) 81 0 10 81)) from RelI_cpb hB hq (by decide))) hx hb hml hown hts (cwV 2 hts gX11_conclusion_X11_adds rfl rfl rfl (by decide +kernel) ⟨(Nat.le_of_ble_eq_true rfl), (Nat.le_of_ble_eq_true rfl)⟩) hK hP hD hS hA (va_recv hK hP (ci := 10) (q0 := 0) rfl rfl) rfl hl.1 rfl (Nat.le_of_ble_eq_true rfl) dX11_conclusion_8 ⟨(Nat.le_of_ble_eq_true rfl), (Nat.le_of_ble_eq_true rfl)⟩ (fun r_8 _ H locs hr_8 hP hD hS => ?_)
  subst hr_8
  have hP : va_P D vwCl (MW ct o (F_adds (y) ((cpb (m_g v) 81 0 10 81), (cpf (m_fl v) 9 0 10 9), (m_ch v), (m_sv v), (m_why v), (m_det v), (m_li v), (m_ld v), (m_wt v), (m_wm v), (m_ln v), (m_lz v), (m_in v), (m_ty v), (m_he v), (m_wa v), (m_fa v), (m_cm v), (m_cz v)) (nI (1)) (x1)).2 R) H := hP
  have hD : va_D A (MW ct o (F_adds (y) ((cpb (m_g v) 81 0 10 81), (cpf (m_fl v) 9 0 10 9), (m_ch v), (m_sv v), (m_why v), (m_det v), (m_li v), (m_ld v), (m_wt v), (m_wm v), (m_ln v), (m_lz v), (m_in v), (m_ty v), (m_he v), (m_wa v), (m_fa v), (m_cm v), (m_cz v)) (nI (1)) (x1)).2 R) := hD
  refine zVI [.int (((F_adds (y) ((cpb (m_g v) 81 0 10 81), (cpf (m_fl v) 9 0 10 9), (m_ch v), (m_sv v), (m_why v), (m_det v), (m_li v), (m_ld v), (m_wt v), (m_wm v), (m_ln v), (m_lz v), (m_in v), (m_ty v), (m_he v), (m_wa v), (m_fa v), (m_cm v), (m_cz v)) (nI (1)) (x1)).1))] [] (kX11_ends (o) ((F_adds (y) ((cpb (m_g v) 81 0 10 81), (cpf (m_fl v) 9 0 10 9), (m_ch v), (m_sv v), (m_why v), (m_det v), (m_li v), (m_ld v), (m_wt v), (m_wm v), (m_ln v), (m_lz v), (m_in v), (m_ty v), (m_he v), (m_wa v), (m_fa v), (m_cm v), (m_cz v)) (nI (1)) (x1)).2) (R) (((F_adds (y) ((cpb (m_g v) 81 0 10 81), (cpf (m_fl v) 9 0 10 9), (m_ch v), (m_sv v), (m_why v), (m_det v), (m_li v), (m_ld v), (m_wt v), (m_wm v), (m_ln v), (m_lz v), (m_in v), (m_ty v), (m_he v), (m_wa v), (m_fa v), (m_cm v), (m_cz v)) (nI (1)) (x1)).1)) (show (m_ch (F_adds (y) ((cpb (m_g v) 81 0 10 81), (cpf (m_fl v) 9 0 10 9), (m_ch v), (m_sv v), (m_why v), (m_det v), (m_li v), (m_ld v), (m_wt v), (m_wm v), (m_ln v), (m_lz v), (m_in v), (m_ty v), (m_he v), (m_wa v), (m_fa v), (m_cm v), (m_cz v)) (nI (1)) (x1)).2) ≤ 8 from adds_ch hch)) hx hb hml hown hts (cwV 1 hts gX11_conclusion_X11_ends rfl rfl rfl (by decide +kernel) ⟨(Nat.le_of_ble_eq_true rfl), (Nat.le_of_ble_eq_true rfl)⟩) hK hP hD hS hA (va_recv hK hP (ci := 10) (q0 := 0) rfl rfl) rfl hl.1 rfl (Nat.le_of_ble_eq_true rfl) dX11_conclusion_11 ⟨(Nat.le_of_ble_eq_true rfl), (Nat.le_of_ble_eq_true rfl)⟩ (fun r_11 _ H locs hr_11 hP hD hS => ?_)
  subst hr_11
  have hP : va_P D vwCl (MW ct o (F_ends (F_adds (y) ((cpb (m_g v) 81 0 10 81), (cpf (m_fl v) 9 0 10 9), (m_ch v), (m_sv v), (m_why v), (m_det v), (m_li v), (m_ld v), (m_wt v), (m_wm v), (m_ln v), (m_lz v), (m_in v), (m_ty v), (m_he v), (m_wa v), (m_fa v), (m_cm v), (m_cz v)) (nI (1)) (x1)).2 (((F_adds (y) ((cpb (m_g v) 81 0 10 81), (cpf (m_fl v) 9 0 10 9), (m_ch v), (m_sv v), (m_why v), (m_det v), (m_li v), (m_ld v), (m_wt v), (m_wm v), (m_ln v), (m_lz v), (m_in v), (m_ty v), (m_he v), (m_wa v), (m_fa v), (m_cm v), (m_cz v)) (nI (1)) (x1)).1))).2 R) H := hP
  have hD : va_D A (MW ct o (F_ends (F_adds (y) ((cpb (m_g v) 81 0 10 81), (cpf (m_fl v) 9 0 10 9), (m_ch v), (m_sv v), (m_why v), (m_det v), (m_li v), (m_ld v), (m_wt v), (m_wm v), (m_ln v), (m_lz v), (m_in v), (m_ty v), (m_he v), (m_wa v), (m_fa v), (m_cm v), (m_cz v)) (nI (1)) (x1)).2 (((F_adds (y) ((cpb (m_g v) 81 0 10 81), (cpf (m_fl v) 9 0 10 9), (m_ch v), (m_sv v), (m_why v), (m_det v), (m_li v), (m_ld v), (m_wt v), (m_wm v), (m_ln v), (m_lz v), (m_in v), (m_ty v), (m_he v), (m_wa v), (m_fa v), (m_cm v), (m_cz v)) (nI (1)) (x1)).1))).2 R) := hD
  have e9 : F_ch (F_adds y (F_beg v) (nI (1)) x1) = (((F_ends (F_adds (y) ((cpb (m_g v) 81 0 10 81), (cpf (m_fl v) 9 0 10 9), (m_ch v), (m_sv v), (m_why v), (m_det v), (m_li v), (m_ld v), (m_wt v), (m_wm v), (m_ln v), (m_lz v), (m_in v), (m_ty v), (m_he v), (m_wa v), (m_fa v), (m_cm v), (m_cz v)) (nI (1)) (x1)).2 (((F_adds (y) ((cpb (m_g v) 81 0 10 81), (cpf (m_fl v) 9 0 10 9), (m_ch v), (m_sv v), (m_why v), (m_det v), (m_li v), (m_ld v), (m_wt v), (m_wm v), (m_ln v), (m_lz v), (m_in v), (m_ty v), (m_he v), (m_wa v), (m_fa v), (m_cm v), (m_cz v)) (nI (1)) (x1)).1))).1), (F_ends (F_adds (y) ((cpb (m_g v) 81 0 10 81), (cpf (m_fl v) 9 0 10 9), (m_ch v), (m_sv v), (m_why v), (m_det v), (m_li v), (m_ld v), (m_wt v), (m_wm v), (m_ln v), (m_lz v), (m_in v), (m_ty v), (m_he v), (m_wa v), (m_fa v), (m_cm v), (m_cz v)) (nI (1)) (x1)).2 (((F_adds (y) ((cpb (m_g v) 81 0 10 81), (cpf (m_fl v) 9 0 10 9), (m_ch v), (m_sv v), (m_why v), (m_det v), (m_li v), (m_ld v), (m_wt v), (m_wm v), (m_ln v), (m_lz v), (m_in v), (m_ty v), (m_he v), (m_wa v), (m_fa v), (m_cm v), (m_cz v)) (nI (1)) (x1)).1))).2) := rfl
  exact zIret () hx hb hr hlocks hK (by show va_P D vwCl (MW ct o (F_ch (F_adds y (F_beg v) (nI (1)) x1)).2 R) H; rw [e9]; exact hP) (by show va_D A (MW ct o (F_ch (F_adds y (F_beg v) (nI (1)) x1)).2 R); rw [e9]; exact hD) hS dX11_conclusion_14 (show ((F_ends (F_adds (y) ((cpb (m_g v) 81 0 10 81), (cpf (m_fl v) 9 0 10 9), (m_ch v), (m_sv v), (m_why v), (m_det v), (m_li v), (m_ld v), (m_wt v), (m_wm v), (m_ln v), (m_lz v), (m_in v), (m_ty v), (m_he v), (m_wa v), (m_fa v), (m_cm v), (m_cz v)) (nI (1)) (x1)).2 (((F_adds (y) ((cpb (m_g v) 81 0 10 81), (cpf (m_fl v) 9 0 10 9), (m_ch v), (m_sv v), (m_why v), (m_det v), (m_li v), (m_ld v), (m_wt v), (m_wm v), (m_ln v), (m_lz v), (m_in v), (m_ty v), (m_he v), (m_wa v), (m_fa v), (m_cm v), (m_cz v)) (nI (1)) (x1)).1))).1) = (F_ch (F_adds y (F_beg v) (nI (1)) x1)).1 from (by rw [e9]))
abbrev rmX11_cart : Room := { frames := 2, cells := 0, slots := 0, locals := 45 }
set_option maxHeartbeats 4000000 in
set_option maxRecDepth 100000 in
theorem kX11_cart {D : va_G} {ct : Nat → ClassId} {l : Launch} (o : Nat → Nat) (v : MS) (R : va_W) (x1 : Int32) (y : YS) (hB : y_n y ≤ 12 ∧ y_cn y ≤ 4 ∧ y_rn y ≤ 5) (hq : RelI y (m_g v)) (hch : m_ch v ≤ 8) : MI D ct l yX11_cart wsX11_cart rmX11_cart (MW ct o v R) [.ref (o 0), .int (x1)] (fun r0 (_ : Unit) => r0 = (F_ch (F_addC y (F_beg v) x1)).1) (fun _ : Unit => MW ct o (F_ch (F_addC y (F_beg v) x1)).2 R) := by
  refine MIof (cc := cX11_cart) (maxL := 2) (ret := (some .int)) (by decide) rfl (Nat.le_of_ble_eq_true rfl) ?_
  intro p e s m args below meth c A H locs F hP hK hD hS hA ls hl
  obtain ⟨hx, hb, hr, hlocks, hml, hown, hts, hin⟩ := F
  have hl : lv_has ls 2 [(0, .ref (o 0)), (1, .int (x1))] := hl
  have hn : y_n y ≤ 12 := hB.1
  have hcn : y_cn y ≤ 4 := hB.2.1
  have hrn : y_rn y ≤ 5 := hB.2.2
  refine lv_aload_n hx hb dX11_cart_0 rfl (lv_at hl 0 rfl) ?_
  refine zVV [] [] (kX11_begins (o) (v) (R)) hx hb hml hown hts (cwV 0 hts gX11_cart_X11_begins rfl rfl rfl (by decide +kernel) ⟨(Nat.le_of_ble_eq_true rfl), (Nat.le_of_ble_eq_true rfl)⟩) hK hP hD hS hA (va_recv hK hP (ci := 10) (q0 := 0) rfl rfl) rfl hl.1 rfl (Nat.le_of_ble_eq_true rfl) dX11_cart_1 ⟨(Nat.le_of_ble_eq_true rfl), (Nat.le_of_ble_eq_true rfl)⟩ (fun _ H locs hr_1 hP hD hS => ?_)
  have hP : va_P D vwCl (MW ct o ((cpb (m_g v) 81 0 10 81), (cpf (m_fl v) 9 0 10 9), (m_ch v), (m_sv v), (m_why v), (m_det v), (m_li v), (m_ld v), (m_wt v), (m_wm v), (m_ln v), (m_lz v), (m_in v), (m_ty v), (m_he v), (m_wa v), (m_fa v), (m_cm v), (m_cz v)) R) H := hP
  have hD : va_D A (MW ct o ((cpb (m_g v) 81 0 10 81), (cpf (m_fl v) 9 0 10 9), (m_ch v), (m_sv v), (m_why v), (m_det v), (m_li v), (m_ld v), (m_wt v), (m_wm v), (m_ln v), (m_lz v), (m_in v), (m_ty v), (m_he v), (m_wa v), (m_fa v), (m_cm v), (m_cz v)) R) := hD
  refine lv_aload_n hx hb dX11_cart_4 rfl (lv_at hl 0 rfl) ?_
  refine lv_aload_n hx hb dX11_cart_5 rfl (lv_at hl 0 rfl) ?_
  refine lv_iload_n hx hb dX11_cart_6 rfl (lv_at hl 1 rfl) ?_
  refine zVI [.int (x1)] [.ref (o 0)] (kX11_addsCart (o) (((cpb (m_g v) 81 0 10 81), (cpf (m_fl v) 9 0 10 9), (m_ch v), (m_sv v), (m_why v), (m_det v), (m_li v), (m_ld v), (m_wt v), (m_wm v), (m_ln v), (m_lz v), (m_in v), (m_ty v), (m_he v), (m_wa v), (m_fa v), (m_cm v), (m_cz v))) (R) (x1) (y) (show y_n (y) ≤ 12 ∧ y_cn (y) ≤ 4 ∧ y_rn (y) ≤ 5 from hB) (show RelI (y) ((cpb (m_g v) 81 0 10 81)) from RelI_cpb hB hq (by decide))) hx hb hml hown hts (cwV 1 hts gX11_cart_X11_addsCart rfl rfl rfl (by decide +kernel) ⟨(Nat.le_of_ble_eq_true rfl), (Nat.le_of_ble_eq_true rfl)⟩) hK hP hD hS hA (va_recv hK hP (ci := 10) (q0 := 0) rfl rfl) rfl hl.1 rfl (Nat.le_of_ble_eq_true rfl) dX11_cart_7 ⟨(Nat.le_of_ble_eq_true rfl), (Nat.le_of_ble_eq_true rfl)⟩ (fun r_7 _ H locs hr_7 hP hD hS => ?_)
  subst hr_7
  have hP : va_P D vwCl (MW ct o (F_addC (y) ((cpb (m_g v) 81 0 10 81), (cpf (m_fl v) 9 0 10 9), (m_ch v), (m_sv v), (m_why v), (m_det v), (m_li v), (m_ld v), (m_wt v), (m_wm v), (m_ln v), (m_lz v), (m_in v), (m_ty v), (m_he v), (m_wa v), (m_fa v), (m_cm v), (m_cz v)) (x1)).2 R) H := hP
  have hD : va_D A (MW ct o (F_addC (y) ((cpb (m_g v) 81 0 10 81), (cpf (m_fl v) 9 0 10 9), (m_ch v), (m_sv v), (m_why v), (m_det v), (m_li v), (m_ld v), (m_wt v), (m_wm v), (m_ln v), (m_lz v), (m_in v), (m_ty v), (m_he v), (m_wa v), (m_fa v), (m_cm v), (m_cz v)) (x1)).2 R) := hD
  refine zVI [.int (((F_addC (y) ((cpb (m_g v) 81 0 10 81), (cpf (m_fl v) 9 0 10 9), (m_ch v), (m_sv v), (m_why v), (m_det v), (m_li v), (m_ld v), (m_wt v), (m_wm v), (m_ln v), (m_lz v), (m_in v), (m_ty v), (m_he v), (m_wa v), (m_fa v), (m_cm v), (m_cz v)) (x1)).1))] [] (kX11_ends (o) ((F_addC (y) ((cpb (m_g v) 81 0 10 81), (cpf (m_fl v) 9 0 10 9), (m_ch v), (m_sv v), (m_why v), (m_det v), (m_li v), (m_ld v), (m_wt v), (m_wm v), (m_ln v), (m_lz v), (m_in v), (m_ty v), (m_he v), (m_wa v), (m_fa v), (m_cm v), (m_cz v)) (x1)).2) (R) (((F_addC (y) ((cpb (m_g v) 81 0 10 81), (cpf (m_fl v) 9 0 10 9), (m_ch v), (m_sv v), (m_why v), (m_det v), (m_li v), (m_ld v), (m_wt v), (m_wm v), (m_ln v), (m_lz v), (m_in v), (m_ty v), (m_he v), (m_wa v), (m_fa v), (m_cm v), (m_cz v)) (x1)).1)) (show (m_ch (F_addC (y) ((cpb (m_g v) 81 0 10 81), (cpf (m_fl v) 9 0 10 9), (m_ch v), (m_sv v), (m_why v), (m_det v), (m_li v), (m_ld v), (m_wt v), (m_wm v), (m_ln v), (m_lz v), (m_in v), (m_ty v), (m_he v), (m_wa v), (m_fa v), (m_cm v), (m_cz v)) (x1)).2) ≤ 8 from addC_ch hch)) hx hb hml hown hts (cwV 1 hts gX11_cart_X11_ends rfl rfl rfl (by decide +kernel) ⟨(Nat.le_of_ble_eq_true rfl), (Nat.le_of_ble_eq_true rfl)⟩) hK hP hD hS hA (va_recv hK hP (ci := 10) (q0 := 0) rfl rfl) rfl hl.1 rfl (Nat.le_of_ble_eq_true rfl) dX11_cart_10 ⟨(Nat.le_of_ble_eq_true rfl), (Nat.le_of_ble_eq_true rfl)⟩ (fun r_10 _ H locs hr_10 hP hD hS => ?_)
  subst hr_10
  have hP : va_P D vwCl (MW ct o (F_ends (F_addC (y) ((cpb (m_g v) 81 0 10 81), (cpf (m_fl v) 9 0 10 9), (m_ch v), (m_sv v), (m_why v), (m_det v), (m_li v), (m_ld v), (m_wt v), (m_wm v), (m_ln v), (m_lz v), (m_in v), (m_ty v), (m_he v), (m_wa v), (m_fa v), (m_cm v), (m_cz v)) (x1)).2 (((F_addC (y) ((cpb (m_g v) 81 0 10 81), (cpf (m_fl v) 9 0 10 9), (m_ch v), (m_sv v), (m_why v), (m_det v), (m_li v), (m_ld v), (m_wt v), (m_wm v), (m_ln v), (m_lz v), (m_in v), (m_ty v), (m_he v), (m_wa v), (m_fa v), (m_cm v), (m_cz v)) (x1)).1))).2 R) H := hP
  have hD : va_D A (MW ct o (F_ends (F_addC (y) ((cpb (m_g v) 81 0 10 81), (cpf (m_fl v) 9 0 10 9), (m_ch v), (m_sv v), (m_why v), (m_det v), (m_li v), (m_ld v), (m_wt v), (m_wm v), (m_ln v), (m_lz v), (m_in v), (m_ty v), (m_he v), (m_wa v), (m_fa v), (m_cm v), (m_cz v)) (x1)).2 (((F_addC (y) ((cpb (m_g v) 81 0 10 81), (cpf (m_fl v) 9 0 10 9), (m_ch v), (m_sv v), (m_why v), (m_det v), (m_li v), (m_ld v), (m_wt v), (m_wm v), (m_ln v), (m_lz v), (m_in v), (m_ty v), (m_he v), (m_wa v), (m_fa v), (m_cm v), (m_cz v)) (x1)).1))).2 R) := hD
  have e9 : F_ch (F_addC y (F_beg v) x1) = (((F_ends (F_addC (y) ((cpb (m_g v) 81 0 10 81), (cpf (m_fl v) 9 0 10 9), (m_ch v), (m_sv v), (m_why v), (m_det v), (m_li v), (m_ld v), (m_wt v), (m_wm v), (m_ln v), (m_lz v), (m_in v), (m_ty v), (m_he v), (m_wa v), (m_fa v), (m_cm v), (m_cz v)) (x1)).2 (((F_addC (y) ((cpb (m_g v) 81 0 10 81), (cpf (m_fl v) 9 0 10 9), (m_ch v), (m_sv v), (m_why v), (m_det v), (m_li v), (m_ld v), (m_wt v), (m_wm v), (m_ln v), (m_lz v), (m_in v), (m_ty v), (m_he v), (m_wa v), (m_fa v), (m_cm v), (m_cz v)) (x1)).1))).1), (F_ends (F_addC (y) ((cpb (m_g v) 81 0 10 81), (cpf (m_fl v) 9 0 10 9), (m_ch v), (m_sv v), (m_why v), (m_det v), (m_li v), (m_ld v), (m_wt v), (m_wm v), (m_ln v), (m_lz v), (m_in v), (m_ty v), (m_he v), (m_wa v), (m_fa v), (m_cm v), (m_cz v)) (x1)).2 (((F_addC (y) ((cpb (m_g v) 81 0 10 81), (cpf (m_fl v) 9 0 10 9), (m_ch v), (m_sv v), (m_why v), (m_det v), (m_li v), (m_ld v), (m_wt v), (m_wm v), (m_ln v), (m_lz v), (m_in v), (m_ty v), (m_he v), (m_wa v), (m_fa v), (m_cm v), (m_cz v)) (x1)).1))).2) := rfl
  exact zIret () hx hb hr hlocks hK (by show va_P D vwCl (MW ct o (F_ch (F_addC y (F_beg v) x1)).2 R) H; rw [e9]; exact hP) (by show va_D A (MW ct o (F_ch (F_addC y (F_beg v) x1)).2 R); rw [e9]; exact hD) hS dX11_cart_13 (show ((F_ends (F_addC (y) ((cpb (m_g v) 81 0 10 81), (cpf (m_fl v) 9 0 10 9), (m_ch v), (m_sv v), (m_why v), (m_det v), (m_li v), (m_ld v), (m_wt v), (m_wm v), (m_ln v), (m_lz v), (m_in v), (m_ty v), (m_he v), (m_wa v), (m_fa v), (m_cm v), (m_cz v)) (x1)).2 (((F_addC (y) ((cpb (m_g v) 81 0 10 81), (cpf (m_fl v) 9 0 10 9), (m_ch v), (m_sv v), (m_why v), (m_det v), (m_li v), (m_ld v), (m_wt v), (m_wm v), (m_ln v), (m_lz v), (m_in v), (m_ty v), (m_he v), (m_wa v), (m_fa v), (m_cm v), (m_cz v)) (x1)).1))).1) = (F_ch (F_addC y (F_beg v) x1)).1 from (by rw [e9]))
abbrev rmX11_road : Room := { frames := 2, cells := 0, slots := 0, locals := 47 }
set_option maxHeartbeats 4000000 in
set_option maxRecDepth 100000 in
theorem kX11_road {D : va_G} {ct : Nat → ClassId} {l : Launch} (o : Nat → Nat) (v : MS) (R : va_W) (x1 : Int32) (x2 : Int32) (x3 : Int32) (y : YS) (hB : y_n y ≤ 12 ∧ y_cn y ≤ 4 ∧ y_rn y ≤ 5) (hq : RelI y (m_g v)) (hch : m_ch v ≤ 8) : MI D ct l yX11_road wsX11_road rmX11_road (MW ct o v R) [.ref (o 0), .int (x1), .int (x2), .int (x3)] (fun r0 (_ : Unit) => r0 = (F_ch (F_addR y (F_beg v) x1 x2 x3)).1) (fun _ : Unit => MW ct o (F_ch (F_addR y (F_beg v) x1 x2 x3)).2 R) := by
  refine MIof (cc := cX11_road) (maxL := 4) (ret := (some .int)) (by decide) rfl (Nat.le_of_ble_eq_true rfl) ?_
  intro p e s m args below meth c A H locs F hP hK hD hS hA ls hl
  obtain ⟨hx, hb, hr, hlocks, hml, hown, hts, hin⟩ := F
  have hl : lv_has ls 4 [(0, .ref (o 0)), (1, .int (x1)), (2, .int (x2)), (3, .int (x3))] := hl
  have hn : y_n y ≤ 12 := hB.1
  have hcn : y_cn y ≤ 4 := hB.2.1
  have hrn : y_rn y ≤ 5 := hB.2.2
  refine lv_aload_n hx hb dX11_road_0 rfl (lv_at hl 0 rfl) ?_
  refine zVV [] [] (kX11_begins (o) (v) (R)) hx hb hml hown hts (cwV 0 hts gX11_road_X11_begins rfl rfl rfl (by decide +kernel) ⟨(Nat.le_of_ble_eq_true rfl), (Nat.le_of_ble_eq_true rfl)⟩) hK hP hD hS hA (va_recv hK hP (ci := 10) (q0 := 0) rfl rfl) rfl hl.1 rfl (Nat.le_of_ble_eq_true rfl) dX11_road_1 ⟨(Nat.le_of_ble_eq_true rfl), (Nat.le_of_ble_eq_true rfl)⟩ (fun _ H locs hr_1 hP hD hS => ?_)
  have hP : va_P D vwCl (MW ct o ((cpb (m_g v) 81 0 10 81), (cpf (m_fl v) 9 0 10 9), (m_ch v), (m_sv v), (m_why v), (m_det v), (m_li v), (m_ld v), (m_wt v), (m_wm v), (m_ln v), (m_lz v), (m_in v), (m_ty v), (m_he v), (m_wa v), (m_fa v), (m_cm v), (m_cz v)) R) H := hP
  have hD : va_D A (MW ct o ((cpb (m_g v) 81 0 10 81), (cpf (m_fl v) 9 0 10 9), (m_ch v), (m_sv v), (m_why v), (m_det v), (m_li v), (m_ld v), (m_wt v), (m_wm v), (m_ln v), (m_lz v), (m_in v), (m_ty v), (m_he v), (m_wa v), (m_fa v), (m_cm v), (m_cz v)) R) := hD
  refine lv_aload_n hx hb dX11_road_4 rfl (lv_at hl 0 rfl) ?_
  refine lv_aload_n hx hb dX11_road_5 rfl (lv_at hl 0 rfl) ?_
  refine lv_iload_n hx hb dX11_road_6 rfl (lv_at hl 1 rfl) ?_
  refine lv_iload_n hx hb dX11_road_7 rfl (lv_at hl 2 rfl) ?_
  refine lv_iload_n hx hb dX11_road_8 rfl (lv_at hl 3 rfl) ?_
  refine zVI [.int (x1), .int (x2), .int (x3)] [.ref (o 0)] (kX11_addsRoad (o) (((cpb (m_g v) 81 0 10 81), (cpf (m_fl v) 9 0 10 9), (m_ch v), (m_sv v), (m_why v), (m_det v), (m_li v), (m_ld v), (m_wt v), (m_wm v), (m_ln v), (m_lz v), (m_in v), (m_ty v), (m_he v), (m_wa v), (m_fa v), (m_cm v), (m_cz v))) (R) (x1) (x2) (x3) (y) (show y_n (y) ≤ 12 ∧ y_cn (y) ≤ 4 ∧ y_rn (y) ≤ 5 from hB) (show RelI (y) ((cpb (m_g v) 81 0 10 81)) from RelI_cpb hB hq (by decide))) hx hb hml hown hts (cwV 3 hts gX11_road_X11_addsRoad rfl rfl rfl (by decide +kernel) ⟨(Nat.le_of_ble_eq_true rfl), (Nat.le_of_ble_eq_true rfl)⟩) hK hP hD hS hA (va_recv hK hP (ci := 10) (q0 := 0) rfl rfl) rfl hl.1 rfl (Nat.le_of_ble_eq_true rfl) dX11_road_9 ⟨(Nat.le_of_ble_eq_true rfl), (Nat.le_of_ble_eq_true rfl)⟩ (fun r_9 _ H locs hr_9 hP hD hS => ?_)
  subst hr_9
  have hP : va_P D vwCl (MW ct o (F_addR (y) ((cpb (m_g v) 81 0 10 81), (cpf (m_fl v) 9 0 10 9), (m_ch v), (m_sv v), (m_why v), (m_det v), (m_li v), (m_ld v), (m_wt v), (m_wm v), (m_ln v), (m_lz v), (m_in v), (m_ty v), (m_he v), (m_wa v), (m_fa v), (m_cm v), (m_cz v)) (x1) (x2) (x3)).2 R) H := hP
  have hD : va_D A (MW ct o (F_addR (y) ((cpb (m_g v) 81 0 10 81), (cpf (m_fl v) 9 0 10 9), (m_ch v), (m_sv v), (m_why v), (m_det v), (m_li v), (m_ld v), (m_wt v), (m_wm v), (m_ln v), (m_lz v), (m_in v), (m_ty v), (m_he v), (m_wa v), (m_fa v), (m_cm v), (m_cz v)) (x1) (x2) (x3)).2 R) := hD
  refine zVI [.int (((F_addR (y) ((cpb (m_g v) 81 0 10 81), (cpf (m_fl v) 9 0 10 9), (m_ch v), (m_sv v), (m_why v), (m_det v), (m_li v), (m_ld v), (m_wt v), (m_wm v), (m_ln v), (m_lz v), (m_in v), (m_ty v), (m_he v), (m_wa v), (m_fa v), (m_cm v), (m_cz v)) (x1) (x2) (x3)).1))] [] (kX11_ends (o) ((F_addR (y) ((cpb (m_g v) 81 0 10 81), (cpf (m_fl v) 9 0 10 9), (m_ch v), (m_sv v), (m_why v), (m_det v), (m_li v), (m_ld v), (m_wt v), (m_wm v), (m_ln v), (m_lz v), (m_in v), (m_ty v), (m_he v), (m_wa v), (m_fa v), (m_cm v), (m_cz v)) (x1) (x2) (x3)).2) (R) (((F_addR (y) ((cpb (m_g v) 81 0 10 81), (cpf (m_fl v) 9 0 10 9), (m_ch v), (m_sv v), (m_why v), (m_det v), (m_li v), (m_ld v), (m_wt v), (m_wm v), (m_ln v), (m_lz v), (m_in v), (m_ty v), (m_he v), (m_wa v), (m_fa v), (m_cm v), (m_cz v)) (x1) (x2) (x3)).1)) (show (m_ch (F_addR (y) ((cpb (m_g v) 81 0 10 81), (cpf (m_fl v) 9 0 10 9), (m_ch v), (m_sv v), (m_why v), (m_det v), (m_li v), (m_ld v), (m_wt v), (m_wm v), (m_ln v), (m_lz v), (m_in v), (m_ty v), (m_he v), (m_wa v), (m_fa v), (m_cm v), (m_cz v)) (x1) (x2) (x3)).2) ≤ 8 from addR_ch hch)) hx hb hml hown hts (cwV 1 hts gX11_road_X11_ends rfl rfl rfl (by decide +kernel) ⟨(Nat.le_of_ble_eq_true rfl), (Nat.le_of_ble_eq_true rfl)⟩) hK hP hD hS hA (va_recv hK hP (ci := 10) (q0 := 0) rfl rfl) rfl hl.1 rfl (Nat.le_of_ble_eq_true rfl) dX11_road_12 ⟨(Nat.le_of_ble_eq_true rfl), (Nat.le_of_ble_eq_true rfl)⟩ (fun r_12 _ H locs hr_12 hP hD hS => ?_)
  subst hr_12
  have hP : va_P D vwCl (MW ct o (F_ends (F_addR (y) ((cpb (m_g v) 81 0 10 81), (cpf (m_fl v) 9 0 10 9), (m_ch v), (m_sv v), (m_why v), (m_det v), (m_li v), (m_ld v), (m_wt v), (m_wm v), (m_ln v), (m_lz v), (m_in v), (m_ty v), (m_he v), (m_wa v), (m_fa v), (m_cm v), (m_cz v)) (x1) (x2) (x3)).2 (((F_addR (y) ((cpb (m_g v) 81 0 10 81), (cpf (m_fl v) 9 0 10 9), (m_ch v), (m_sv v), (m_why v), (m_det v), (m_li v), (m_ld v), (m_wt v), (m_wm v), (m_ln v), (m_lz v), (m_in v), (m_ty v), (m_he v), (m_wa v), (m_fa v), (m_cm v), (m_cz v)) (x1) (x2) (x3)).1))).2 R) H := hP
  have hD : va_D A (MW ct o (F_ends (F_addR (y) ((cpb (m_g v) 81 0 10 81), (cpf (m_fl v) 9 0 10 9), (m_ch v), (m_sv v), (m_why v), (m_det v), (m_li v), (m_ld v), (m_wt v), (m_wm v), (m_ln v), (m_lz v), (m_in v), (m_ty v), (m_he v), (m_wa v), (m_fa v), (m_cm v), (m_cz v)) (x1) (x2) (x3)).2 (((F_addR (y) ((cpb (m_g v) 81 0 10 81), (cpf (m_fl v) 9 0 10 9), (m_ch v), (m_sv v), (m_why v), (m_det v), (m_li v), (m_ld v), (m_wt v), (m_wm v), (m_ln v), (m_lz v), (m_in v), (m_ty v), (m_he v), (m_wa v), (m_fa v), (m_cm v), (m_cz v)) (x1) (x2) (x3)).1))).2 R) := hD
  have e9 : F_ch (F_addR y (F_beg v) x1 x2 x3) = (((F_ends (F_addR (y) ((cpb (m_g v) 81 0 10 81), (cpf (m_fl v) 9 0 10 9), (m_ch v), (m_sv v), (m_why v), (m_det v), (m_li v), (m_ld v), (m_wt v), (m_wm v), (m_ln v), (m_lz v), (m_in v), (m_ty v), (m_he v), (m_wa v), (m_fa v), (m_cm v), (m_cz v)) (x1) (x2) (x3)).2 (((F_addR (y) ((cpb (m_g v) 81 0 10 81), (cpf (m_fl v) 9 0 10 9), (m_ch v), (m_sv v), (m_why v), (m_det v), (m_li v), (m_ld v), (m_wt v), (m_wm v), (m_ln v), (m_lz v), (m_in v), (m_ty v), (m_he v), (m_wa v), (m_fa v), (m_cm v), (m_cz v)) (x1) (x2) (x3)).1))).1), (F_ends (F_addR (y) ((cpb (m_g v) 81 0 10 81), (cpf (m_fl v) 9 0 10 9), (m_ch v), (m_sv v), (m_why v), (m_det v), (m_li v), (m_ld v), (m_wt v), (m_wm v), (m_ln v), (m_lz v), (m_in v), (m_ty v), (m_he v), (m_wa v), (m_fa v), (m_cm v), (m_cz v)) (x1) (x2) (x3)).2 (((F_addR (y) ((cpb (m_g v) 81 0 10 81), (cpf (m_fl v) 9 0 10 9), (m_ch v), (m_sv v), (m_why v), (m_det v), (m_li v), (m_ld v), (m_wt v), (m_wm v), (m_ln v), (m_lz v), (m_in v), (m_ty v), (m_he v), (m_wa v), (m_fa v), (m_cm v), (m_cz v)) (x1) (x2) (x3)).1))).2) := rfl
  exact zIret () hx hb hr hlocks hK (by show va_P D vwCl (MW ct o (F_ch (F_addR y (F_beg v) x1 x2 x3)).2 R) H; rw [e9]; exact hP) (by show va_D A (MW ct o (F_ch (F_addR y (F_beg v) x1 x2 x3)).2 R); rw [e9]; exact hD) hS dX11_road_15 (show ((F_ends (F_addR (y) ((cpb (m_g v) 81 0 10 81), (cpf (m_fl v) 9 0 10 9), (m_ch v), (m_sv v), (m_why v), (m_det v), (m_li v), (m_ld v), (m_wt v), (m_wm v), (m_ln v), (m_lz v), (m_in v), (m_ty v), (m_he v), (m_wa v), (m_fa v), (m_cm v), (m_cz v)) (x1) (x2) (x3)).2 (((F_addR (y) ((cpb (m_g v) 81 0 10 81), (cpf (m_fl v) 9 0 10 9), (m_ch v), (m_sv v), (m_why v), (m_det v), (m_li v), (m_ld v), (m_wt v), (m_wm v), (m_ln v), (m_lz v), (m_in v), (m_ty v), (m_he v), (m_wa v), (m_fa v), (m_cm v), (m_cz v)) (x1) (x2) (x3)).1))).1) = (F_ch (F_addR y (F_beg v) x1 x2 x3)).1 from (by rw [e9]))
abbrev rmX11_load : Room := { frames := 5, cells := 0, slots := 0, locals := 116 }
set_option maxHeartbeats 4000000 in
set_option maxRecDepth 100000 in
theorem kX11_load {D : va_G} {ct : Nat → ClassId} {l : Launch} (o : Nat → Nat) (v : MS) (R : va_W) (x1 : Int32) (x2 : Int32) (x3 : Int32) (y : YS) (hB : y_n y ≤ 12 ∧ y_cn y ≤ 4 ∧ y_rn y ≤ 5) (hq : RelI y (m_g v)) (hch : m_ch v ≤ 8) : MI D ct l yX11_load wsX11_load rmX11_load (MW ct o v R) [.ref (o 0), .int (x1), .int (x2), .int (x3)] (fun r0 (_ : Unit) => r0 = (F_ch (F_put y (F_beg v) x1 x2 x3)).1) (fun _ : Unit => MW ct o (F_ch (F_put y (F_beg v) x1 x2 x3)).2 R) := by
  refine MIof (cc := cX11_load) (maxL := 4) (ret := (some .int)) (by decide) rfl (Nat.le_of_ble_eq_true rfl) ?_
  intro p e s m args below meth c A H locs F hP hK hD hS hA ls hl
  obtain ⟨hx, hb, hr, hlocks, hml, hown, hts, hin⟩ := F
  have hl : lv_has ls 4 [(0, .ref (o 0)), (1, .int (x1)), (2, .int (x2)), (3, .int (x3))] := hl
  have hn : y_n y ≤ 12 := hB.1
  have hcn : y_cn y ≤ 4 := hB.2.1
  have hrn : y_rn y ≤ 5 := hB.2.2
  refine lv_aload_n hx hb dX11_load_0 rfl (lv_at hl 0 rfl) ?_
  refine zVV [] [] (kX11_begins (o) (v) (R)) hx hb hml hown hts (cwV 0 hts gX11_load_X11_begins rfl rfl rfl (by decide +kernel) ⟨(Nat.le_of_ble_eq_true rfl), (Nat.le_of_ble_eq_true rfl)⟩) hK hP hD hS hA (va_recv hK hP (ci := 10) (q0 := 0) rfl rfl) rfl hl.1 rfl (Nat.le_of_ble_eq_true rfl) dX11_load_1 ⟨(Nat.le_of_ble_eq_true rfl), (Nat.le_of_ble_eq_true rfl)⟩ (fun _ H locs hr_1 hP hD hS => ?_)
  have hP : va_P D vwCl (MW ct o ((cpb (m_g v) 81 0 10 81), (cpf (m_fl v) 9 0 10 9), (m_ch v), (m_sv v), (m_why v), (m_det v), (m_li v), (m_ld v), (m_wt v), (m_wm v), (m_ln v), (m_lz v), (m_in v), (m_ty v), (m_he v), (m_wa v), (m_fa v), (m_cm v), (m_cz v)) R) H := hP
  have hD : va_D A (MW ct o ((cpb (m_g v) 81 0 10 81), (cpf (m_fl v) 9 0 10 9), (m_ch v), (m_sv v), (m_why v), (m_det v), (m_li v), (m_ld v), (m_wt v), (m_wm v), (m_ln v), (m_lz v), (m_in v), (m_ty v), (m_he v), (m_wa v), (m_fa v), (m_cm v), (m_cz v)) R) := hD
  refine lv_aload_n hx hb dX11_load_4 rfl (lv_at hl 0 rfl) ?_
  refine lv_aload_n hx hb dX11_load_5 rfl (lv_at hl 0 rfl) ?_
  refine lv_iload_n hx hb dX11_load_6 rfl (lv_at hl 1 rfl) ?_
  refine lv_iload_n hx hb dX11_load_7 rfl (lv_at hl 2 rfl) ?_
  refine lv_iload_n hx hb dX11_load_8 rfl (lv_at hl 3 rfl) ?_
  refine zVI [.int (x1), .int (x2), .int (x3)] [.ref (o 0)] (kX11_loads (o) (((cpb (m_g v) 81 0 10 81), (cpf (m_fl v) 9 0 10 9), (m_ch v), (m_sv v), (m_why v), (m_det v), (m_li v), (m_ld v), (m_wt v), (m_wm v), (m_ln v), (m_lz v), (m_in v), (m_ty v), (m_he v), (m_wa v), (m_fa v), (m_cm v), (m_cz v))) (R) (x1) (x2) (x3) (y) (show y_n (y) ≤ 12 ∧ y_cn (y) ≤ 4 ∧ y_rn (y) ≤ 5 from hB) (show RelI (y) ((cpb (m_g v) 81 0 10 81)) from RelI_cpb hB hq (by decide))) hx hb hml hown hts (cwV 3 hts gX11_load_X11_loads rfl rfl rfl (by decide +kernel) ⟨(Nat.le_of_ble_eq_true rfl), (Nat.le_of_ble_eq_true rfl)⟩) hK hP hD hS hA (va_recv hK hP (ci := 10) (q0 := 0) rfl rfl) rfl hl.1 rfl (Nat.le_of_ble_eq_true rfl) dX11_load_9 ⟨(Nat.le_of_ble_eq_true rfl), (Nat.le_of_ble_eq_true rfl)⟩ (fun r_9 _ H locs hr_9 hP hD hS => ?_)
  subst hr_9
  have hP : va_P D vwCl (MW ct o (F_put (y) ((cpb (m_g v) 81 0 10 81), (cpf (m_fl v) 9 0 10 9), (m_ch v), (m_sv v), (m_why v), (m_det v), (m_li v), (m_ld v), (m_wt v), (m_wm v), (m_ln v), (m_lz v), (m_in v), (m_ty v), (m_he v), (m_wa v), (m_fa v), (m_cm v), (m_cz v)) (x1) (x2) (x3)).2 R) H := hP
  have hD : va_D A (MW ct o (F_put (y) ((cpb (m_g v) 81 0 10 81), (cpf (m_fl v) 9 0 10 9), (m_ch v), (m_sv v), (m_why v), (m_det v), (m_li v), (m_ld v), (m_wt v), (m_wm v), (m_ln v), (m_lz v), (m_in v), (m_ty v), (m_he v), (m_wa v), (m_fa v), (m_cm v), (m_cz v)) (x1) (x2) (x3)).2 R) := hD
  refine zVI [.int (((F_put (y) ((cpb (m_g v) 81 0 10 81), (cpf (m_fl v) 9 0 10 9), (m_ch v), (m_sv v), (m_why v), (m_det v), (m_li v), (m_ld v), (m_wt v), (m_wm v), (m_ln v), (m_lz v), (m_in v), (m_ty v), (m_he v), (m_wa v), (m_fa v), (m_cm v), (m_cz v)) (x1) (x2) (x3)).1))] [] (kX11_ends (o) ((F_put (y) ((cpb (m_g v) 81 0 10 81), (cpf (m_fl v) 9 0 10 9), (m_ch v), (m_sv v), (m_why v), (m_det v), (m_li v), (m_ld v), (m_wt v), (m_wm v), (m_ln v), (m_lz v), (m_in v), (m_ty v), (m_he v), (m_wa v), (m_fa v), (m_cm v), (m_cz v)) (x1) (x2) (x3)).2) (R) (((F_put (y) ((cpb (m_g v) 81 0 10 81), (cpf (m_fl v) 9 0 10 9), (m_ch v), (m_sv v), (m_why v), (m_det v), (m_li v), (m_ld v), (m_wt v), (m_wm v), (m_ln v), (m_lz v), (m_in v), (m_ty v), (m_he v), (m_wa v), (m_fa v), (m_cm v), (m_cz v)) (x1) (x2) (x3)).1)) (show (m_ch (F_put (y) ((cpb (m_g v) 81 0 10 81), (cpf (m_fl v) 9 0 10 9), (m_ch v), (m_sv v), (m_why v), (m_det v), (m_li v), (m_ld v), (m_wt v), (m_wm v), (m_ln v), (m_lz v), (m_in v), (m_ty v), (m_he v), (m_wa v), (m_fa v), (m_cm v), (m_cz v)) (x1) (x2) (x3)).2) ≤ 8 from put_ch hch)) hx hb hml hown hts (cwV 1 hts gX11_load_X11_ends rfl rfl rfl (by decide +kernel) ⟨(Nat.le_of_ble_eq_true rfl), (Nat.le_of_ble_eq_true rfl)⟩) hK hP hD hS hA (va_recv hK hP (ci := 10) (q0 := 0) rfl rfl) rfl hl.1 rfl (Nat.le_of_ble_eq_true rfl) dX11_load_12 ⟨(Nat.le_of_ble_eq_true rfl), (Nat.le_of_ble_eq_true rfl)⟩ (fun r_12 _ H locs hr_12 hP hD hS => ?_)
  subst hr_12
  have hP : va_P D vwCl (MW ct o (F_ends (F_put (y) ((cpb (m_g v) 81 0 10 81), (cpf (m_fl v) 9 0 10 9), (m_ch v), (m_sv v), (m_why v), (m_det v), (m_li v), (m_ld v), (m_wt v), (m_wm v), (m_ln v), (m_lz v), (m_in v), (m_ty v), (m_he v), (m_wa v), (m_fa v), (m_cm v), (m_cz v)) (x1) (x2) (x3)).2 (((F_put (y) ((cpb (m_g v) 81 0 10 81), (cpf (m_fl v) 9 0 10 9), (m_ch v), (m_sv v), (m_why v), (m_det v), (m_li v), (m_ld v), (m_wt v), (m_wm v), (m_ln v), (m_lz v), (m_in v), (m_ty v), (m_he v), (m_wa v), (m_fa v), (m_cm v), (m_cz v)) (x1) (x2) (x3)).1))).2 R) H := hP
  have hD : va_D A (MW ct o (F_ends (F_put (y) ((cpb (m_g v) 81 0 10 81), (cpf (m_fl v) 9 0 10 9), (m_ch v), (m_sv v), (m_why v), (m_det v), (m_li v), (m_ld v), (m_wt v), (m_wm v), (m_ln v), (m_lz v), (m_in v), (m_ty v), (m_he v), (m_wa v), (m_fa v), (m_cm v), (m_cz v)) (x1) (x2) (x3)).2 (((F_put (y) ((cpb (m_g v) 81 0 10 81), (cpf (m_fl v) 9 0 10 9), (m_ch v), (m_sv v), (m_why v), (m_det v), (m_li v), (m_ld v), (m_wt v), (m_wm v), (m_ln v), (m_lz v), (m_in v), (m_ty v), (m_he v), (m_wa v), (m_fa v), (m_cm v), (m_cz v)) (x1) (x2) (x3)).1))).2 R) := hD
  have e9 : F_ch (F_put y (F_beg v) x1 x2 x3) = (((F_ends (F_put (y) ((cpb (m_g v) 81 0 10 81), (cpf (m_fl v) 9 0 10 9), (m_ch v), (m_sv v), (m_why v), (m_det v), (m_li v), (m_ld v), (m_wt v), (m_wm v), (m_ln v), (m_lz v), (m_in v), (m_ty v), (m_he v), (m_wa v), (m_fa v), (m_cm v), (m_cz v)) (x1) (x2) (x3)).2 (((F_put (y) ((cpb (m_g v) 81 0 10 81), (cpf (m_fl v) 9 0 10 9), (m_ch v), (m_sv v), (m_why v), (m_det v), (m_li v), (m_ld v), (m_wt v), (m_wm v), (m_ln v), (m_lz v), (m_in v), (m_ty v), (m_he v), (m_wa v), (m_fa v), (m_cm v), (m_cz v)) (x1) (x2) (x3)).1))).1), (F_ends (F_put (y) ((cpb (m_g v) 81 0 10 81), (cpf (m_fl v) 9 0 10 9), (m_ch v), (m_sv v), (m_why v), (m_det v), (m_li v), (m_ld v), (m_wt v), (m_wm v), (m_ln v), (m_lz v), (m_in v), (m_ty v), (m_he v), (m_wa v), (m_fa v), (m_cm v), (m_cz v)) (x1) (x2) (x3)).2 (((F_put (y) ((cpb (m_g v) 81 0 10 81), (cpf (m_fl v) 9 0 10 9), (m_ch v), (m_sv v), (m_why v), (m_det v), (m_li v), (m_ld v), (m_wt v), (m_wm v), (m_ln v), (m_lz v), (m_in v), (m_ty v), (m_he v), (m_wa v), (m_fa v), (m_cm v), (m_cz v)) (x1) (x2) (x3)).1))).2) := rfl
  exact zIret () hx hb hr hlocks hK (by show va_P D vwCl (MW ct o (F_ch (F_put y (F_beg v) x1 x2 x3)).2 R) H; rw [e9]; exact hP) (by show va_D A (MW ct o (F_ch (F_put y (F_beg v) x1 x2 x3)).2 R); rw [e9]; exact hD) hS dX11_load_15 (show ((F_ends (F_put (y) ((cpb (m_g v) 81 0 10 81), (cpf (m_fl v) 9 0 10 9), (m_ch v), (m_sv v), (m_why v), (m_det v), (m_li v), (m_ld v), (m_wt v), (m_wm v), (m_ln v), (m_lz v), (m_in v), (m_ty v), (m_he v), (m_wa v), (m_fa v), (m_cm v), (m_cz v)) (x1) (x2) (x3)).2 (((F_put (y) ((cpb (m_g v) 81 0 10 81), (cpf (m_fl v) 9 0 10 9), (m_ch v), (m_sv v), (m_why v), (m_det v), (m_li v), (m_ld v), (m_wt v), (m_wm v), (m_ln v), (m_lz v), (m_in v), (m_ty v), (m_he v), (m_wa v), (m_fa v), (m_cm v), (m_cz v)) (x1) (x2) (x3)).1))).1) = (F_ch (F_put y (F_beg v) x1 x2 x3)).1 from (by rw [e9]))
abbrev rmX11_unload : Room := { frames := 4, cells := 0, slots := 0, locals := 92 }
set_option maxHeartbeats 4000000 in
set_option maxRecDepth 100000 in
theorem kX11_unload {D : va_G} {ct : Nat → ClassId} {l : Launch} (o : Nat → Nat) (v : MS) (R : va_W) (x1 : Int32) (y : YS) (hB : y_n y ≤ 12 ∧ y_cn y ≤ 4 ∧ y_rn y ≤ 5) (hq : RelI y (m_g v)) (hch : m_ch v ≤ 8) : MI D ct l yX11_unload wsX11_unload rmX11_unload (MW ct o v R) [.ref (o 0), .int (x1)] (fun r0 (_ : Unit) => r0 = (F_ch (F_off y (F_beg v) x1)).1) (fun _ : Unit => MW ct o (F_ch (F_off y (F_beg v) x1)).2 R) := by
  refine MIof (cc := cX11_unload) (maxL := 2) (ret := (some .int)) (by decide) rfl (Nat.le_of_ble_eq_true rfl) ?_
  intro p e s m args below meth c A H locs F hP hK hD hS hA ls hl
  obtain ⟨hx, hb, hr, hlocks, hml, hown, hts, hin⟩ := F
  have hl : lv_has ls 2 [(0, .ref (o 0)), (1, .int (x1))] := hl
  have hn : y_n y ≤ 12 := hB.1
  have hcn : y_cn y ≤ 4 := hB.2.1
  have hrn : y_rn y ≤ 5 := hB.2.2
  refine lv_aload_n hx hb dX11_unload_0 rfl (lv_at hl 0 rfl) ?_
  refine zVV [] [] (kX11_begins (o) (v) (R)) hx hb hml hown hts (cwV 0 hts gX11_unload_X11_begins rfl rfl rfl (by decide +kernel) ⟨(Nat.le_of_ble_eq_true rfl), (Nat.le_of_ble_eq_true rfl)⟩) hK hP hD hS hA (va_recv hK hP (ci := 10) (q0 := 0) rfl rfl) rfl hl.1 rfl (Nat.le_of_ble_eq_true rfl) dX11_unload_1 ⟨(Nat.le_of_ble_eq_true rfl), (Nat.le_of_ble_eq_true rfl)⟩ (fun _ H locs hr_1 hP hD hS => ?_)
  have hP : va_P D vwCl (MW ct o ((cpb (m_g v) 81 0 10 81), (cpf (m_fl v) 9 0 10 9), (m_ch v), (m_sv v), (m_why v), (m_det v), (m_li v), (m_ld v), (m_wt v), (m_wm v), (m_ln v), (m_lz v), (m_in v), (m_ty v), (m_he v), (m_wa v), (m_fa v), (m_cm v), (m_cz v)) R) H := hP
  have hD : va_D A (MW ct o ((cpb (m_g v) 81 0 10 81), (cpf (m_fl v) 9 0 10 9), (m_ch v), (m_sv v), (m_why v), (m_det v), (m_li v), (m_ld v), (m_wt v), (m_wm v), (m_ln v), (m_lz v), (m_in v), (m_ty v), (m_he v), (m_wa v), (m_fa v), (m_cm v), (m_cz v)) R) := hD
  refine lv_aload_n hx hb dX11_unload_4 rfl (lv_at hl 0 rfl) ?_
  refine lv_aload_n hx hb dX11_unload_5 rfl (lv_at hl 0 rfl) ?_
  refine lv_iload_n hx hb dX11_unload_6 rfl (lv_at hl 1 rfl) ?_
  refine zVI [.int (x1)] [.ref (o 0)] (kX11_unloads (o) (((cpb (m_g v) 81 0 10 81), (cpf (m_fl v) 9 0 10 9), (m_ch v), (m_sv v), (m_why v), (m_det v), (m_li v), (m_ld v), (m_wt v), (m_wm v), (m_ln v), (m_lz v), (m_in v), (m_ty v), (m_he v), (m_wa v), (m_fa v), (m_cm v), (m_cz v))) (R) (x1) (y) (show y_n (y) ≤ 12 ∧ y_cn (y) ≤ 4 ∧ y_rn (y) ≤ 5 from hB) (show RelI (y) ((cpb (m_g v) 81 0 10 81)) from RelI_cpb hB hq (by decide))) hx hb hml hown hts (cwV 1 hts gX11_unload_X11_unloads rfl rfl rfl (by decide +kernel) ⟨(Nat.le_of_ble_eq_true rfl), (Nat.le_of_ble_eq_true rfl)⟩) hK hP hD hS hA (va_recv hK hP (ci := 10) (q0 := 0) rfl rfl) rfl hl.1 rfl (Nat.le_of_ble_eq_true rfl) dX11_unload_7 ⟨(Nat.le_of_ble_eq_true rfl), (Nat.le_of_ble_eq_true rfl)⟩ (fun r_7 _ H locs hr_7 hP hD hS => ?_)
  subst hr_7
  have hP : va_P D vwCl (MW ct o (F_off (y) ((cpb (m_g v) 81 0 10 81), (cpf (m_fl v) 9 0 10 9), (m_ch v), (m_sv v), (m_why v), (m_det v), (m_li v), (m_ld v), (m_wt v), (m_wm v), (m_ln v), (m_lz v), (m_in v), (m_ty v), (m_he v), (m_wa v), (m_fa v), (m_cm v), (m_cz v)) (x1)).2 R) H := hP
  have hD : va_D A (MW ct o (F_off (y) ((cpb (m_g v) 81 0 10 81), (cpf (m_fl v) 9 0 10 9), (m_ch v), (m_sv v), (m_why v), (m_det v), (m_li v), (m_ld v), (m_wt v), (m_wm v), (m_ln v), (m_lz v), (m_in v), (m_ty v), (m_he v), (m_wa v), (m_fa v), (m_cm v), (m_cz v)) (x1)).2 R) := hD
  refine zVI [.int (((F_off (y) ((cpb (m_g v) 81 0 10 81), (cpf (m_fl v) 9 0 10 9), (m_ch v), (m_sv v), (m_why v), (m_det v), (m_li v), (m_ld v), (m_wt v), (m_wm v), (m_ln v), (m_lz v), (m_in v), (m_ty v), (m_he v), (m_wa v), (m_fa v), (m_cm v), (m_cz v)) (x1)).1))] [] (kX11_ends (o) ((F_off (y) ((cpb (m_g v) 81 0 10 81), (cpf (m_fl v) 9 0 10 9), (m_ch v), (m_sv v), (m_why v), (m_det v), (m_li v), (m_ld v), (m_wt v), (m_wm v), (m_ln v), (m_lz v), (m_in v), (m_ty v), (m_he v), (m_wa v), (m_fa v), (m_cm v), (m_cz v)) (x1)).2) (R) (((F_off (y) ((cpb (m_g v) 81 0 10 81), (cpf (m_fl v) 9 0 10 9), (m_ch v), (m_sv v), (m_why v), (m_det v), (m_li v), (m_ld v), (m_wt v), (m_wm v), (m_ln v), (m_lz v), (m_in v), (m_ty v), (m_he v), (m_wa v), (m_fa v), (m_cm v), (m_cz v)) (x1)).1)) (show (m_ch (F_off (y) ((cpb (m_g v) 81 0 10 81), (cpf (m_fl v) 9 0 10 9), (m_ch v), (m_sv v), (m_why v), (m_det v), (m_li v), (m_ld v), (m_wt v), (m_wm v), (m_ln v), (m_lz v), (m_in v), (m_ty v), (m_he v), (m_wa v), (m_fa v), (m_cm v), (m_cz v)) (x1)).2) ≤ 8 from off_ch hch)) hx hb hml hown hts (cwV 1 hts gX11_unload_X11_ends rfl rfl rfl (by decide +kernel) ⟨(Nat.le_of_ble_eq_true rfl), (Nat.le_of_ble_eq_true rfl)⟩) hK hP hD hS hA (va_recv hK hP (ci := 10) (q0 := 0) rfl rfl) rfl hl.1 rfl (Nat.le_of_ble_eq_true rfl) dX11_unload_10 ⟨(Nat.le_of_ble_eq_true rfl), (Nat.le_of_ble_eq_true rfl)⟩ (fun r_10 _ H locs hr_10 hP hD hS => ?_)
  subst hr_10
  have hP : va_P D vwCl (MW ct o (F_ends (F_off (y) ((cpb (m_g v) 81 0 10 81), (cpf (m_fl v) 9 0 10 9), (m_ch v), (m_sv v), (m_why v), (m_det v), (m_li v), (m_ld v), (m_wt v), (m_wm v), (m_ln v), (m_lz v), (m_in v), (m_ty v), (m_he v), (m_wa v), (m_fa v), (m_cm v), (m_cz v)) (x1)).2 (((F_off (y) ((cpb (m_g v) 81 0 10 81), (cpf (m_fl v) 9 0 10 9), (m_ch v), (m_sv v), (m_why v), (m_det v), (m_li v), (m_ld v), (m_wt v), (m_wm v), (m_ln v), (m_lz v), (m_in v), (m_ty v), (m_he v), (m_wa v), (m_fa v), (m_cm v), (m_cz v)) (x1)).1))).2 R) H := hP
  have hD : va_D A (MW ct o (F_ends (F_off (y) ((cpb (m_g v) 81 0 10 81), (cpf (m_fl v) 9 0 10 9), (m_ch v), (m_sv v), (m_why v), (m_det v), (m_li v), (m_ld v), (m_wt v), (m_wm v), (m_ln v), (m_lz v), (m_in v), (m_ty v), (m_he v), (m_wa v), (m_fa v), (m_cm v), (m_cz v)) (x1)).2 (((F_off (y) ((cpb (m_g v) 81 0 10 81), (cpf (m_fl v) 9 0 10 9), (m_ch v), (m_sv v), (m_why v), (m_det v), (m_li v), (m_ld v), (m_wt v), (m_wm v), (m_ln v), (m_lz v), (m_in v), (m_ty v), (m_he v), (m_wa v), (m_fa v), (m_cm v), (m_cz v)) (x1)).1))).2 R) := hD
  have e9 : F_ch (F_off y (F_beg v) x1) = (((F_ends (F_off (y) ((cpb (m_g v) 81 0 10 81), (cpf (m_fl v) 9 0 10 9), (m_ch v), (m_sv v), (m_why v), (m_det v), (m_li v), (m_ld v), (m_wt v), (m_wm v), (m_ln v), (m_lz v), (m_in v), (m_ty v), (m_he v), (m_wa v), (m_fa v), (m_cm v), (m_cz v)) (x1)).2 (((F_off (y) ((cpb (m_g v) 81 0 10 81), (cpf (m_fl v) 9 0 10 9), (m_ch v), (m_sv v), (m_why v), (m_det v), (m_li v), (m_ld v), (m_wt v), (m_wm v), (m_ln v), (m_lz v), (m_in v), (m_ty v), (m_he v), (m_wa v), (m_fa v), (m_cm v), (m_cz v)) (x1)).1))).1), (F_ends (F_off (y) ((cpb (m_g v) 81 0 10 81), (cpf (m_fl v) 9 0 10 9), (m_ch v), (m_sv v), (m_why v), (m_det v), (m_li v), (m_ld v), (m_wt v), (m_wm v), (m_ln v), (m_lz v), (m_in v), (m_ty v), (m_he v), (m_wa v), (m_fa v), (m_cm v), (m_cz v)) (x1)).2 (((F_off (y) ((cpb (m_g v) 81 0 10 81), (cpf (m_fl v) 9 0 10 9), (m_ch v), (m_sv v), (m_why v), (m_det v), (m_li v), (m_ld v), (m_wt v), (m_wm v), (m_ln v), (m_lz v), (m_in v), (m_ty v), (m_he v), (m_wa v), (m_fa v), (m_cm v), (m_cz v)) (x1)).1))).2) := rfl
  exact zIret () hx hb hr hlocks hK (by show va_P D vwCl (MW ct o (F_ch (F_off y (F_beg v) x1)).2 R) H; rw [e9]; exact hP) (by show va_D A (MW ct o (F_ch (F_off y (F_beg v) x1)).2 R); rw [e9]; exact hD) hS dX11_unload_13 (show ((F_ends (F_off (y) ((cpb (m_g v) 81 0 10 81), (cpf (m_fl v) 9 0 10 9), (m_ch v), (m_sv v), (m_why v), (m_det v), (m_li v), (m_ld v), (m_wt v), (m_wm v), (m_ln v), (m_lz v), (m_in v), (m_ty v), (m_he v), (m_wa v), (m_fa v), (m_cm v), (m_cz v)) (x1)).2 (((F_off (y) ((cpb (m_g v) 81 0 10 81), (cpf (m_fl v) 9 0 10 9), (m_ch v), (m_sv v), (m_why v), (m_det v), (m_li v), (m_ld v), (m_wt v), (m_wm v), (m_ln v), (m_lz v), (m_in v), (m_ty v), (m_he v), (m_wa v), (m_fa v), (m_cm v), (m_cz v)) (x1)).1))).1) = (F_ch (F_off y (F_beg v) x1)).1 from (by rw [e9]))
abbrev rmX11_swap : Room := { frames := 5, cells := 0, slots := 0, locals := 115 }
set_option maxHeartbeats 4000000 in
set_option maxRecDepth 100000 in
theorem kX11_swap {D : va_G} {ct : Nat → ClassId} {l : Launch} (o : Nat → Nat) (v : MS) (R : va_W) (x1 : Int32) (x2 : Int32) (x3 : Int32) (y : YS) (hB : y_n y ≤ 12 ∧ y_cn y ≤ 4 ∧ y_rn y ≤ 5) (hq : RelI y (m_g v)) (hch : m_ch v ≤ 8) : MI D ct l yX11_swap wsX11_swap rmX11_swap (MW ct o v R) [.ref (o 0), .int (x1), .int (x2), .int (x3)] (fun r0 (_ : Unit) => r0 = (F_ch (F_swap y (F_beg v) x1 x2 x3)).1) (fun _ : Unit => MW ct o (F_ch (F_swap y (F_beg v) x1 x2 x3)).2 R) := by
  refine MIof (cc := cX11_swap) (maxL := 4) (ret := (some .int)) (by decide) rfl (Nat.le_of_ble_eq_true rfl) ?_
  intro p e s m args below meth c A H locs F hP hK hD hS hA ls hl
  obtain ⟨hx, hb, hr, hlocks, hml, hown, hts, hin⟩ := F
  have hl : lv_has ls 4 [(0, .ref (o 0)), (1, .int (x1)), (2, .int (x2)), (3, .int (x3))] := hl
  have hn : y_n y ≤ 12 := hB.1
  have hcn : y_cn y ≤ 4 := hB.2.1
  have hrn : y_rn y ≤ 5 := hB.2.2
  refine lv_aload_n hx hb dX11_swap_0 rfl (lv_at hl 0 rfl) ?_
  refine zVV [] [] (kX11_begins (o) (v) (R)) hx hb hml hown hts (cwV 0 hts gX11_swap_X11_begins rfl rfl rfl (by decide +kernel) ⟨(Nat.le_of_ble_eq_true rfl), (Nat.le_of_ble_eq_true rfl)⟩) hK hP hD hS hA (va_recv hK hP (ci := 10) (q0 := 0) rfl rfl) rfl hl.1 rfl (Nat.le_of_ble_eq_true rfl) dX11_swap_1 ⟨(Nat.le_of_ble_eq_true rfl), (Nat.le_of_ble_eq_true rfl)⟩ (fun _ H locs hr_1 hP hD hS => ?_)
  have hP : va_P D vwCl (MW ct o ((cpb (m_g v) 81 0 10 81), (cpf (m_fl v) 9 0 10 9), (m_ch v), (m_sv v), (m_why v), (m_det v), (m_li v), (m_ld v), (m_wt v), (m_wm v), (m_ln v), (m_lz v), (m_in v), (m_ty v), (m_he v), (m_wa v), (m_fa v), (m_cm v), (m_cz v)) R) H := hP
  have hD : va_D A (MW ct o ((cpb (m_g v) 81 0 10 81), (cpf (m_fl v) 9 0 10 9), (m_ch v), (m_sv v), (m_why v), (m_det v), (m_li v), (m_ld v), (m_wt v), (m_wm v), (m_ln v), (m_lz v), (m_in v), (m_ty v), (m_he v), (m_wa v), (m_fa v), (m_cm v), (m_cz v)) R) := hD
  refine lv_aload_n hx hb dX11_swap_4 rfl (lv_at hl 0 rfl) ?_
  refine lv_aload_n hx hb dX11_swap_5 rfl (lv_at hl 0 rfl) ?_
  refine lv_iload_n hx hb dX11_swap_6 rfl (lv_at hl 1 rfl) ?_
  refine lv_iload_n hx hb dX11_swap_7 rfl (lv_at hl 2 rfl) ?_
  refine lv_iload_n hx hb dX11_swap_8 rfl (lv_at hl 3 rfl) ?_
  refine zVI [.int (x1), .int (x2), .int (x3)] [.ref (o 0)] (kX11_swaps (o) (((cpb (m_g v) 81 0 10 81), (cpf (m_fl v) 9 0 10 9), (m_ch v), (m_sv v), (m_why v), (m_det v), (m_li v), (m_ld v), (m_wt v), (m_wm v), (m_ln v), (m_lz v), (m_in v), (m_ty v), (m_he v), (m_wa v), (m_fa v), (m_cm v), (m_cz v))) (R) (x1) (x2) (x3) (y) (show y_n (y) ≤ 12 ∧ y_cn (y) ≤ 4 ∧ y_rn (y) ≤ 5 from hB) (show RelI (y) ((cpb (m_g v) 81 0 10 81)) from RelI_cpb hB hq (by decide))) hx hb hml hown hts (cwV 3 hts gX11_swap_X11_swaps rfl rfl rfl (by decide +kernel) ⟨(Nat.le_of_ble_eq_true rfl), (Nat.le_of_ble_eq_true rfl)⟩) hK hP hD hS hA (va_recv hK hP (ci := 10) (q0 := 0) rfl rfl) rfl hl.1 rfl (Nat.le_of_ble_eq_true rfl) dX11_swap_9 ⟨(Nat.le_of_ble_eq_true rfl), (Nat.le_of_ble_eq_true rfl)⟩ (fun r_9 _ H locs hr_9 hP hD hS => ?_)
  subst hr_9
  have hP : va_P D vwCl (MW ct o (F_swap (y) ((cpb (m_g v) 81 0 10 81), (cpf (m_fl v) 9 0 10 9), (m_ch v), (m_sv v), (m_why v), (m_det v), (m_li v), (m_ld v), (m_wt v), (m_wm v), (m_ln v), (m_lz v), (m_in v), (m_ty v), (m_he v), (m_wa v), (m_fa v), (m_cm v), (m_cz v)) (x1) (x2) (x3)).2 R) H := hP
  have hD : va_D A (MW ct o (F_swap (y) ((cpb (m_g v) 81 0 10 81), (cpf (m_fl v) 9 0 10 9), (m_ch v), (m_sv v), (m_why v), (m_det v), (m_li v), (m_ld v), (m_wt v), (m_wm v), (m_ln v), (m_lz v), (m_in v), (m_ty v), (m_he v), (m_wa v), (m_fa v), (m_cm v), (m_cz v)) (x1) (x2) (x3)).2 R) := hD
  refine zVI [.int (((F_swap (y) ((cpb (m_g v) 81 0 10 81), (cpf (m_fl v) 9 0 10 9), (m_ch v), (m_sv v), (m_why v), (m_det v), (m_li v), (m_ld v), (m_wt v), (m_wm v), (m_ln v), (m_lz v), (m_in v), (m_ty v), (m_he v), (m_wa v), (m_fa v), (m_cm v), (m_cz v)) (x1) (x2) (x3)).1))] [] (kX11_ends (o) ((F_swap (y) ((cpb (m_g v) 81 0 10 81), (cpf (m_fl v) 9 0 10 9), (m_ch v), (m_sv v), (m_why v), (m_det v), (m_li v), (m_ld v), (m_wt v), (m_wm v), (m_ln v), (m_lz v), (m_in v), (m_ty v), (m_he v), (m_wa v), (m_fa v), (m_cm v), (m_cz v)) (x1) (x2) (x3)).2) (R) (((F_swap (y) ((cpb (m_g v) 81 0 10 81), (cpf (m_fl v) 9 0 10 9), (m_ch v), (m_sv v), (m_why v), (m_det v), (m_li v), (m_ld v), (m_wt v), (m_wm v), (m_ln v), (m_lz v), (m_in v), (m_ty v), (m_he v), (m_wa v), (m_fa v), (m_cm v), (m_cz v)) (x1) (x2) (x3)).1)) (show (m_ch (F_swap (y) ((cpb (m_g v) 81 0 10 81), (cpf (m_fl v) 9 0 10 9), (m_ch v), (m_sv v), (m_why v), (m_det v), (m_li v), (m_ld v), (m_wt v), (m_wm v), (m_ln v), (m_lz v), (m_in v), (m_ty v), (m_he v), (m_wa v), (m_fa v), (m_cm v), (m_cz v)) (x1) (x2) (x3)).2) ≤ 8 from swap_ch hch)) hx hb hml hown hts (cwV 1 hts gX11_swap_X11_ends rfl rfl rfl (by decide +kernel) ⟨(Nat.le_of_ble_eq_true rfl), (Nat.le_of_ble_eq_true rfl)⟩) hK hP hD hS hA (va_recv hK hP (ci := 10) (q0 := 0) rfl rfl) rfl hl.1 rfl (Nat.le_of_ble_eq_true rfl) dX11_swap_12 ⟨(Nat.le_of_ble_eq_true rfl), (Nat.le_of_ble_eq_true rfl)⟩ (fun r_12 _ H locs hr_12 hP hD hS => ?_)
  subst hr_12
  have hP : va_P D vwCl (MW ct o (F_ends (F_swap (y) ((cpb (m_g v) 81 0 10 81), (cpf (m_fl v) 9 0 10 9), (m_ch v), (m_sv v), (m_why v), (m_det v), (m_li v), (m_ld v), (m_wt v), (m_wm v), (m_ln v), (m_lz v), (m_in v), (m_ty v), (m_he v), (m_wa v), (m_fa v), (m_cm v), (m_cz v)) (x1) (x2) (x3)).2 (((F_swap (y) ((cpb (m_g v) 81 0 10 81), (cpf (m_fl v) 9 0 10 9), (m_ch v), (m_sv v), (m_why v), (m_det v), (m_li v), (m_ld v), (m_wt v), (m_wm v), (m_ln v), (m_lz v), (m_in v), (m_ty v), (m_he v), (m_wa v), (m_fa v), (m_cm v), (m_cz v)) (x1) (x2) (x3)).1))).2 R) H := hP
  have hD : va_D A (MW ct o (F_ends (F_swap (y) ((cpb (m_g v) 81 0 10 81), (cpf (m_fl v) 9 0 10 9), (m_ch v), (m_sv v), (m_why v), (m_det v), (m_li v), (m_ld v), (m_wt v), (m_wm v), (m_ln v), (m_lz v), (m_in v), (m_ty v), (m_he v), (m_wa v), (m_fa v), (m_cm v), (m_cz v)) (x1) (x2) (x3)).2 (((F_swap (y) ((cpb (m_g v) 81 0 10 81), (cpf (m_fl v) 9 0 10 9), (m_ch v), (m_sv v), (m_why v), (m_det v), (m_li v), (m_ld v), (m_wt v), (m_wm v), (m_ln v), (m_lz v), (m_in v), (m_ty v), (m_he v), (m_wa v), (m_fa v), (m_cm v), (m_cz v)) (x1) (x2) (x3)).1))).2 R) := hD
  have e9 : F_ch (F_swap y (F_beg v) x1 x2 x3) = (((F_ends (F_swap (y) ((cpb (m_g v) 81 0 10 81), (cpf (m_fl v) 9 0 10 9), (m_ch v), (m_sv v), (m_why v), (m_det v), (m_li v), (m_ld v), (m_wt v), (m_wm v), (m_ln v), (m_lz v), (m_in v), (m_ty v), (m_he v), (m_wa v), (m_fa v), (m_cm v), (m_cz v)) (x1) (x2) (x3)).2 (((F_swap (y) ((cpb (m_g v) 81 0 10 81), (cpf (m_fl v) 9 0 10 9), (m_ch v), (m_sv v), (m_why v), (m_det v), (m_li v), (m_ld v), (m_wt v), (m_wm v), (m_ln v), (m_lz v), (m_in v), (m_ty v), (m_he v), (m_wa v), (m_fa v), (m_cm v), (m_cz v)) (x1) (x2) (x3)).1))).1), (F_ends (F_swap (y) ((cpb (m_g v) 81 0 10 81), (cpf (m_fl v) 9 0 10 9), (m_ch v), (m_sv v), (m_why v), (m_det v), (m_li v), (m_ld v), (m_wt v), (m_wm v), (m_ln v), (m_lz v), (m_in v), (m_ty v), (m_he v), (m_wa v), (m_fa v), (m_cm v), (m_cz v)) (x1) (x2) (x3)).2 (((F_swap (y) ((cpb (m_g v) 81 0 10 81), (cpf (m_fl v) 9 0 10 9), (m_ch v), (m_sv v), (m_why v), (m_det v), (m_li v), (m_ld v), (m_wt v), (m_wm v), (m_ln v), (m_lz v), (m_in v), (m_ty v), (m_he v), (m_wa v), (m_fa v), (m_cm v), (m_cz v)) (x1) (x2) (x3)).1))).2) := rfl
  exact zIret () hx hb hr hlocks hK (by show va_P D vwCl (MW ct o (F_ch (F_swap y (F_beg v) x1 x2 x3)).2 R) H; rw [e9]; exact hP) (by show va_D A (MW ct o (F_ch (F_swap y (F_beg v) x1 x2 x3)).2 R); rw [e9]; exact hD) hS dX11_swap_15 (show ((F_ends (F_swap (y) ((cpb (m_g v) 81 0 10 81), (cpf (m_fl v) 9 0 10 9), (m_ch v), (m_sv v), (m_why v), (m_det v), (m_li v), (m_ld v), (m_wt v), (m_wm v), (m_ln v), (m_lz v), (m_in v), (m_ty v), (m_he v), (m_wa v), (m_fa v), (m_cm v), (m_cz v)) (x1) (x2) (x3)).2 (((F_swap (y) ((cpb (m_g v) 81 0 10 81), (cpf (m_fl v) 9 0 10 9), (m_ch v), (m_sv v), (m_why v), (m_det v), (m_li v), (m_ld v), (m_wt v), (m_wm v), (m_ln v), (m_lz v), (m_in v), (m_ty v), (m_he v), (m_wa v), (m_fa v), (m_cm v), (m_cz v)) (x1) (x2) (x3)).1))).1) = (F_ch (F_swap y (F_beg v) x1 x2 x3)).1 from (by rw [e9]))
abbrev rmX11_trip : Room := { frames := 7, cells := 0, slots := 0, locals := 162 }
set_option maxHeartbeats 4000000 in
set_option maxRecDepth 100000 in
theorem kX11_trip {D : va_G} {ct : Nat → ClassId} {l : Launch} (o : Nat → Nat) (v : MS) (R : va_W) (x1 : Int32) (x2 : Int32) (y : YS) (hy : yI y) (hq : RelI y (m_g v)) (hch : m_ch v ≤ 8) (hf9 : ∀ j, j < 9 → nF (m_fl v j)) : MI D ct l yX11_trip wsX11_trip rmX11_trip (MW ct o v R) [.ref (o 0), .int (x1), .int (x2)] (fun r0 (_ : Unit) => r0 = (F_ch (F_goes y (F_beg v) x1 x2)).1) (fun _ : Unit => MW ct o (F_ch (F_goes y (F_beg v) x1 x2)).2 R) := by
  refine MIof (cc := cX11_trip) (maxL := 3) (ret := (some .int)) (by decide) rfl (Nat.le_of_ble_eq_true rfl) ?_
  intro p e s m args below meth c A H locs F hP hK hD hS hA ls hl
  obtain ⟨hx, hb, hr, hlocks, hml, hown, hts, hin⟩ := F
  have hl : lv_has ls 3 [(0, .ref (o 0)), (1, .int (x1)), (2, .int (x2))] := hl
  have hB : y_n y ≤ 12 ∧ y_cn y ≤ 4 ∧ y_rn y ≤ 5 := ⟨hy.1, hy.2.1, hy.2.2.1⟩
  have hn : y_n y ≤ 12 := hy.1
  have hcn : y_cn y ≤ 4 := hy.2.1
  have hrn : y_rn y ≤ 5 := hy.2.2.1
  refine lv_aload_n hx hb dX11_trip_0 rfl (lv_at hl 0 rfl) ?_
  refine zVV [] [] (kX11_begins (o) (v) (R)) hx hb hml hown hts (cwV 0 hts gX11_trip_X11_begins rfl rfl rfl (by decide +kernel) ⟨(Nat.le_of_ble_eq_true rfl), (Nat.le_of_ble_eq_true rfl)⟩) hK hP hD hS hA (va_recv hK hP (ci := 10) (q0 := 0) rfl rfl) rfl hl.1 rfl (Nat.le_of_ble_eq_true rfl) dX11_trip_1 ⟨(Nat.le_of_ble_eq_true rfl), (Nat.le_of_ble_eq_true rfl)⟩ (fun _ H locs hr_1 hP hD hS => ?_)
  have hP : va_P D vwCl (MW ct o ((cpb (m_g v) 81 0 10 81), (cpf (m_fl v) 9 0 10 9), (m_ch v), (m_sv v), (m_why v), (m_det v), (m_li v), (m_ld v), (m_wt v), (m_wm v), (m_ln v), (m_lz v), (m_in v), (m_ty v), (m_he v), (m_wa v), (m_fa v), (m_cm v), (m_cz v)) R) H := hP
  have hD : va_D A (MW ct o ((cpb (m_g v) 81 0 10 81), (cpf (m_fl v) 9 0 10 9), (m_ch v), (m_sv v), (m_why v), (m_det v), (m_li v), (m_ld v), (m_wt v), (m_wm v), (m_ln v), (m_lz v), (m_in v), (m_ty v), (m_he v), (m_wa v), (m_fa v), (m_cm v), (m_cz v)) R) := hD
  refine lv_aload_n hx hb dX11_trip_4 rfl (lv_at hl 0 rfl) ?_
  refine lv_aload_n hx hb dX11_trip_5 rfl (lv_at hl 0 rfl) ?_
  refine lv_iload_n hx hb dX11_trip_6 rfl (lv_at hl 1 rfl) ?_
  refine lv_iload_n hx hb dX11_trip_7 rfl (lv_at hl 2 rfl) ?_
  refine zVI [.int (x1), .int (x2)] [.ref (o 0)] (kX11_goes (o) (((cpb (m_g v) 81 0 10 81), (cpf (m_fl v) 9 0 10 9), (m_ch v), (m_sv v), (m_why v), (m_det v), (m_li v), (m_ld v), (m_wt v), (m_wm v), (m_ln v), (m_lz v), (m_in v), (m_ty v), (m_he v), (m_wa v), (m_fa v), (m_cm v), (m_cz v))) (R) (x1) (x2) (y) (show yI (y) from hy) (show RelI (y) ((cpb (m_g v) 81 0 10 81)) from RelI_cpb hB hq (by decide)) (show ∀ j, j < 9 → nF ((cpf (m_fl v) 9 0 10 9) j) from cpf_nF (by decide) hf9)) hx hb hml hown hts (cwV 2 hts gX11_trip_X11_goes rfl rfl rfl (by decide +kernel) ⟨(Nat.le_of_ble_eq_true rfl), (Nat.le_of_ble_eq_true rfl)⟩) hK hP hD hS hA (va_recv hK hP (ci := 10) (q0 := 0) rfl rfl) rfl hl.1 rfl (Nat.le_of_ble_eq_true rfl) dX11_trip_8 ⟨(Nat.le_of_ble_eq_true rfl), (Nat.le_of_ble_eq_true rfl)⟩ (fun r_8 _ H locs hr_8 hP hD hS => ?_)
  subst hr_8
  have hP : va_P D vwCl (MW ct o (F_goes (y) ((cpb (m_g v) 81 0 10 81), (cpf (m_fl v) 9 0 10 9), (m_ch v), (m_sv v), (m_why v), (m_det v), (m_li v), (m_ld v), (m_wt v), (m_wm v), (m_ln v), (m_lz v), (m_in v), (m_ty v), (m_he v), (m_wa v), (m_fa v), (m_cm v), (m_cz v)) (x1) (x2)).2 R) H := hP
  have hD : va_D A (MW ct o (F_goes (y) ((cpb (m_g v) 81 0 10 81), (cpf (m_fl v) 9 0 10 9), (m_ch v), (m_sv v), (m_why v), (m_det v), (m_li v), (m_ld v), (m_wt v), (m_wm v), (m_ln v), (m_lz v), (m_in v), (m_ty v), (m_he v), (m_wa v), (m_fa v), (m_cm v), (m_cz v)) (x1) (x2)).2 R) := hD
  refine zVI [.int (((F_goes (y) ((cpb (m_g v) 81 0 10 81), (cpf (m_fl v) 9 0 10 9), (m_ch v), (m_sv v), (m_why v), (m_det v), (m_li v), (m_ld v), (m_wt v), (m_wm v), (m_ln v), (m_lz v), (m_in v), (m_ty v), (m_he v), (m_wa v), (m_fa v), (m_cm v), (m_cz v)) (x1) (x2)).1))] [] (kX11_ends (o) ((F_goes (y) ((cpb (m_g v) 81 0 10 81), (cpf (m_fl v) 9 0 10 9), (m_ch v), (m_sv v), (m_why v), (m_det v), (m_li v), (m_ld v), (m_wt v), (m_wm v), (m_ln v), (m_lz v), (m_in v), (m_ty v), (m_he v), (m_wa v), (m_fa v), (m_cm v), (m_cz v)) (x1) (x2)).2) (R) (((F_goes (y) ((cpb (m_g v) 81 0 10 81), (cpf (m_fl v) 9 0 10 9), (m_ch v), (m_sv v), (m_why v), (m_det v), (m_li v), (m_ld v), (m_wt v), (m_wm v), (m_ln v), (m_lz v), (m_in v), (m_ty v), (m_he v), (m_wa v), (m_fa v), (m_cm v), (m_cz v)) (x1) (x2)).1)) (show (m_ch (F_goes (y) ((cpb (m_g v) 81 0 10 81), (cpf (m_fl v) 9 0 10 9), (m_ch v), (m_sv v), (m_why v), (m_det v), (m_li v), (m_ld v), (m_wt v), (m_wm v), (m_ln v), (m_lz v), (m_in v), (m_ty v), (m_he v), (m_wa v), (m_fa v), (m_cm v), (m_cz v)) (x1) (x2)).2) ≤ 8 from goes_ch hch)) hx hb hml hown hts (cwV 1 hts gX11_trip_X11_ends rfl rfl rfl (by decide +kernel) ⟨(Nat.le_of_ble_eq_true rfl), (Nat.le_of_ble_eq_true rfl)⟩) hK hP hD hS hA (va_recv hK hP (ci := 10) (q0 := 0) rfl rfl) rfl hl.1 rfl (Nat.le_of_ble_eq_true rfl) dX11_trip_11 ⟨(Nat.le_of_ble_eq_true rfl), (Nat.le_of_ble_eq_true rfl)⟩ (fun r_11 _ H locs hr_11 hP hD hS => ?_)
  subst hr_11
  have hP : va_P D vwCl (MW ct o (F_ends (F_goes (y) ((cpb (m_g v) 81 0 10 81), (cpf (m_fl v) 9 0 10 9), (m_ch v), (m_sv v), (m_why v), (m_det v), (m_li v), (m_ld v), (m_wt v), (m_wm v), (m_ln v), (m_lz v), (m_in v), (m_ty v), (m_he v), (m_wa v), (m_fa v), (m_cm v), (m_cz v)) (x1) (x2)).2 (((F_goes (y) ((cpb (m_g v) 81 0 10 81), (cpf (m_fl v) 9 0 10 9), (m_ch v), (m_sv v), (m_why v), (m_det v), (m_li v), (m_ld v), (m_wt v), (m_wm v), (m_ln v), (m_lz v), (m_in v), (m_ty v), (m_he v), (m_wa v), (m_fa v), (m_cm v), (m_cz v)) (x1) (x2)).1))).2 R) H := hP
  have hD : va_D A (MW ct o (F_ends (F_goes (y) ((cpb (m_g v) 81 0 10 81), (cpf (m_fl v) 9 0 10 9), (m_ch v), (m_sv v), (m_why v), (m_det v), (m_li v), (m_ld v), (m_wt v), (m_wm v), (m_ln v), (m_lz v), (m_in v), (m_ty v), (m_he v), (m_wa v), (m_fa v), (m_cm v), (m_cz v)) (x1) (x2)).2 (((F_goes (y) ((cpb (m_g v) 81 0 10 81), (cpf (m_fl v) 9 0 10 9), (m_ch v), (m_sv v), (m_why v), (m_det v), (m_li v), (m_ld v), (m_wt v), (m_wm v), (m_ln v), (m_lz v), (m_in v), (m_ty v), (m_he v), (m_wa v), (m_fa v), (m_cm v), (m_cz v)) (x1) (x2)).1))).2 R) := hD
  have e9 : F_ch (F_goes y (F_beg v) x1 x2) = (((F_ends (F_goes (y) ((cpb (m_g v) 81 0 10 81), (cpf (m_fl v) 9 0 10 9), (m_ch v), (m_sv v), (m_why v), (m_det v), (m_li v), (m_ld v), (m_wt v), (m_wm v), (m_ln v), (m_lz v), (m_in v), (m_ty v), (m_he v), (m_wa v), (m_fa v), (m_cm v), (m_cz v)) (x1) (x2)).2 (((F_goes (y) ((cpb (m_g v) 81 0 10 81), (cpf (m_fl v) 9 0 10 9), (m_ch v), (m_sv v), (m_why v), (m_det v), (m_li v), (m_ld v), (m_wt v), (m_wm v), (m_ln v), (m_lz v), (m_in v), (m_ty v), (m_he v), (m_wa v), (m_fa v), (m_cm v), (m_cz v)) (x1) (x2)).1))).1), (F_ends (F_goes (y) ((cpb (m_g v) 81 0 10 81), (cpf (m_fl v) 9 0 10 9), (m_ch v), (m_sv v), (m_why v), (m_det v), (m_li v), (m_ld v), (m_wt v), (m_wm v), (m_ln v), (m_lz v), (m_in v), (m_ty v), (m_he v), (m_wa v), (m_fa v), (m_cm v), (m_cz v)) (x1) (x2)).2 (((F_goes (y) ((cpb (m_g v) 81 0 10 81), (cpf (m_fl v) 9 0 10 9), (m_ch v), (m_sv v), (m_why v), (m_det v), (m_li v), (m_ld v), (m_wt v), (m_wm v), (m_ln v), (m_lz v), (m_in v), (m_ty v), (m_he v), (m_wa v), (m_fa v), (m_cm v), (m_cz v)) (x1) (x2)).1))).2) := rfl
  exact zIret () hx hb hr hlocks hK (by show va_P D vwCl (MW ct o (F_ch (F_goes y (F_beg v) x1 x2)).2 R) H; rw [e9]; exact hP) (by show va_D A (MW ct o (F_ch (F_goes y (F_beg v) x1 x2)).2 R); rw [e9]; exact hD) hS dX11_trip_14 (show ((F_ends (F_goes (y) ((cpb (m_g v) 81 0 10 81), (cpf (m_fl v) 9 0 10 9), (m_ch v), (m_sv v), (m_why v), (m_det v), (m_li v), (m_ld v), (m_wt v), (m_wm v), (m_ln v), (m_lz v), (m_in v), (m_ty v), (m_he v), (m_wa v), (m_fa v), (m_cm v), (m_cz v)) (x1) (x2)).2 (((F_goes (y) ((cpb (m_g v) 81 0 10 81), (cpf (m_fl v) 9 0 10 9), (m_ch v), (m_sv v), (m_why v), (m_det v), (m_li v), (m_ld v), (m_wt v), (m_wm v), (m_ln v), (m_lz v), (m_in v), (m_ty v), (m_he v), (m_wa v), (m_fa v), (m_cm v), (m_cz v)) (x1) (x2)).1))).1) = (F_ch (F_goes y (F_beg v) x1 x2)).1 from (by rw [e9]))
abbrev rmX11_grease : Room := { frames := 3, cells := 0, slots := 0, locals := 66 }
set_option maxHeartbeats 4000000 in
set_option maxRecDepth 100000 in
theorem kX11_grease {D : va_G} {ct : Nat → ClassId} {l : Launch} (o : Nat → Nat) (v : MS) (R : va_W) (x1 : Int32) (y : YS) (hB : y_n y ≤ 12 ∧ y_cn y ≤ 4 ∧ y_rn y ≤ 5) (hq : RelI y (m_g v)) (hch : m_ch v ≤ 8) : MI D ct l yX11_grease wsX11_grease rmX11_grease (MW ct o v R) [.ref (o 0), .int (x1)] (fun r0 (_ : Unit) => r0 = (F_ch (F_grs y (F_beg v) x1)).1) (fun _ : Unit => MW ct o (F_ch (F_grs y (F_beg v) x1)).2 R) := by
  refine MIof (cc := cX11_grease) (maxL := 2) (ret := (some .int)) (by decide) rfl (Nat.le_of_ble_eq_true rfl) ?_
  intro p e s m args below meth c A H locs F hP hK hD hS hA ls hl
  obtain ⟨hx, hb, hr, hlocks, hml, hown, hts, hin⟩ := F
  have hl : lv_has ls 2 [(0, .ref (o 0)), (1, .int (x1))] := hl
  have hn : y_n y ≤ 12 := hB.1
  have hcn : y_cn y ≤ 4 := hB.2.1
  have hrn : y_rn y ≤ 5 := hB.2.2
  refine lv_aload_n hx hb dX11_grease_0 rfl (lv_at hl 0 rfl) ?_
  refine zVV [] [] (kX11_begins (o) (v) (R)) hx hb hml hown hts (cwV 0 hts gX11_grease_X11_begins rfl rfl rfl (by decide +kernel) ⟨(Nat.le_of_ble_eq_true rfl), (Nat.le_of_ble_eq_true rfl)⟩) hK hP hD hS hA (va_recv hK hP (ci := 10) (q0 := 0) rfl rfl) rfl hl.1 rfl (Nat.le_of_ble_eq_true rfl) dX11_grease_1 ⟨(Nat.le_of_ble_eq_true rfl), (Nat.le_of_ble_eq_true rfl)⟩ (fun _ H locs hr_1 hP hD hS => ?_)
  have hP : va_P D vwCl (MW ct o ((cpb (m_g v) 81 0 10 81), (cpf (m_fl v) 9 0 10 9), (m_ch v), (m_sv v), (m_why v), (m_det v), (m_li v), (m_ld v), (m_wt v), (m_wm v), (m_ln v), (m_lz v), (m_in v), (m_ty v), (m_he v), (m_wa v), (m_fa v), (m_cm v), (m_cz v)) R) H := hP
  have hD : va_D A (MW ct o ((cpb (m_g v) 81 0 10 81), (cpf (m_fl v) 9 0 10 9), (m_ch v), (m_sv v), (m_why v), (m_det v), (m_li v), (m_ld v), (m_wt v), (m_wm v), (m_ln v), (m_lz v), (m_in v), (m_ty v), (m_he v), (m_wa v), (m_fa v), (m_cm v), (m_cz v)) R) := hD
  refine lv_aload_n hx hb dX11_grease_4 rfl (lv_at hl 0 rfl) ?_
  refine lv_aload_n hx hb dX11_grease_5 rfl (lv_at hl 0 rfl) ?_
  refine lv_iload_n hx hb dX11_grease_6 rfl (lv_at hl 1 rfl) ?_
  refine zVI [.int (x1)] [.ref (o 0)] (kX11_greases (o) (((cpb (m_g v) 81 0 10 81), (cpf (m_fl v) 9 0 10 9), (m_ch v), (m_sv v), (m_why v), (m_det v), (m_li v), (m_ld v), (m_wt v), (m_wm v), (m_ln v), (m_lz v), (m_in v), (m_ty v), (m_he v), (m_wa v), (m_fa v), (m_cm v), (m_cz v))) (R) (x1) (y) (show y_n (y) ≤ 12 ∧ y_cn (y) ≤ 4 ∧ y_rn (y) ≤ 5 from hB) (show RelI (y) ((cpb (m_g v) 81 0 10 81)) from RelI_cpb hB hq (by decide))) hx hb hml hown hts (cwV 1 hts gX11_grease_X11_greases rfl rfl rfl (by decide +kernel) ⟨(Nat.le_of_ble_eq_true rfl), (Nat.le_of_ble_eq_true rfl)⟩) hK hP hD hS hA (va_recv hK hP (ci := 10) (q0 := 0) rfl rfl) rfl hl.1 rfl (Nat.le_of_ble_eq_true rfl) dX11_grease_7 ⟨(Nat.le_of_ble_eq_true rfl), (Nat.le_of_ble_eq_true rfl)⟩ (fun r_7 _ H locs hr_7 hP hD hS => ?_)
  subst hr_7
  have hP : va_P D vwCl (MW ct o (F_grs (y) ((cpb (m_g v) 81 0 10 81), (cpf (m_fl v) 9 0 10 9), (m_ch v), (m_sv v), (m_why v), (m_det v), (m_li v), (m_ld v), (m_wt v), (m_wm v), (m_ln v), (m_lz v), (m_in v), (m_ty v), (m_he v), (m_wa v), (m_fa v), (m_cm v), (m_cz v)) (x1)).2 R) H := hP
  have hD : va_D A (MW ct o (F_grs (y) ((cpb (m_g v) 81 0 10 81), (cpf (m_fl v) 9 0 10 9), (m_ch v), (m_sv v), (m_why v), (m_det v), (m_li v), (m_ld v), (m_wt v), (m_wm v), (m_ln v), (m_lz v), (m_in v), (m_ty v), (m_he v), (m_wa v), (m_fa v), (m_cm v), (m_cz v)) (x1)).2 R) := hD
  refine zVI [.int (((F_grs (y) ((cpb (m_g v) 81 0 10 81), (cpf (m_fl v) 9 0 10 9), (m_ch v), (m_sv v), (m_why v), (m_det v), (m_li v), (m_ld v), (m_wt v), (m_wm v), (m_ln v), (m_lz v), (m_in v), (m_ty v), (m_he v), (m_wa v), (m_fa v), (m_cm v), (m_cz v)) (x1)).1))] [] (kX11_ends (o) ((F_grs (y) ((cpb (m_g v) 81 0 10 81), (cpf (m_fl v) 9 0 10 9), (m_ch v), (m_sv v), (m_why v), (m_det v), (m_li v), (m_ld v), (m_wt v), (m_wm v), (m_ln v), (m_lz v), (m_in v), (m_ty v), (m_he v), (m_wa v), (m_fa v), (m_cm v), (m_cz v)) (x1)).2) (R) (((F_grs (y) ((cpb (m_g v) 81 0 10 81), (cpf (m_fl v) 9 0 10 9), (m_ch v), (m_sv v), (m_why v), (m_det v), (m_li v), (m_ld v), (m_wt v), (m_wm v), (m_ln v), (m_lz v), (m_in v), (m_ty v), (m_he v), (m_wa v), (m_fa v), (m_cm v), (m_cz v)) (x1)).1)) (show (m_ch (F_grs (y) ((cpb (m_g v) 81 0 10 81), (cpf (m_fl v) 9 0 10 9), (m_ch v), (m_sv v), (m_why v), (m_det v), (m_li v), (m_ld v), (m_wt v), (m_wm v), (m_ln v), (m_lz v), (m_in v), (m_ty v), (m_he v), (m_wa v), (m_fa v), (m_cm v), (m_cz v)) (x1)).2) ≤ 8 from grs_ch hch)) hx hb hml hown hts (cwV 1 hts gX11_grease_X11_ends rfl rfl rfl (by decide +kernel) ⟨(Nat.le_of_ble_eq_true rfl), (Nat.le_of_ble_eq_true rfl)⟩) hK hP hD hS hA (va_recv hK hP (ci := 10) (q0 := 0) rfl rfl) rfl hl.1 rfl (Nat.le_of_ble_eq_true rfl) dX11_grease_10 ⟨(Nat.le_of_ble_eq_true rfl), (Nat.le_of_ble_eq_true rfl)⟩ (fun r_10 _ H locs hr_10 hP hD hS => ?_)
  subst hr_10
  have hP : va_P D vwCl (MW ct o (F_ends (F_grs (y) ((cpb (m_g v) 81 0 10 81), (cpf (m_fl v) 9 0 10 9), (m_ch v), (m_sv v), (m_why v), (m_det v), (m_li v), (m_ld v), (m_wt v), (m_wm v), (m_ln v), (m_lz v), (m_in v), (m_ty v), (m_he v), (m_wa v), (m_fa v), (m_cm v), (m_cz v)) (x1)).2 (((F_grs (y) ((cpb (m_g v) 81 0 10 81), (cpf (m_fl v) 9 0 10 9), (m_ch v), (m_sv v), (m_why v), (m_det v), (m_li v), (m_ld v), (m_wt v), (m_wm v), (m_ln v), (m_lz v), (m_in v), (m_ty v), (m_he v), (m_wa v), (m_fa v), (m_cm v), (m_cz v)) (x1)).1))).2 R) H := hP
  have hD : va_D A (MW ct o (F_ends (F_grs (y) ((cpb (m_g v) 81 0 10 81), (cpf (m_fl v) 9 0 10 9), (m_ch v), (m_sv v), (m_why v), (m_det v), (m_li v), (m_ld v), (m_wt v), (m_wm v), (m_ln v), (m_lz v), (m_in v), (m_ty v), (m_he v), (m_wa v), (m_fa v), (m_cm v), (m_cz v)) (x1)).2 (((F_grs (y) ((cpb (m_g v) 81 0 10 81), (cpf (m_fl v) 9 0 10 9), (m_ch v), (m_sv v), (m_why v), (m_det v), (m_li v), (m_ld v), (m_wt v), (m_wm v), (m_ln v), (m_lz v), (m_in v), (m_ty v), (m_he v), (m_wa v), (m_fa v), (m_cm v), (m_cz v)) (x1)).1))).2 R) := hD
  have e9 : F_ch (F_grs y (F_beg v) x1) = (((F_ends (F_grs (y) ((cpb (m_g v) 81 0 10 81), (cpf (m_fl v) 9 0 10 9), (m_ch v), (m_sv v), (m_why v), (m_det v), (m_li v), (m_ld v), (m_wt v), (m_wm v), (m_ln v), (m_lz v), (m_in v), (m_ty v), (m_he v), (m_wa v), (m_fa v), (m_cm v), (m_cz v)) (x1)).2 (((F_grs (y) ((cpb (m_g v) 81 0 10 81), (cpf (m_fl v) 9 0 10 9), (m_ch v), (m_sv v), (m_why v), (m_det v), (m_li v), (m_ld v), (m_wt v), (m_wm v), (m_ln v), (m_lz v), (m_in v), (m_ty v), (m_he v), (m_wa v), (m_fa v), (m_cm v), (m_cz v)) (x1)).1))).1), (F_ends (F_grs (y) ((cpb (m_g v) 81 0 10 81), (cpf (m_fl v) 9 0 10 9), (m_ch v), (m_sv v), (m_why v), (m_det v), (m_li v), (m_ld v), (m_wt v), (m_wm v), (m_ln v), (m_lz v), (m_in v), (m_ty v), (m_he v), (m_wa v), (m_fa v), (m_cm v), (m_cz v)) (x1)).2 (((F_grs (y) ((cpb (m_g v) 81 0 10 81), (cpf (m_fl v) 9 0 10 9), (m_ch v), (m_sv v), (m_why v), (m_det v), (m_li v), (m_ld v), (m_wt v), (m_wm v), (m_ln v), (m_lz v), (m_in v), (m_ty v), (m_he v), (m_wa v), (m_fa v), (m_cm v), (m_cz v)) (x1)).1))).2) := rfl
  exact zIret () hx hb hr hlocks hK (by show va_P D vwCl (MW ct o (F_ch (F_grs y (F_beg v) x1)).2 R) H; rw [e9]; exact hP) (by show va_D A (MW ct o (F_ch (F_grs y (F_beg v) x1)).2 R); rw [e9]; exact hD) hS dX11_grease_13 (show ((F_ends (F_grs (y) ((cpb (m_g v) 81 0 10 81), (cpf (m_fl v) 9 0 10 9), (m_ch v), (m_sv v), (m_why v), (m_det v), (m_li v), (m_ld v), (m_wt v), (m_wm v), (m_ln v), (m_lz v), (m_in v), (m_ty v), (m_he v), (m_wa v), (m_fa v), (m_cm v), (m_cz v)) (x1)).2 (((F_grs (y) ((cpb (m_g v) 81 0 10 81), (cpf (m_fl v) 9 0 10 9), (m_ch v), (m_sv v), (m_why v), (m_det v), (m_li v), (m_ld v), (m_wt v), (m_wm v), (m_ln v), (m_lz v), (m_in v), (m_ty v), (m_he v), (m_wa v), (m_fa v), (m_cm v), (m_cz v)) (x1)).1))).1) = (F_ch (F_grs y (F_beg v) x1)).1 from (by rw [e9]))
abbrev rmX11_undo : Room := { frames := 1, cells := 0, slots := 0, locals := 23 }
theorem in_X11_undo_X11 : ∀ w ∈ u_ws RX11 TX11 19, w ∈ wsX11_undo := by decide +kernel
set_option maxHeartbeats 4000000 in
set_option maxRecDepth 100000 in
theorem kX11_undo {D : va_G} {ct : Nat → ClassId} {l : Launch} (o : Nat → Nat) (v : MS) (R : va_W)  (hch : m_ch v ≤ 8) : MI D ct l yX11_undo wsX11_undo rmX11_undo (MW ct o v R) [.ref (o 0)] (fun r0 (_ : Unit) => r0 = (F_undo v).1) (fun _ : Unit => MW ct o (F_undo v).2 R) := by
  refine MIof (cc := cX11_undo) (maxL := 1) (ret := (some .int)) (by decide) rfl (Nat.le_of_ble_eq_true rfl) ?_
  intro p e s m args below meth c A H locs F hP hK hD hS hA ls hl
  obtain ⟨hx, hb, hr, hlocks, hml, hown, hts, hin⟩ := F
  have hl : lv_has ls 1 [(0, .ref (o 0))] := hl
  have h_X11 := in_X11_undo_X11
  have f38 := hts (.fieldLink RX11 38 "CartArgumentsModel" "changes" "I") (by decide +kernel)
  refine lv_aload_n hx hb dX11_undo_0 rfl (lv_at hl 0 rfl) ?_
  refine va_get (ci := 10) (v := .int (nI (m_ch v))) hx hb hts h_X11 hown hK hP 0 rfl rfl 2 (by decide) f38 (fun _ h9 => h9) rfl dX11_undo_1 ?_
  refine zN_if_ne (tgt := 10) hx hb (by omega) dX11_undo_4 (by decide) (fun c4_1 => ?_) (fun c4_1 => ?_)
  · skip
    refine lv_aload_n hx hb dX11_undo_10 rfl (lv_at hl 0 rfl) ?_
    refine lv_aload_n hx hb dX11_undo_11 rfl (lv_at hl 0 rfl) ?_
    refine va_get (ci := 10) (v := .int (nI (m_ch v))) hx hb hts h_X11 hown hK hP 0 rfl rfl 2 (by decide) f38 (fun _ h9 => h9) rfl dX11_undo_12 ?_
    refine lv_iconst (v := nI (0)) hx hb dX11_undo_15 (by decide) ?_
    refine zVV [.int (nI (m_ch v)), .int (nI (0))] [] (kX11_copies (o) (v) (R) (m_ch v) (0) (show (m_ch v) < 12 from by omega) (show (0) < 12 from by omega)) hx hb hml hown hts (cwV 2 hts gX11_undo_X11_copies rfl rfl rfl (by decide +kernel) ⟨(Nat.le_of_ble_eq_true rfl), (Nat.le_of_ble_eq_true rfl)⟩) hK hP hD hS hA (va_recv hK hP (ci := 10) (q0 := 0) rfl rfl) rfl hl.1 rfl (Nat.le_of_ble_eq_true rfl) dX11_undo_16 ⟨(Nat.le_of_ble_eq_true rfl), (Nat.le_of_ble_eq_true rfl)⟩ (fun _ H locs hr_16 hP hD hS => ?_)
    have hP : va_P D vwCl (MW ct o ((cpb (m_g v) 81 (m_ch v) (0) 81), (cpf (m_fl v) 9 (m_ch v) (0) 9), (m_ch v), (m_sv v), (m_why v), (m_det v), (m_li v), (m_ld v), (m_wt v), (m_wm v), (m_ln v), (m_lz v), (m_in v), (m_ty v), (m_he v), (m_wa v), (m_fa v), (m_cm v), (m_cz v)) R) H := hP
    have hD : va_D A (MW ct o ((cpb (m_g v) 81 (m_ch v) (0) 81), (cpf (m_fl v) 9 (m_ch v) (0) 9), (m_ch v), (m_sv v), (m_why v), (m_det v), (m_li v), (m_ld v), (m_wt v), (m_wm v), (m_ln v), (m_lz v), (m_in v), (m_ty v), (m_he v), (m_wa v), (m_fa v), (m_cm v), (m_cz v)) R) := hD
    refine lv_aload_n hx hb dX11_undo_19 rfl (lv_at hl 0 rfl) ?_
    refine lv_dup hx hb dX11_undo_20 rfl ?_
    refine va_get (ci := 10) (v := .int (nI ((m_ch v)))) hx hb hts h_X11 hown hK hP 0 rfl rfl 2 (by decide) f38 (fun _ h9 => h9) rfl dX11_undo_21 ?_
    refine lv_iconst (v := nI (1)) hx hb dX11_undo_24 (by decide) ?_
    refine zNsub hx hb (by omega) dX11_undo_25 ?_
    refine va_put (ci := 10) (v := .int (nI (((m_ch v) - 1)))) (ty := .int) hx hb hts h_X11 tyX11 tyX11_ok nmX11 hown hK hP hD hS 0 rfl rfl 2 (by decide) f38 (fun _ h9 => h9) rfl (by decide +kernel) rfl rfl (Nat.le_of_ble_eq_true rfl) dX11_undo_26 (fun H locs hP hD hS => ?_)
    have hP : va_P D vwCl (MW ct o ((cpb (m_g v) 81 (m_ch v) (0) 81), (cpf (m_fl v) 9 (m_ch v) (0) 9), ((m_ch v) - 1), (m_sv v), (m_why v), (m_det v), (m_li v), (m_ld v), (m_wt v), (m_wm v), (m_ln v), (m_lz v), (m_in v), (m_ty v), (m_he v), (m_wa v), (m_fa v), (m_cm v), (m_cz v)) R) H := hP
    have hD : va_D A (MW ct o ((cpb (m_g v) 81 (m_ch v) (0) 81), (cpf (m_fl v) 9 (m_ch v) (0) 9), ((m_ch v) - 1), (m_sv v), (m_why v), (m_det v), (m_li v), (m_ld v), (m_wt v), (m_wm v), (m_ln v), (m_lz v), (m_in v), (m_ty v), (m_he v), (m_wa v), (m_fa v), (m_cm v), (m_cz v)) R) := hD
    refine lv_aload_n hx hb dX11_undo_29 rfl (lv_at hl 0 rfl) ?_
    refine va_get (ci := 10) (v := .int (nI (((m_ch v) - 1)))) hx hb hts h_X11 hown hK hP 0 rfl rfl 2 (by decide) f38 (fun _ h9 => h9) rfl dX11_undo_30 ?_
    have e9 : F_undo v = (nI (((m_ch v) - 1)), ((cpb (m_g v) 81 (m_ch v) (0) 81), (cpf (m_fl v) 9 (m_ch v) (0) 9), ((m_ch v) - 1), (m_sv v), (m_why v), (m_det v), (m_li v), (m_ld v), (m_wt v), (m_wm v), (m_ln v), (m_lz v), (m_in v), (m_ty v), (m_he v), (m_wa v), (m_fa v), (m_cm v), (m_cz v))) := (by simp only [F_undo, mGFC, c4_1, p_in, p_worn, p_wi, p_creak, p_le0, p_lt1, p_rng, pmT, pmC, p_eq0, not_true_eq_false, not_false_eq_true, if_true, if_false, and_true, true_and, and_false, false_and, or_true, true_or, or_false, false_or, and_self, or_self, iff_true, true_iff, iff_false, false_iff, decide_eq_true_eq, decide_true, decide_false, Int32.add_zero, Nat.add_zero, ne_eq, Bool.false_eq_true, eq_self])
    exact zIret () hx hb hr hlocks hK (by show va_P D vwCl (MW ct o (F_undo v).2 R) H; rw [e9]; exact hP) (by show va_D A (MW ct o (F_undo v).2 R); rw [e9]; exact hD) hS dX11_undo_33 (show nI (((m_ch v) - 1)) = (F_undo v).1 from (by rw [e9]))
  · skip
    refine lv_bipush (v := (-4)) hx hb dX11_undo_7 (by decide) ?_
    have e9 : F_undo v = ((-4), v) := (by simp only [F_undo, mGFC, eq_true c4_1, p_in, p_worn, p_wi, p_creak, p_le0, p_lt1, p_rng, pmT, pmC, p_eq0, not_true_eq_false, not_false_eq_true, if_true, if_false, and_true, true_and, and_false, false_and, or_true, true_or, or_false, false_or, and_self, or_self, iff_true, true_iff, iff_false, false_iff, decide_eq_true_eq, decide_true, decide_false, Int32.add_zero, Nat.add_zero, ne_eq, Bool.false_eq_true, eq_self])
    exact zIret () hx hb hr hlocks hK (by show va_P D vwCl (MW ct o (F_undo v).2 R) H; rw [e9]; exact hP) (by show va_D A (MW ct o (F_undo v).2 R); rw [e9]; exact hD) hS dX11_undo_9 (show (-4) = (F_undo v).1 from (by rw [e9]))
abbrev rmX11_restore : Room := { frames := 1, cells := 0, slots := 0, locals := 23 }
theorem in_X11_restore_X11 : ∀ w ∈ u_ws RX11 TX11 19, w ∈ wsX11_restore := by decide +kernel
set_option maxHeartbeats 4000000 in
set_option maxRecDepth 100000 in
theorem kX11_restore {D : va_G} {ct : Nat → ClassId} {l : Launch} (o : Nat → Nat) (v : MS) (R : va_W)  : MI D ct l yX11_restore wsX11_restore rmX11_restore (MW ct o v R) [.ref (o 0)] (fun r0 (_ : Unit) => r0 = (F_rest v).1) (fun _ : Unit => MW ct o (F_rest v).2 R) := by
  refine MIof (cc := cX11_restore) (maxL := 1) (ret := (some .int)) (by decide) rfl (Nat.le_of_ble_eq_true rfl) ?_
  intro p e s m args below meth c A H locs F hP hK hD hS hA ls hl
  obtain ⟨hx, hb, hr, hlocks, hml, hown, hts, hin⟩ := F
  have hl : lv_has ls 1 [(0, .ref (o 0))] := hl
  have h_X11 := in_X11_restore_X11
  have f9 := hts (.fieldLink RX11 9 "CartArgumentsModel" "all" "[I") (by decide +kernel)
  have f38 := hts (.fieldLink RX11 38 "CartArgumentsModel" "changes" "I") (by decide +kernel)
  have f242 := hts (.fieldLink RX11 242 "CartArgumentsModel" "isSaved" "Z") (by decide +kernel)
  refine lv_aload_n hx hb dX11_restore_0 rfl (lv_at hl 0 rfl) ?_
  refine va_get (ci := 10) (v := .int (m_sv v)) hx hb hts h_X11 hown hK hP 0 rfl rfl 3 (by decide) f242 (fun _ h9 => h9) rfl dX11_restore_1 ?_
  refine lv_if_ne (tgt := 10) hx hb dX11_restore_4 (by decide) (fun c4_1 => ?_) (fun c4_1 => ?_)
  · skip
    refine lv_aload_n hx hb dX11_restore_10 rfl (lv_at hl 0 rfl) ?_
    refine lv_bipush (v := nI (9)) hx hb dX11_restore_11 (by decide) ?_
    refine lv_iconst (v := nI (0)) hx hb dX11_restore_13 (by decide) ?_
    refine zVV [.int (nI (9)), .int (nI (0))] [] (kX11_copies (o) (v) (R) (9) (0) (show (9) < 12 from by omega) (show (0) < 12 from by omega)) hx hb hml hown hts (cwV 2 hts gX11_restore_X11_copies rfl rfl rfl (by decide +kernel) ⟨(Nat.le_of_ble_eq_true rfl), (Nat.le_of_ble_eq_true rfl)⟩) hK hP hD hS hA (va_recv hK hP (ci := 10) (q0 := 0) rfl rfl) rfl hl.1 rfl (Nat.le_of_ble_eq_true rfl) dX11_restore_14 ⟨(Nat.le_of_ble_eq_true rfl), (Nat.le_of_ble_eq_true rfl)⟩ (fun _ H locs hr_14 hP hD hS => ?_)
    have hP : va_P D vwCl (MW ct o ((cpb (m_g v) 81 (9) (0) 81), (cpf (m_fl v) 9 (9) (0) 9), (m_ch v), (m_sv v), (m_why v), (m_det v), (m_li v), (m_ld v), (m_wt v), (m_wm v), (m_ln v), (m_lz v), (m_in v), (m_ty v), (m_he v), (m_wa v), (m_fa v), (m_cm v), (m_cz v)) R) H := hP
    have hD : va_D A (MW ct o ((cpb (m_g v) 81 (9) (0) 81), (cpf (m_fl v) 9 (9) (0) 9), (m_ch v), (m_sv v), (m_why v), (m_det v), (m_li v), (m_ld v), (m_wt v), (m_wm v), (m_ln v), (m_lz v), (m_in v), (m_ty v), (m_he v), (m_wa v), (m_fa v), (m_cm v), (m_cz v)) R) := hD
    refine lv_aload_n hx hb dX11_restore_17 rfl (lv_at hl 0 rfl) ?_
    refine lv_iconst (v := nI (0)) hx hb dX11_restore_18 (by decide) ?_
    refine va_put (ci := 10) (v := .int (nI (0))) (ty := .int) hx hb hts h_X11 tyX11 tyX11_ok nmX11 hown hK hP hD hS 0 rfl rfl 2 (by decide) f38 (fun _ h9 => h9) rfl (by decide +kernel) rfl rfl (Nat.le_of_ble_eq_true rfl) dX11_restore_19 (fun H locs hP hD hS => ?_)
    have hP : va_P D vwCl (MW ct o ((cpb (m_g v) 81 (9) (0) 81), (cpf (m_fl v) 9 (9) (0) 9), 0, (m_sv v), (m_why v), (m_det v), (m_li v), (m_ld v), (m_wt v), (m_wm v), (m_ln v), (m_lz v), (m_in v), (m_ty v), (m_he v), (m_wa v), (m_fa v), (m_cm v), (m_cz v)) R) H := hP
    have hD : va_D A (MW ct o ((cpb (m_g v) 81 (9) (0) 81), (cpf (m_fl v) 9 (9) (0) 9), 0, (m_sv v), (m_why v), (m_det v), (m_li v), (m_ld v), (m_wt v), (m_wm v), (m_ln v), (m_lz v), (m_in v), (m_ty v), (m_he v), (m_wa v), (m_fa v), (m_cm v), (m_cz v)) R) := hD
    refine lv_aload_n hx hb dX11_restore_22 rfl (lv_at hl 0 rfl) ?_
    refine va_get (ci := 10) (v := .ref (o 1)) hx hb hts h_X11 hown hK hP 0 rfl rfl 0 (by decide) f9 (fun _ h9 => h9) rfl dX11_restore_23 ?_
    refine lv_iconst (v := nI (0)) hx hb dX11_restore_26 (by decide) ?_
    refine zIald (n := 972) (f := (cpb (m_g v) 81 (9) (0) 81)) (i := 0) hx hb hK hP 1 rfl (by omega) (by decide) dX11_restore_27 ?_
    have e9 : F_rest v = (((cpb (m_g v) 81 (9) (0) 81) (0)), ((cpb (m_g v) 81 (9) (0) 81), (cpf (m_fl v) 9 (9) (0) 9), 0, (m_sv v), (m_why v), (m_det v), (m_li v), (m_ld v), (m_wt v), (m_wm v), (m_ln v), (m_lz v), (m_in v), (m_ty v), (m_he v), (m_wa v), (m_fa v), (m_cm v), (m_cz v))) := (by simp only [F_rest, mGFC, nI_0, c4_1, p_in, p_worn, p_wi, p_creak, p_le0, p_lt1, p_rng, pmT, pmC, p_eq0, not_true_eq_false, not_false_eq_true, if_true, if_false, and_true, true_and, and_false, false_and, or_true, true_or, or_false, false_or, and_self, or_self, iff_true, true_iff, iff_false, false_iff, decide_eq_true_eq, decide_true, decide_false, Int32.add_zero, Nat.add_zero, ne_eq, Bool.false_eq_true, eq_self])
    exact zIret () hx hb hr hlocks hK (by show va_P D vwCl (MW ct o (F_rest v).2 R) H; rw [e9]; exact hP) (by show va_D A (MW ct o (F_rest v).2 R); rw [e9]; exact hD) hS dX11_restore_28 (show ((cpb (m_g v) 81 (9) (0) 81) (0)) = (F_rest v).1 from (by rw [e9]))
  · skip
    refine lv_bipush (v := (-4)) hx hb dX11_restore_7 (by decide) ?_
    have e9 : F_rest v = ((-4), v) := (by simp only [F_rest, mGFC, nI_0, eq_true c4_1, p_in, p_worn, p_wi, p_creak, p_le0, p_lt1, p_rng, pmT, pmC, p_eq0, not_true_eq_false, not_false_eq_true, if_true, if_false, and_true, true_and, and_false, false_and, or_true, true_or, or_false, false_or, and_self, or_self, iff_true, true_iff, iff_false, false_iff, decide_eq_true_eq, decide_true, decide_false, Int32.add_zero, Nat.add_zero, ne_eq, Bool.false_eq_true, eq_self])
    exact zIret () hx hb hr hlocks hK (by show va_P D vwCl (MW ct o (F_rest v).2 R) H; rw [e9]; exact hP) (by show va_D A (MW ct o (F_rest v).2 R); rw [e9]; exact hD) hS dX11_restore_9 (show (-4) = (F_rest v).1 from (by rw [e9]))
abbrev rmX11_could : Room := { frames := 7, cells := 0, slots := 0, locals := 162 }
theorem in_X11_could_X11 : ∀ w ∈ u_ws RX11 TX11 19, w ∈ wsX11_could := by decide +kernel
set_option maxHeartbeats 4000000 in
set_option maxRecDepth 100000 in
theorem kX11_could {D : va_G} {ct : Nat → ClassId} {l : Launch} (o : Nat → Nat) (v : MS) (R : va_W) (x1 : Int32) (x2 : Int32) (y : YS) (hy : yI y) (hq : RelI y (m_g v)) (hf9 : ∀ j, j < 9 → nF (m_fl v j)) : MI D ct l yX11_could wsX11_could rmX11_could (MW ct o v R) [.ref (o 0), .int (x1), .int (x2)] (fun r0 (_ : Unit) => r0 = (F_could y v x1 x2).1) (fun _ : Unit => MW ct o (F_could y v x1 x2).2 R) := by
  refine MIof (cc := cX11_could) (maxL := 7) (ret := (some .int)) (by decide) rfl (Nat.le_of_ble_eq_true rfl) ?_
  intro p e s m args below meth c A H locs F hP hK hD hS hA ls hl
  obtain ⟨hx, hb, hr, hlocks, hml, hown, hts, hin⟩ := F
  have hl : lv_has ls 7 [(0, .ref (o 0)), (1, .int (x1)), (2, .int (x2))] := hl
  have hB : y_n y ≤ 12 ∧ y_cn y ≤ 4 ∧ y_rn y ≤ 5 := ⟨hy.1, hy.2.1, hy.2.2.1⟩
  have hn : y_n y ≤ 12 := hy.1
  have hcn : y_cn y ≤ 4 := hy.2.1
  have hrn : y_rn y ≤ 5 := hy.2.2.1
  have h_X11 := in_X11_could_X11
  have f41 := hts (.fieldLink RX11 41 "CartArgumentsModel" "why" "I") (by decide +kernel)
  have f44 := hts (.fieldLink RX11 44 "CartArgumentsModel" "detail" "I") (by decide +kernel)
  have f47 := hts (.fieldLink RX11 47 "CartArgumentsModel" "lies" "I") (by decide +kernel)
  refine lv_aload_n hx hb dX11_could_0 rfl (lv_at hl 0 rfl) ?_
  refine lv_iload_n hx hb dX11_could_1 rfl (lv_at hl 1 rfl) ?_
  refine zVI [.int (x1)] [] (kX11_isCart (o) (v) (R) (x1) (y) (show y_n (y) ≤ 12 ∧ y_cn (y) ≤ 4 ∧ y_rn (y) ≤ 5 from hB) (show RelI (y) (m_g v) from hq)) hx hb hml hown hts (cwV 1 hts gX11_could_X11_isCart rfl rfl rfl (by decide +kernel) ⟨(Nat.le_of_ble_eq_true rfl), (Nat.le_of_ble_eq_true rfl)⟩) hK hP hD hS hA (va_recv hK hP (ci := 10) (q0 := 0) rfl rfl) rfl hl.1 rfl (Nat.le_of_ble_eq_true rfl) dX11_could_2 ⟨(Nat.le_of_ble_eq_true rfl), (Nat.le_of_ble_eq_true rfl)⟩ (fun r_2 _ H locs hr_2 hP hD hS => ?_)
  subst hr_2
  have hP : va_P D vwCl (MW ct o v R) H := hP
  have hD : va_D A (MW ct o v R) := hD
  refine zB_if_eq (tgt := 16) hx hb dX11_could_5 (by decide) (fun c5_1 => ?_) (fun c5_1 => ?_)
  · skip
    refine lv_iconst (v := (-1)) hx hb dX11_could_16 (by decide) ?_
    have e9 : F_could y v x1 x2 = ((-1), v) := (by simp only [F_could, c5_1, p_in, p_worn, p_wi, p_creak, p_le0, p_lt1, p_rng, pmT, pmC, p_eq0, not_true_eq_false, not_false_eq_true, if_true, if_false, and_true, true_and, and_false, false_and, or_true, true_or, or_false, false_or, and_self, or_self, iff_true, true_iff, iff_false, false_iff, decide_eq_true_eq, decide_true, decide_false, Int32.add_zero, Nat.add_zero, ne_eq, Bool.false_eq_true, eq_self])
    exact zIret () hx hb hr hlocks hK (by show va_P D vwCl (MW ct o (F_could y v x1 x2).2 R) H; rw [e9]; exact hP) (by show va_D A (MW ct o (F_could y v x1 x2).2 R); rw [e9]; exact hD) hS dX11_could_17 (show (-1) = (F_could y v x1 x2).1 from (by rw [e9]))
  · skip
    refine lv_aload_n hx hb dX11_could_8 rfl (lv_at hl 0 rfl) ?_
    refine lv_iload_n hx hb dX11_could_9 rfl (lv_at hl 2 rfl) ?_
    refine zVI [.int (x2)] [] (kX11_isRoad (o) (v) (R) (x2) (y) (show y_n (y) ≤ 12 ∧ y_cn (y) ≤ 4 ∧ y_rn (y) ≤ 5 from hB) (show RelI (y) (m_g v) from hq)) hx hb hml hown hts (cwV 1 hts gX11_could_X11_isRoad rfl rfl rfl (by decide +kernel) ⟨(Nat.le_of_ble_eq_true rfl), (Nat.le_of_ble_eq_true rfl)⟩) hK hP hD hS hA (va_recv hK hP (ci := 10) (q0 := 0) rfl rfl) rfl hl.1 rfl (Nat.le_of_ble_eq_true rfl) dX11_could_10 ⟨(Nat.le_of_ble_eq_true rfl), (Nat.le_of_ble_eq_true rfl)⟩ (fun r_10 _ H locs hr_10 hP hD hS => ?_)
    subst hr_10
    have hP : va_P D vwCl (MW ct o v R) H := hP
    have hD : va_D A (MW ct o v R) := hD
    refine zB_if_ne (tgt := 18) hx hb dX11_could_13 (by decide) (fun c13_2 => ?_) (fun c13_2 => ?_)
    · skip
      refine lv_aload_n hx hb dX11_could_18 rfl (lv_at hl 0 rfl) ?_
      refine lv_iconst (v := nI (0)) hx hb dX11_could_19 (by decide) ?_
      refine lv_bipush (v := nI (11)) hx hb dX11_could_20 (by decide) ?_
      refine zVV [.int (nI (0)), .int (nI (11))] [] (kX11_copies (o) (v) (R) (0) (11) (show (0) < 12 from by omega) (show (11) < 12 from by omega)) hx hb hml hown hts (cwV 2 hts gX11_could_X11_copies rfl rfl rfl (by decide +kernel) ⟨(Nat.le_of_ble_eq_true rfl), (Nat.le_of_ble_eq_true rfl)⟩) hK hP hD hS hA (va_recv hK hP (ci := 10) (q0 := 0) rfl rfl) rfl hl.1 rfl (Nat.le_of_ble_eq_true rfl) dX11_could_22 ⟨(Nat.le_of_ble_eq_true rfl), (Nat.le_of_ble_eq_true rfl)⟩ (fun _ H locs hr_22 hP hD hS => ?_)
      have hP : va_P D vwCl (MW ct o ((cpb (m_g v) 81 (0) (11) 81), (cpf (m_fl v) 9 (0) (11) 9), (m_ch v), (m_sv v), (m_why v), (m_det v), (m_li v), (m_ld v), (m_wt v), (m_wm v), (m_ln v), (m_lz v), (m_in v), (m_ty v), (m_he v), (m_wa v), (m_fa v), (m_cm v), (m_cz v)) R) H := hP
      have hD : va_D A (MW ct o ((cpb (m_g v) 81 (0) (11) 81), (cpf (m_fl v) 9 (0) (11) 9), (m_ch v), (m_sv v), (m_why v), (m_det v), (m_li v), (m_ld v), (m_wt v), (m_wm v), (m_ln v), (m_lz v), (m_in v), (m_ty v), (m_he v), (m_wa v), (m_fa v), (m_cm v), (m_cz v)) R) := hD
      refine lv_aload_n hx hb dX11_could_25 rfl (lv_at hl 0 rfl) ?_
      refine va_get (ci := 10) (v := .int ((m_why v))) hx hb hts h_X11 hown hK hP 0 rfl rfl 4 (by decide) f41 (fun _ h9 => h9) rfl dX11_could_26 ?_
      refine lv_istore_n (lv' := [(3, .int ((m_why v))), (0, .ref (o 0)), (1, .int (x1)), (2, .int (x2))]) hx hb dX11_could_29 rfl hl (by decide) rfl (fun ls hl => ?_)
      refine lv_aload_n hx hb dX11_could_30 rfl (lv_at hl 1 rfl) ?_
      refine va_get (ci := 10) (v := .int ((m_det v))) hx hb hts h_X11 hown hK hP 0 rfl rfl 5 (by decide) f44 (fun _ h9 => h9) rfl dX11_could_31 ?_
      refine lv_istore (lv' := [(4, .int ((m_det v))), (3, .int ((m_why v))), (0, .ref (o 0)), (1, .int (x1)), (2, .int (x2))]) hx hb dX11_could_34 hl (by decide) rfl (fun ls hl => ?_)
      refine lv_aload_n hx hb dX11_could_36 rfl (lv_at hl 2 rfl) ?_
      refine va_get (ci := 10) (v := .int ((m_li v))) hx hb hts h_X11 hown hK hP 0 rfl rfl 6 (by decide) f47 (fun _ h9 => h9) rfl dX11_could_37 ?_
      refine lv_istore (lv' := [(5, .int ((m_li v))), (4, .int ((m_det v))), (3, .int ((m_why v))), (0, .ref (o 0)), (1, .int (x1)), (2, .int (x2))]) hx hb dX11_could_40 hl (by decide) rfl (fun ls hl => ?_)
      refine lv_iconst (v := nI (0)) hx hb dX11_could_42 (by decide) ?_
      refine lv_istore (lv' := [(6, .int (nI (0))), (5, .int ((m_li v))), (4, .int ((m_det v))), (3, .int ((m_why v))), (0, .ref (o 0)), (1, .int (x1)), (2, .int (x2))]) hx hb dX11_could_43 hl (by decide) rfl (fun ls hl => ?_)
      have lp45 : ∀ (fu : Nat) (j : Nat) (g1 : Nat → Int32) (f1 : Nat → UInt32) (wy : Int32) (de : Int32) (li : Int32) (H : Heap) (locs : List Loc) (ls : Array Slot), (j ≤ 99) → (RelI y g1) → (∀ j, j < 9 → nF (f1 j)) → (∀ j, 81 ≤ j → g1 j = cpb (m_g v) 81 0 11 81 j) → (∀ j, 9 ≤ j → f1 j = cpf (m_fl v) 9 0 11 9 j) → (j + goM y x1 x2 (99 - j) (mS v g1 f1 wy de li) = goM y x1 x2 99 (mTry v)) → 99 - j < fu → va_P D vwCl (MW ct o (g1, f1, m_ch v, m_sv v, wy, de, li, m_ld v, m_wt v, m_wm v, m_ln v, m_lz v, m_in v, m_ty v, m_he v, m_wa v, m_fa v, m_cm v, m_cz v) R) H → va_D A (MW ct o (g1, f1, m_ch v, m_sv v, wy, de, li, m_ld v, m_wt v, m_wm v, m_ln v, m_lz v, m_in v, m_ty v, m_he v, m_wa v, m_fa v, m_cm v, m_cz v) R) → va_S A s.heap H locs → lv_has ls 7 [(0, .ref (o 0)), (1, .int (x1)), (2, .int (x2)), (3, .int ((m_why v))), (4, .int ((m_det v))), (5, .int ((m_li v))), (6, .int (nI (j)))] → W p l e rmX11_could s m args below meth c H locs 0 0 (MQ below (va_Qi (fun r0 (_ : Unit) => r0 = (F_could y v x1 x2).1) (zB D ct A (fun _ : Unit => MW ct o (F_could y v x1 x2).2 R)) A) args s rmX11_could.cells rmX11_could.slots A) (F0 m 45 ls []) := by
        intro fu
        induction fu with
        | zero => intro j g1 f1 wy de li H locs ls hj hqg hfg hgt hft htot hfu; exact absurd hfu (Nat.not_lt_zero _)
        | succ fu ih45 =>
          intro j g1 f1 wy de li H locs ls hj hqg hfg hgt hft htot hfu hP hD hS hl
          refine lv_iload hx hb dX11_could_45 (lv_at hl 6 rfl) ?_
          refine lv_bipush (v := nI (99)) hx hb dX11_could_47 (by decide) ?_
          refine zN_icmp_ge (tgt := 67) hx hb (by omega) (by omega) dX11_could_49 (by decide) (fun c49_3 => ?_) (fun c49_3 => ?_)
          · skip
            refine lv_aload_n hx hb dX11_could_67 rfl (lv_at hl 0 rfl) ?_
            refine lv_iload_n hx hb dX11_could_68 rfl (lv_at hl 3 rfl) ?_
            refine va_put (ci := 10) (v := .int ((m_why v))) (ty := .int) hx hb hts h_X11 tyX11 tyX11_ok nmX11 hown hK hP hD hS 0 rfl rfl 4 (by decide) f41 (fun _ h9 => h9) rfl (by decide +kernel) rfl rfl (Nat.le_of_ble_eq_true rfl) dX11_could_69 (fun H locs hP hD hS => ?_)
            have hP : va_P D vwCl (MW ct o (g1, f1, m_ch v, m_sv v, (m_why v), de, li, m_ld v, m_wt v, m_wm v, m_ln v, m_lz v, m_in v, m_ty v, m_he v, m_wa v, m_fa v, m_cm v, m_cz v) R) H := hP
            have hD : va_D A (MW ct o (g1, f1, m_ch v, m_sv v, (m_why v), de, li, m_ld v, m_wt v, m_wm v, m_ln v, m_lz v, m_in v, m_ty v, m_he v, m_wa v, m_fa v, m_cm v, m_cz v) R) := hD
            refine lv_aload_n hx hb dX11_could_72 rfl (lv_at hl 0 rfl) ?_
            refine lv_iload hx hb dX11_could_73 (lv_at hl 4 rfl) ?_
            refine va_put (ci := 10) (v := .int ((m_det v))) (ty := .int) hx hb hts h_X11 tyX11 tyX11_ok nmX11 hown hK hP hD hS 0 rfl rfl 5 (by decide) f44 (fun _ h9 => h9) rfl (by decide +kernel) rfl rfl (Nat.le_of_ble_eq_true rfl) dX11_could_75 (fun H locs hP hD hS => ?_)
            have hP : va_P D vwCl (MW ct o (g1, f1, m_ch v, m_sv v, (m_why v), (m_det v), li, m_ld v, m_wt v, m_wm v, m_ln v, m_lz v, m_in v, m_ty v, m_he v, m_wa v, m_fa v, m_cm v, m_cz v) R) H := hP
            have hD : va_D A (MW ct o (g1, f1, m_ch v, m_sv v, (m_why v), (m_det v), li, m_ld v, m_wt v, m_wm v, m_ln v, m_lz v, m_in v, m_ty v, m_he v, m_wa v, m_fa v, m_cm v, m_cz v) R) := hD
            refine lv_aload_n hx hb dX11_could_78 rfl (lv_at hl 0 rfl) ?_
            refine lv_iload hx hb dX11_could_79 (lv_at hl 5 rfl) ?_
            refine va_put (ci := 10) (v := .int ((m_li v))) (ty := .int) hx hb hts h_X11 tyX11 tyX11_ok nmX11 hown hK hP hD hS 0 rfl rfl 6 (by decide) f47 (fun _ h9 => h9) rfl (by decide +kernel) rfl rfl (Nat.le_of_ble_eq_true rfl) dX11_could_81 (fun H locs hP hD hS => ?_)
            have hP : va_P D vwCl (MW ct o (g1, f1, m_ch v, m_sv v, (m_why v), (m_det v), (m_li v), m_ld v, m_wt v, m_wm v, m_ln v, m_lz v, m_in v, m_ty v, m_he v, m_wa v, m_fa v, m_cm v, m_cz v) R) H := hP
            have hD : va_D A (MW ct o (g1, f1, m_ch v, m_sv v, (m_why v), (m_det v), (m_li v), m_ld v, m_wt v, m_wm v, m_ln v, m_lz v, m_in v, m_ty v, m_he v, m_wa v, m_fa v, m_cm v, m_cz v) R) := hD
            refine lv_aload_n hx hb dX11_could_84 rfl (lv_at hl 0 rfl) ?_
            refine lv_bipush (v := nI (11)) hx hb dX11_could_85 (by decide) ?_
            refine lv_iconst (v := nI (0)) hx hb dX11_could_87 (by decide) ?_
            refine zVV [.int (nI (11)), .int (nI (0))] [] (kX11_copies (o) ((g1, f1, m_ch v, m_sv v, (m_why v), (m_det v), (m_li v), m_ld v, m_wt v, m_wm v, m_ln v, m_lz v, m_in v, m_ty v, m_he v, m_wa v, m_fa v, m_cm v, m_cz v)) (R) (11) (0) (show (11) < 12 from by omega) (show (0) < 12 from by omega)) hx hb hml hown hts (cwV 2 hts gX11_could_X11_copies rfl rfl rfl (by decide +kernel) ⟨(Nat.le_of_ble_eq_true rfl), (Nat.le_of_ble_eq_true rfl)⟩) hK hP hD hS hA (va_recv hK hP (ci := 10) (q0 := 0) rfl rfl) rfl hl.1 rfl (Nat.le_of_ble_eq_true rfl) dX11_could_88 ⟨(Nat.le_of_ble_eq_true rfl), (Nat.le_of_ble_eq_true rfl)⟩ (fun _ H locs hr_88 hP hD hS => ?_)
            have hP : va_P D vwCl (MW ct o ((cpb (g1) 81 (11) (0) 81), (cpf (f1) 9 (11) (0) 9), (m_ch v), (m_sv v), (m_why v), (m_det v), (m_li v), (m_ld v), (m_wt v), (m_wm v), (m_ln v), (m_lz v), (m_in v), (m_ty v), (m_he v), (m_wa v), (m_fa v), (m_cm v), (m_cz v)) R) H := hP
            have hD : va_D A (MW ct o ((cpb (g1) 81 (11) (0) 81), (cpf (f1) 9 (11) (0) 9), (m_ch v), (m_sv v), (m_why v), (m_det v), (m_li v), (m_ld v), (m_wt v), (m_wm v), (m_ln v), (m_lz v), (m_in v), (m_ty v), (m_he v), (m_wa v), (m_fa v), (m_cm v), (m_cz v)) R) := hD
            refine lv_iload hx hb dX11_could_91 (lv_at hl 6 rfl) ?_
            have e1 : goM y x1 x2 (99 - j) (mS v g1 f1 wy de li) = 0 := by rw [show 99 - j = 0 by omega]; rfl
            have e2 : goM y x1 x2 99 (mTry v) = j := by omega
            have e3 := try_back (g := m_g v) (g1 := g1) hgt
            have e4 := try_fback (g := m_fl v) (g1 := f1) hft
            have e9 : F_could y v x1 x2 = (nI (j), ((cpb (g1) 81 (11) (0) 81), (cpf (f1) 9 (11) (0) 9), (m_ch v), (m_sv v), (m_why v), (m_det v), (m_li v), (m_ld v), (m_wt v), (m_wm v), (m_ln v), (m_lz v), (m_in v), (m_ty v), (m_he v), (m_wa v), (m_fa v), (m_cm v), (m_cz v))) := (by rw [F_could, if_neg (fun q => q.elim (fun q => q c5_1) (fun q => q c13_2)), e2, e3, e4])
            exact zIret () hx hb hr hlocks hK (by show va_P D vwCl (MW ct o (F_could y v x1 x2).2 R) H; rw [e9]; exact hP) (by show va_D A (MW ct o (F_could y v x1 x2).2 R); rw [e9]; exact hD) hS dX11_could_93 (show nI (j) = (F_could y v x1 x2).1 from (by rw [e9]))
          · skip
            refine lv_aload_n hx hb dX11_could_52 rfl (lv_at hl 0 rfl) ?_
            refine lv_iload_n hx hb dX11_could_53 rfl (lv_at hl 1 rfl) ?_
            refine lv_iload_n hx hb dX11_could_54 rfl (lv_at hl 2 rfl) ?_
            refine zVI [.int (x1), .int (x2)] [] (kX11_goes (o) ((g1, f1, m_ch v, m_sv v, wy, de, li, m_ld v, m_wt v, m_wm v, m_ln v, m_lz v, m_in v, m_ty v, m_he v, m_wa v, m_fa v, m_cm v, m_cz v)) (R) (x1) (x2) (y) (show yI (y) from hy) (show RelI (y) (g1) from hqg) (show ∀ j, j < 9 → nF (f1 j) from hfg)) hx hb hml hown hts (cwV 2 hts gX11_could_X11_goes rfl rfl rfl (by decide +kernel) ⟨(Nat.le_of_ble_eq_true rfl), (Nat.le_of_ble_eq_true rfl)⟩) hK hP hD hS hA (va_recv hK hP (ci := 10) (q0 := 0) rfl rfl) rfl hl.1 rfl (Nat.le_of_ble_eq_true rfl) dX11_could_55 ⟨(Nat.le_of_ble_eq_true rfl), (Nat.le_of_ble_eq_true rfl)⟩ (fun r_55 _ H locs hr_55 hP hD hS => ?_)
            subst hr_55
            have hP : va_P D vwCl (MW ct o (F_goes (y) (g1, f1, m_ch v, m_sv v, wy, de, li, m_ld v, m_wt v, m_wm v, m_ln v, m_lz v, m_in v, m_ty v, m_he v, m_wa v, m_fa v, m_cm v, m_cz v) (x1) (x2)).2 R) H := hP
            have hD : va_D A (MW ct o (F_goes (y) (g1, f1, m_ch v, m_sv v, wy, de, li, m_ld v, m_wt v, m_wm v, m_ln v, m_lz v, m_in v, m_ty v, m_he v, m_wa v, m_fa v, m_cm v, m_cz v) (x1) (x2)).2 R) := hD
            refine lv_if_lt (tgt := 67) hx hb dX11_could_58 (by decide) (fun c58_4 => ?_) (fun c58_4 => ?_)
            · skip
              have hs := goes_shape y (mS v g1 f1 wy de li) x1 x2
              have hP : va_P D vwCl (MW ct o ((m_g (F_goes y (mS v g1 f1 wy de li) x1 x2).2), (m_fl (F_goes y (mS v g1 f1 wy de li) x1 x2).2), m_ch v, m_sv v, (m_why (F_goes y (mS v g1 f1 wy de li) x1 x2).2), (m_det (F_goes y (mS v g1 f1 wy de li) x1 x2).2), (m_li (F_goes y (mS v g1 f1 wy de li) x1 x2).2), m_ld v, m_wt v, m_wm v, m_ln v, m_lz v, m_in v, m_ty v, m_he v, m_wa v, m_fa v, m_cm v, m_cz v) R) H := Eq.mp (congrArg (fun z => va_P D vwCl (MW ct o z R) H) hs) hP
              have hD : va_D A (MW ct o ((m_g (F_goes y (mS v g1 f1 wy de li) x1 x2).2), (m_fl (F_goes y (mS v g1 f1 wy de li) x1 x2).2), m_ch v, m_sv v, (m_why (F_goes y (mS v g1 f1 wy de li) x1 x2).2), (m_det (F_goes y (mS v g1 f1 wy de li) x1 x2).2), (m_li (F_goes y (mS v g1 f1 wy de li) x1 x2).2), m_ld v, m_wt v, m_wm v, m_ln v, m_lz v, m_in v, m_ty v, m_he v, m_wa v, m_fa v, m_cm v, m_cz v) R) := Eq.mp (congrArg (fun z => va_D A (MW ct o z R)) hs) hD
              refine lv_aload_n hx hb dX11_could_67 rfl (lv_at hl 0 rfl) ?_
              refine lv_iload_n hx hb dX11_could_68 rfl (lv_at hl 3 rfl) ?_
              refine va_put (ci := 10) (v := .int ((m_why v))) (ty := .int) hx hb hts h_X11 tyX11 tyX11_ok nmX11 hown hK hP hD hS 0 rfl rfl 4 (by decide) f41 (fun _ h9 => h9) rfl (by decide +kernel) rfl rfl (Nat.le_of_ble_eq_true rfl) dX11_could_69 (fun H locs hP hD hS => ?_)
              have hP : va_P D vwCl (MW ct o ((m_g (F_goes y (mS v g1 f1 wy de li) x1 x2).2), (m_fl (F_goes y (mS v g1 f1 wy de li) x1 x2).2), m_ch v, m_sv v, (m_why v), (m_det (F_goes y (mS v g1 f1 wy de li) x1 x2).2), (m_li (F_goes y (mS v g1 f1 wy de li) x1 x2).2), m_ld v, m_wt v, m_wm v, m_ln v, m_lz v, m_in v, m_ty v, m_he v, m_wa v, m_fa v, m_cm v, m_cz v) R) H := hP
              have hD : va_D A (MW ct o ((m_g (F_goes y (mS v g1 f1 wy de li) x1 x2).2), (m_fl (F_goes y (mS v g1 f1 wy de li) x1 x2).2), m_ch v, m_sv v, (m_why v), (m_det (F_goes y (mS v g1 f1 wy de li) x1 x2).2), (m_li (F_goes y (mS v g1 f1 wy de li) x1 x2).2), m_ld v, m_wt v, m_wm v, m_ln v, m_lz v, m_in v, m_ty v, m_he v, m_wa v, m_fa v, m_cm v, m_cz v) R) := hD
              refine lv_aload_n hx hb dX11_could_72 rfl (lv_at hl 0 rfl) ?_
              refine lv_iload hx hb dX11_could_73 (lv_at hl 4 rfl) ?_
              refine va_put (ci := 10) (v := .int ((m_det v))) (ty := .int) hx hb hts h_X11 tyX11 tyX11_ok nmX11 hown hK hP hD hS 0 rfl rfl 5 (by decide) f44 (fun _ h9 => h9) rfl (by decide +kernel) rfl rfl (Nat.le_of_ble_eq_true rfl) dX11_could_75 (fun H locs hP hD hS => ?_)
              have hP : va_P D vwCl (MW ct o ((m_g (F_goes y (mS v g1 f1 wy de li) x1 x2).2), (m_fl (F_goes y (mS v g1 f1 wy de li) x1 x2).2), m_ch v, m_sv v, (m_why v), (m_det v), (m_li (F_goes y (mS v g1 f1 wy de li) x1 x2).2), m_ld v, m_wt v, m_wm v, m_ln v, m_lz v, m_in v, m_ty v, m_he v, m_wa v, m_fa v, m_cm v, m_cz v) R) H := hP
              have hD : va_D A (MW ct o ((m_g (F_goes y (mS v g1 f1 wy de li) x1 x2).2), (m_fl (F_goes y (mS v g1 f1 wy de li) x1 x2).2), m_ch v, m_sv v, (m_why v), (m_det v), (m_li (F_goes y (mS v g1 f1 wy de li) x1 x2).2), m_ld v, m_wt v, m_wm v, m_ln v, m_lz v, m_in v, m_ty v, m_he v, m_wa v, m_fa v, m_cm v, m_cz v) R) := hD
              refine lv_aload_n hx hb dX11_could_78 rfl (lv_at hl 0 rfl) ?_
              refine lv_iload hx hb dX11_could_79 (lv_at hl 5 rfl) ?_
              refine va_put (ci := 10) (v := .int ((m_li v))) (ty := .int) hx hb hts h_X11 tyX11 tyX11_ok nmX11 hown hK hP hD hS 0 rfl rfl 6 (by decide) f47 (fun _ h9 => h9) rfl (by decide +kernel) rfl rfl (Nat.le_of_ble_eq_true rfl) dX11_could_81 (fun H locs hP hD hS => ?_)
              have hP : va_P D vwCl (MW ct o ((m_g (F_goes y (mS v g1 f1 wy de li) x1 x2).2), (m_fl (F_goes y (mS v g1 f1 wy de li) x1 x2).2), m_ch v, m_sv v, (m_why v), (m_det v), (m_li v), m_ld v, m_wt v, m_wm v, m_ln v, m_lz v, m_in v, m_ty v, m_he v, m_wa v, m_fa v, m_cm v, m_cz v) R) H := hP
              have hD : va_D A (MW ct o ((m_g (F_goes y (mS v g1 f1 wy de li) x1 x2).2), (m_fl (F_goes y (mS v g1 f1 wy de li) x1 x2).2), m_ch v, m_sv v, (m_why v), (m_det v), (m_li v), m_ld v, m_wt v, m_wm v, m_ln v, m_lz v, m_in v, m_ty v, m_he v, m_wa v, m_fa v, m_cm v, m_cz v) R) := hD
              refine lv_aload_n hx hb dX11_could_84 rfl (lv_at hl 0 rfl) ?_
              refine lv_bipush (v := nI (11)) hx hb dX11_could_85 (by decide) ?_
              refine lv_iconst (v := nI (0)) hx hb dX11_could_87 (by decide) ?_
              refine zVV [.int (nI (11)), .int (nI (0))] [] (kX11_copies (o) (((m_g (F_goes y (mS v g1 f1 wy de li) x1 x2).2), (m_fl (F_goes y (mS v g1 f1 wy de li) x1 x2).2), m_ch v, m_sv v, (m_why v), (m_det v), (m_li v), m_ld v, m_wt v, m_wm v, m_ln v, m_lz v, m_in v, m_ty v, m_he v, m_wa v, m_fa v, m_cm v, m_cz v)) (R) (11) (0) (show (11) < 12 from by omega) (show (0) < 12 from by omega)) hx hb hml hown hts (cwV 2 hts gX11_could_X11_copies rfl rfl rfl (by decide +kernel) ⟨(Nat.le_of_ble_eq_true rfl), (Nat.le_of_ble_eq_true rfl)⟩) hK hP hD hS hA (va_recv hK hP (ci := 10) (q0 := 0) rfl rfl) rfl hl.1 rfl (Nat.le_of_ble_eq_true rfl) dX11_could_88 ⟨(Nat.le_of_ble_eq_true rfl), (Nat.le_of_ble_eq_true rfl)⟩ (fun _ H locs hr_88 hP hD hS => ?_)
              have hP : va_P D vwCl (MW ct o ((cpb ((m_g (F_goes y (mS v g1 f1 wy de li) x1 x2).2)) 81 (11) (0) 81), (cpf ((m_fl (F_goes y (mS v g1 f1 wy de li) x1 x2).2)) 9 (11) (0) 9), (m_ch v), (m_sv v), (m_why v), (m_det v), (m_li v), (m_ld v), (m_wt v), (m_wm v), (m_ln v), (m_lz v), (m_in v), (m_ty v), (m_he v), (m_wa v), (m_fa v), (m_cm v), (m_cz v)) R) H := hP
              have hD : va_D A (MW ct o ((cpb ((m_g (F_goes y (mS v g1 f1 wy de li) x1 x2).2)) 81 (11) (0) 81), (cpf ((m_fl (F_goes y (mS v g1 f1 wy de li) x1 x2).2)) 9 (11) (0) 9), (m_ch v), (m_sv v), (m_why v), (m_det v), (m_li v), (m_ld v), (m_wt v), (m_wm v), (m_ln v), (m_lz v), (m_in v), (m_ty v), (m_he v), (m_wa v), (m_fa v), (m_cm v), (m_cz v)) R) := hD
              refine lv_iload hx hb dX11_could_91 (lv_at hl 6 rfl) ?_
              have e1 : goM y x1 x2 (99 - j) (mS v g1 f1 wy de li) = 0 := goM_e c58_4
              have e2 : goM y x1 x2 99 (mTry v) = j := by omega
              have e3 := try_back (g := m_g v) (g1 := m_g (F_goes y (mS v g1 f1 wy de li) x1 x2).2) (fun j hj => (goes_hi hB j hj).trans (hgt j hj))
              have e4 := try_fback (g := m_fl v) (g1 := m_fl (F_goes y (mS v g1 f1 wy de li) x1 x2).2) (fun j hj => (goes_fhi hB j hj).trans (hft j hj))
              have e9 : F_could y v x1 x2 = (nI (j), ((cpb ((m_g (F_goes y (mS v g1 f1 wy de li) x1 x2).2)) 81 (11) (0) 81), (cpf ((m_fl (F_goes y (mS v g1 f1 wy de li) x1 x2).2)) 9 (11) (0) 9), (m_ch v), (m_sv v), (m_why v), (m_det v), (m_li v), (m_ld v), (m_wt v), (m_wm v), (m_ln v), (m_lz v), (m_in v), (m_ty v), (m_he v), (m_wa v), (m_fa v), (m_cm v), (m_cz v))) := (by rw [F_could, if_neg (fun q => q.elim (fun q => q c5_1) (fun q => q c13_2)), e2, e3, e4])
              exact zIret () hx hb hr hlocks hK (by show va_P D vwCl (MW ct o (F_could y v x1 x2).2 R) H; rw [e9]; exact hP) (by show va_D A (MW ct o (F_could y v x1 x2).2 R); rw [e9]; exact hD) hS dX11_could_93 (show nI (j) = (F_could y v x1 x2).1 from (by rw [e9]))
            · skip
              have hs := goes_shape y (mS v g1 f1 wy de li) x1 x2
              have hP : va_P D vwCl (MW ct o ((m_g (F_goes y (mS v g1 f1 wy de li) x1 x2).2), (m_fl (F_goes y (mS v g1 f1 wy de li) x1 x2).2), m_ch v, m_sv v, (m_why (F_goes y (mS v g1 f1 wy de li) x1 x2).2), (m_det (F_goes y (mS v g1 f1 wy de li) x1 x2).2), (m_li (F_goes y (mS v g1 f1 wy de li) x1 x2).2), m_ld v, m_wt v, m_wm v, m_ln v, m_lz v, m_in v, m_ty v, m_he v, m_wa v, m_fa v, m_cm v, m_cz v) R) H := Eq.mp (congrArg (fun z => va_P D vwCl (MW ct o z R) H) hs) hP
              have hD : va_D A (MW ct o ((m_g (F_goes y (mS v g1 f1 wy de li) x1 x2).2), (m_fl (F_goes y (mS v g1 f1 wy de li) x1 x2).2), m_ch v, m_sv v, (m_why (F_goes y (mS v g1 f1 wy de li) x1 x2).2), (m_det (F_goes y (mS v g1 f1 wy de li) x1 x2).2), (m_li (F_goes y (mS v g1 f1 wy de li) x1 x2).2), m_ld v, m_wt v, m_wm v, m_ln v, m_lz v, m_in v, m_ty v, m_he v, m_wa v, m_fa v, m_cm v, m_cz v) R) := Eq.mp (congrArg (fun z => va_D A (MW ct o z R)) hs) hD
              refine lv_iinc (v := nI ((j + 1))) (lv' := [(6, .int (nI ((j + 1)))), (0, .ref (o 0)), (1, .int (x1)), (2, .int (x2)), (3, .int ((m_why v))), (4, .int ((m_det v))), (5, .int ((m_li v)))]) hx hb dX11_could_61 hl (k := 6) rfl (zInc _) (by decide) rfl (fun ls hl => ?_)
              refine lv_goto (tgt := 45) hx hb dX11_could_64 (by decide) ?_
              exact ih45 ((j + 1)) (m_g (F_goes y (mS v g1 f1 wy de li) x1 x2).2) (m_fl (F_goes y (mS v g1 f1 wy de li) x1 x2).2) (m_why (F_goes y (mS v g1 f1 wy de li) x1 x2).2) (m_det (F_goes y (mS v g1 f1 wy de li) x1 x2).2) (m_li (F_goes y (mS v g1 f1 wy de li) x1 x2).2) H locs ls (by omega) (goes_rel hB hqg) (goes_nF hy hfg) (fun j hj => (goes_hi hB j hj).trans (hgt j hj)) (fun j hj => (goes_fhi hB j hj).trans (hft j hj)) (by rw [← hs]; exact (goM_s (by omega) c58_4).trans htot) (by omega) hP hD hS (lv_sub hl [1, 2, 3, 4, 5, 6, 0] rfl)
      exact lp45 ((99 - (0)) + 1) (0) (cpb (m_g v) 81 0 11 81) (cpf (m_fl v) 9 0 11 9) (m_why v) (m_det v) (m_li v) H locs ls (by omega) (RelI_cpb hB hq (by decide)) (cpf_nF (by decide) hf9) (fun _ _ => rfl) (fun _ _ => rfl) (Nat.zero_add _) (Nat.lt_succ_self _) hP hD hS (lv_sub hl [4, 5, 6, 3, 2, 1, 0] rfl)
    · skip
      refine lv_iconst (v := (-1)) hx hb dX11_could_16 (by decide) ?_
      have e9 : F_could y v x1 x2 = ((-1), v) := (by simp only [F_could, c5_1, c13_2, p_in, p_worn, p_wi, p_creak, p_le0, p_lt1, p_rng, pmT, pmC, p_eq0, not_true_eq_false, not_false_eq_true, if_true, if_false, and_true, true_and, and_false, false_and, or_true, true_or, or_false, false_or, and_self, or_self, iff_true, true_iff, iff_false, false_iff, decide_eq_true_eq, decide_true, decide_false, Int32.add_zero, Nat.add_zero, ne_eq, Bool.false_eq_true, eq_self])
      exact zIret () hx hb hr hlocks hK (by show va_P D vwCl (MW ct o (F_could y v x1 x2).2 R) H; rw [e9]; exact hP) (by show va_D A (MW ct o (F_could y v x1 x2).2 R); rw [e9]; exact hD) hS dX11_could_17 (show (-1) = (F_could y v x1 x2).1 from (by rw [e9]))
abbrev rmX11_cheapest : Room := { frames := 4, cells := 0, slots := 0, locals := 91 }
theorem in_X11_cheapest_X11 : ∀ w ∈ u_ws RX11 TX11 19, w ∈ wsX11_cheapest := by decide +kernel
set_option maxHeartbeats 4000000 in
set_option maxRecDepth 100000 in
theorem kX11_cheapest {D : va_G} {ct : Nat → ClassId} {l : Launch} (o : Nat → Nat) (v : MS) (R : va_W) (x1 : Int32) (y : YS) (hy : yI y) (hq : RelI y (m_g v)) : MI D ct l yX11_cheapest wsX11_cheapest rmX11_cheapest (MW ct o v R) [.ref (o 0), .int (x1)] (fun r0 (_ : Unit) => r0 = a_chM y x1) (fun _ : Unit => MW ct o v R) := by
  refine MIof (cc := cX11_cheapest) (maxL := 5) (ret := (some .int)) (by decide) rfl (Nat.le_of_ble_eq_true rfl) ?_
  intro p e s m args below meth c A H locs F hP hK hD hS hA ls hl
  obtain ⟨hx, hb, hr, hlocks, hml, hown, hts, hin⟩ := F
  have hl : lv_has ls 5 [(0, .ref (o 0)), (1, .int (x1))] := hl
  have hB : y_n y ≤ 12 ∧ y_cn y ≤ 4 ∧ y_rn y ≤ 5 := ⟨hy.1, hy.2.1, hy.2.2.1⟩
  have hn : y_n y ≤ 12 := hy.1
  have hcn : y_cn y ≤ 4 := hy.2.1
  have hrn : y_rn y ≤ 5 := hy.2.2.1
  have h_X11 := in_X11_cheapest_X11
  have f9 := hts (.fieldLink RX11 9 "CartArgumentsModel" "all" "[I") (by decide +kernel)
  refine lv_aload_n hx hb dX11_cheapest_0 rfl (lv_at hl 0 rfl) ?_
  refine lv_iload_n hx hb dX11_cheapest_1 rfl (lv_at hl 1 rfl) ?_
  refine zVI [.int (x1)] [] (kX11_isCart (o) (v) (R) (x1) (y) (show y_n (y) ≤ 12 ∧ y_cn (y) ≤ 4 ∧ y_rn (y) ≤ 5 from hB) (show RelI (y) (m_g v) from hq)) hx hb hml hown hts (cwV 1 hts gX11_cheapest_X11_isCart rfl rfl rfl (by decide +kernel) ⟨(Nat.le_of_ble_eq_true rfl), (Nat.le_of_ble_eq_true rfl)⟩) hK hP hD hS hA (va_recv hK hP (ci := 10) (q0 := 0) rfl rfl) rfl hl.1 rfl (Nat.le_of_ble_eq_true rfl) dX11_cheapest_2 ⟨(Nat.le_of_ble_eq_true rfl), (Nat.le_of_ble_eq_true rfl)⟩ (fun r_2 _ H locs hr_2 hP hD hS => ?_)
  subst hr_2
  have hP : va_P D vwCl (MW ct o v R) H := hP
  have hD : va_D A (MW ct o v R) := hD
  refine zB_if_ne (tgt := 10) hx hb dX11_cheapest_5 (by decide) (fun c5_1 => ?_) (fun c5_1 => ?_)
  · skip
    obtain ⟨k1, hk1, ek1⟩ := p_in_ex (n := y_cn y) (by omega) c5_1
    subst ek1
    have hclk1 : (nI k1).toNatClampNeg = k1 := nI_clamp (by omega)
    refine lv_bipush (v := (-4)) hx hb dX11_cheapest_10 (by decide) ?_
    refine lv_istore_n (lv' := [(2, .int ((-4))), (0, .ref (o 0)), (1, .int (nI (k1)))]) hx hb dX11_cheapest_12 rfl hl (by decide) rfl (fun ls hl => ?_)
    refine lv_iconst (v := nI (0)) hx hb dX11_cheapest_13 (by decide) ?_
    refine lv_istore_n (lv' := [(3, .int (nI (0))), (2, .int ((-4))), (0, .ref (o 0)), (1, .int (nI (k1)))]) hx hb dX11_cheapest_14 rfl hl (by decide) rfl (fun ls hl => ?_)
    have lp15 : ∀ (fu : Nat) (k : Nat) (oo : Option Nat) (H : Heap) (locs : List Loc) (ls : Array Slot), (k ≤ y_rn y) → (∀ f, oo = some f → f < k) → (oo = chM y k1 k) → y_rn y - k < fu → va_P D vwCl (MW ct o v R) H → va_D A (MW ct o v R) → va_S A s.heap H locs → lv_has ls 5 [(0, .ref (o 0)), (1, .int (nI (k1))), (2, .int (foI oo)), (3, .int (nI (k)))] → W p l e rmX11_cheapest s m args below meth c H locs 0 0 (MQ below (va_Qi (fun r0 (_ : Unit) => r0 = a_chM y (nI k1)) (zB D ct A (fun _ : Unit => MW ct o v R)) A) args s rmX11_cheapest.cells rmX11_cheapest.slots A) (F0 m 15 ls []) := by
      intro fu
      induction fu with
      | zero => intro k oo H locs ls hk hof hacc hfu; exact absurd hfu (Nat.not_lt_zero _)
      | succ fu ih15 =>
        intro k oo H locs ls hk hof hacc hfu hP hD hS hl
        refine lv_iload_n hx hb dX11_cheapest_15 rfl (lv_at hl 3 rfl) ?_
        refine lv_aload_n hx hb dX11_cheapest_16 rfl (lv_at hl 0 rfl) ?_
        refine va_get (ci := 10) (v := .ref (o 1)) hx hb hts h_X11 hown hK hP 0 rfl rfl 0 (by decide) f9 (fun _ h9 => h9) rfl dX11_cheapest_17 ?_
        refine lv_iconst (v := nI (2)) hx hb dX11_cheapest_20 (by decide) ?_
        refine zIald (n := 972) (f := m_g v) (i := 2) hx hb hK hP 1 rfl (by omega) (by decide) dX11_cheapest_21 ?_
        refine zTop (y := nI (y_rn y)) hq.2.2.1 ?_
        refine zN_icmp_ge (tgt := 141) hx hb (by omega) (by omega) dX11_cheapest_22 (by decide) (fun c22_2 => ?_) (fun c22_2 => ?_)
        · skip
          refine lv_iload_n hx hb dX11_cheapest_141 rfl (lv_at hl 2 rfl) ?_
          exact zIret () hx hb hr hlocks hK hP hD hS dX11_cheapest_142 (show foI oo = a_chM y (nI k1) from (by obtain rfl : k = y_rn y := (by omega); simp only [hacc, a_chM, ixI, c5_1, hclk1, c22_2, p_in, p_worn, p_wi, p_creak, p_le0, p_lt1, p_rng, pmT, pmC, p_eq0, not_true_eq_false, not_false_eq_true, if_true, if_false, and_true, true_and, and_false, false_and, or_true, true_or, or_false, false_or, and_self, or_self, iff_true, true_iff, iff_false, false_iff, decide_eq_true_eq, decide_true, decide_false, Int32.add_zero, Nat.add_zero, ne_eq, Bool.false_eq_true, eq_self]))
        · skip
          refine lv_aload_n hx hb dX11_cheapest_25 rfl (lv_at hl 0 rfl) ?_
          refine lv_iload_n hx hb dX11_cheapest_26 rfl (lv_at hl 1 rfl) ?_
          refine zVI [.int (nI (k1))] [] (kX11_weightOf (o) (v) (R) (k1) (y) (show y_n (y) ≤ 12 ∧ y_cn (y) ≤ 4 ∧ y_rn (y) ≤ 5 from hB) (show RelI (y) (m_g v) from hq) (show (k1) < 4 from by omega)) hx hb hml hown hts (cwV 1 hts gX11_cheapest_X11_weightOf rfl rfl rfl (by decide +kernel) ⟨(Nat.le_of_ble_eq_true rfl), (Nat.le_of_ble_eq_true rfl)⟩) hK hP hD hS hA (va_recv hK hP (ci := 10) (q0 := 0) rfl rfl) rfl hl.1 rfl (Nat.le_of_ble_eq_true rfl) dX11_cheapest_27 ⟨(Nat.le_of_ble_eq_true rfl), (Nat.le_of_ble_eq_true rfl)⟩ (fun r_27 _ H locs hr_27 hP hD hS => ?_)
          subst hr_27
          have hP : va_P D vwCl (MW ct o v R) H := hP
          have hD : va_D A (MW ct o v R) := hD
          refine lv_aload_n hx hb dX11_cheapest_30 rfl (lv_at hl 0 rfl) ?_
          refine lv_iload_n hx hb dX11_cheapest_31 rfl (lv_at hl 3 rfl) ?_
          refine lv_iconst (v := nI (0)) hx hb dX11_cheapest_32 (by decide) ?_
          refine zVI [.int (nI (k)), .int (nI (0))] [.int ((t_all (y) (nI (k1))))] (kX11_r (o) (v) (R) (k) (0) (show (k) < 5 from by omega) (show (0) < 4 from by omega)) hx hb hml hown hts (cwV 2 hts gX11_cheapest_X11_r rfl rfl rfl (by decide +kernel) ⟨(Nat.le_of_ble_eq_true rfl), (Nat.le_of_ble_eq_true rfl)⟩) hK hP hD hS hA (va_recv hK hP (ci := 10) (q0 := 0) rfl rfl) rfl hl.1 rfl (Nat.le_of_ble_eq_true rfl) dX11_cheapest_33 ⟨(Nat.le_of_ble_eq_true rfl), (Nat.le_of_ble_eq_true rfl)⟩ (fun r_33 _ H locs hr_33 hP hD hS => ?_)
          subst hr_33
          have hP : va_P D vwCl (MW ct o v R) H := hP
          have hD : va_D A (MW ct o v R) := hD
          refine zTop (y := (y_li y (k))) (hq.2.2.2.2.2 k (by omega)).1 ?_
          refine lv_icmp_gt (tgt := 135) hx hb dX11_cheapest_36 (by decide) (fun c36_3 => ?_) (fun c36_3 => ?_)
          · skip
            have h36 : ¬ t_all y (nI k1) ≤ y_li y k := Int32.not_le.mpr c36_3
            refine lv_iinc (v := nI ((k + 1))) (lv' := [(3, .int (nI ((k + 1)))), (0, .ref (o 0)), (1, .int (nI (k1))), (2, .int (foI oo))]) hx hb dX11_cheapest_135 hl (k := 3) rfl (zInc _) (by decide) rfl (fun ls hl => ?_)
            refine lv_goto (tgt := 15) hx hb dX11_cheapest_138 (by decide) ?_
            exact ih15 ((k + 1)) (oo) H locs ls (by omega) (fun f h => Nat.lt_succ_of_lt (hof f h)) (by simp only [chM, ← hacc, nI_0, p_btM, c5_1, hclk1, c22_2, c36_3, h36, p_in, p_worn, p_wi, p_creak, p_le0, p_lt1, p_rng, pmT, pmC, p_eq0, not_true_eq_false, not_false_eq_true, if_true, if_false, and_true, true_and, and_false, false_and, or_true, true_or, or_false, false_or, and_self, or_self, iff_true, true_iff, iff_false, false_iff, decide_eq_true_eq, decide_true, decide_false, Int32.add_zero, Nat.add_zero, ne_eq, Bool.false_eq_true, eq_self]) (by omega) hP hD hS (lv_sub hl [1, 2, 3, 0] rfl)
          · skip
            have h36 : t_all y (nI k1) ≤ y_li y k := Int32.not_lt.mp c36_3
            refine lv_aload_n hx hb dX11_cheapest_39 rfl (lv_at hl 0 rfl) ?_
            refine lv_iload_n hx hb dX11_cheapest_40 rfl (lv_at hl 1 rfl) ?_
            refine lv_iconst (v := nI (1)) hx hb dX11_cheapest_41 (by decide) ?_
            refine lv_iconst (v := nI (0)) hx hb dX11_cheapest_42 (by decide) ?_
            refine zVI [.int (nI (k1)), .int (nI (1)), .int (nI (0))] [] (kX11_onCart_c (o) (v) (R) (k1) (nI (1)) (y) (show y_n (y) ≤ 12 ∧ y_cn (y) ≤ 4 ∧ y_rn (y) ≤ 5 from hB) (show RelI (y) (m_g v) from hq) (show (k1) < 4 from by omega)) hx hb hml hown hts (cwV 3 hts gX11_cheapest_X11_onCart rfl rfl rfl (by decide +kernel) ⟨(Nat.le_of_ble_eq_true rfl), (Nat.le_of_ble_eq_true rfl)⟩) hK hP hD hS hA (va_recv hK hP (ci := 10) (q0 := 0) rfl rfl) rfl hl.1 rfl (Nat.le_of_ble_eq_true rfl) dX11_cheapest_43 ⟨(Nat.le_of_ble_eq_true rfl), (Nat.le_of_ble_eq_true rfl)⟩ (fun r_43 _ H locs hr_43 hP hD hS => ?_)
            subst hr_43
            have hP : va_P D vwCl (MW ct o v R) H := hP
            have hD : va_D A (MW ct o v R) := hD
            refine lv_if_ne (tgt := 52) hx hb dX11_cheapest_46 (by decide) (fun c46_4 => ?_) (fun c46_4 => ?_)
            · skip
              rcases oo with _ | ff
              · skip
                have hl : lv_has ls 5 [(0, .ref (o 0)), (1, .int (nI (k1))), (2, .int ((-4))), (3, .int (nI (k)))] := hl
                refine lv_iload_n hx hb dX11_cheapest_52 rfl (lv_at hl 2 rfl) ?_
                refine lv_bipush (v := (-4)) hx hb dX11_cheapest_53 (by decide) ?_
                refine lv_icmp_ne (tgt := 62) hx hb dX11_cheapest_55 (by decide) (fun c9 => absurd rfl c9) (fun c9 => ?_)
                refine lv_iconst (v := nI (1)) hx hb dX11_cheapest_58 (by decide) ?_
                refine lv_goto (tgt := 63) hx hb dX11_cheapest_59 (by decide) ?_
                refine lv_istore (lv' := [(4, .int (nI (1))), (0, .ref (o 0)), (1, .int (nI (k1))), (2, .int ((-4))), (3, .int (nI (k)))]) hx hb dX11_cheapest_63 hl (by decide) rfl (fun ls hl => ?_)
                refine lv_iload hx hb dX11_cheapest_65 (lv_at hl 0 rfl) ?_
                refine lv_if_ne (tgt := 124) hx hb dX11_cheapest_67 (by decide) (fun c9 => ?_) (fun c9 => absurd c9 (by decide))
                refine lv_iload hx hb dX11_cheapest_124 (lv_at hl 0 rfl) ?_
                refine lv_if_eq (tgt := 133) hx hb dX11_cheapest_126 (by decide) (fun c9 => absurd c9 (by decide)) (fun c9 => ?_)
                refine lv_iload_n hx hb dX11_cheapest_129 rfl (lv_at hl 4 rfl) ?_
                refine lv_goto (tgt := 134) hx hb dX11_cheapest_130 (by decide) ?_
                refine lv_istore_n (lv' := [(2, .int (nI (k))), (4, .int (nI (1))), (0, .ref (o 0)), (1, .int (nI (k1))), (3, .int (nI (k)))]) hx hb dX11_cheapest_134 rfl hl (by decide) rfl (fun ls hl => ?_)
                refine lv_iinc (v := nI ((k + 1))) (lv' := [(3, .int (nI ((k + 1)))), (2, .int (nI (k))), (4, .int (nI (1))), (0, .ref (o 0)), (1, .int (nI (k1)))]) hx hb dX11_cheapest_135 hl (k := 4) rfl (zInc _) (by decide) rfl (fun ls hl => ?_)
                refine lv_goto (tgt := 15) hx hb dX11_cheapest_138 (by decide) ?_
                exact ih15 ((k + 1)) (some k) H locs ls (by omega) (fun f h => by cases h; omega) (by simp only [chM, ← hacc, nI_0, p_btM, c5_1, hclk1, c22_2, c36_3, h36, c46_4, p_in, p_worn, p_wi, p_creak, p_le0, p_lt1, p_rng, pmT, pmC, p_eq0, not_true_eq_false, not_false_eq_true, if_true, if_false, and_true, true_and, and_false, false_and, or_true, true_or, or_false, false_or, and_self, or_self, iff_true, true_iff, iff_false, false_iff, decide_eq_true_eq, decide_true, decide_false, Int32.add_zero, Nat.add_zero, ne_eq, Bool.false_eq_true, eq_self]) (by omega) hP hD hS (lv_sub hl [3, 4, 1, 0] rfl)
              · skip
                have hl : lv_has ls 5 [(0, .ref (o 0)), (1, .int (nI (k1))), (2, .int (nI (ff))), (3, .int (nI (k)))] := hl
                have hff : ff < k := hof ff rfl
                refine lv_iload_n hx hb dX11_cheapest_52 rfl (lv_at hl 2 rfl) ?_
                refine lv_bipush (v := (-4)) hx hb dX11_cheapest_53 (by decide) ?_
                refine lv_icmp_ne (tgt := 62) hx hb dX11_cheapest_55 (by decide) (fun c55_8 => ?_) (fun c55_8 => ?_)
                · skip
                  refine lv_iconst (v := nI (0)) hx hb dX11_cheapest_62 (by decide) ?_
                  refine lv_istore (lv' := [(4, .int (nI (0))), (0, .ref (o 0)), (1, .int (nI (k1))), (2, .int (nI (ff))), (3, .int (nI (k)))]) hx hb dX11_cheapest_63 hl (by decide) rfl (fun ls hl => ?_)
                  refine lv_iload hx hb dX11_cheapest_65 (lv_at hl 0 rfl) ?_
                  refine lv_if_ne (tgt := 124) hx hb dX11_cheapest_67 (by decide) (fun c9 => absurd (by decide) c9) (fun c9 => ?_)
                  refine lv_aload_n hx hb dX11_cheapest_70 rfl (lv_at hl 1 rfl) ?_
                  refine lv_iload_n hx hb dX11_cheapest_71 rfl (lv_at hl 2 rfl) ?_
                  refine lv_iload_n hx hb dX11_cheapest_72 rfl (lv_at hl 4 rfl) ?_
                  refine zVF [.int (nI (k1)), .int (nI (k))] [] (kX11_tollOf (o) (v) (R) (k1) (k) (y) (show yI (y) from hy) (show RelI (y) (m_g v) from hq) (show (k1) < y_cn (y) from by omega) (show (k) < y_rn (y) from by omega)) hx hb hml hown hts (cwV 2 hts gX11_cheapest_X11_tollOf rfl rfl rfl (by decide +kernel) ⟨(Nat.le_of_ble_eq_true rfl), (Nat.le_of_ble_eq_true rfl)⟩) hK hP hD hS hA (va_recv hK hP (ci := 10) (q0 := 0) rfl rfl) rfl hl.1 rfl (Nat.le_of_ble_eq_true rfl) dX11_cheapest_73 ⟨(Nat.le_of_ble_eq_true rfl), (Nat.le_of_ble_eq_true rfl)⟩ (fun r_73 _ H locs hr_73 hP hD hS => ?_)
                  subst hr_73
                  have hP : va_P D vwCl (MW ct o v R) H := hP
                  have hD : va_D A (MW ct o v R) := hD
                  refine lv_aload_n hx hb dX11_cheapest_76 rfl (lv_at hl 1 rfl) ?_
                  refine lv_iload_n hx hb dX11_cheapest_77 rfl (lv_at hl 2 rfl) ?_
                  refine lv_iload_n hx hb dX11_cheapest_78 rfl (lv_at hl 3 rfl) ?_
                  refine zVF [.int (nI (k1)), .int (nI (ff))] [.float ((t_toll (y) (k1) (k)))] (kX11_tollOf (o) (v) (R) (k1) (ff) (y) (show yI (y) from hy) (show RelI (y) (m_g v) from hq) (show (k1) < y_cn (y) from by omega) (show (ff) < y_rn (y) from by omega)) hx hb hml hown hts (cwV 2 hts gX11_cheapest_X11_tollOf rfl rfl rfl (by decide +kernel) ⟨(Nat.le_of_ble_eq_true rfl), (Nat.le_of_ble_eq_true rfl)⟩) hK hP hD hS hA (va_recv hK hP (ci := 10) (q0 := 0) rfl rfl) rfl hl.1 rfl (Nat.le_of_ble_eq_true rfl) dX11_cheapest_79 ⟨(Nat.le_of_ble_eq_true rfl), (Nat.le_of_ble_eq_true rfl)⟩ (fun r_79 _ H locs hr_79 hP hD hS => ?_)
                  subst hr_79
                  have hP : va_P D vwCl (MW ct o v R) H := hP
                  have hD : va_D A (MW ct o v R) := hD
                  refine lv_fcmp hx hb dX11_cheapest_82 ?_
                  refine lv_if_lt (tgt := 117) hx hb dX11_cheapest_83 (by decide) (fun c83_10 => ?_) (fun c83_10 => ?_)
                  · skip
                    refine lv_iconst (v := nI (1)) hx hb dX11_cheapest_117 (by decide) ?_
                    refine lv_goto (tgt := 122) hx hb dX11_cheapest_118 (by decide) ?_
                    refine lv_istore (lv' := [(4, .int (nI (1))), (0, .ref (o 0)), (1, .int (nI (k1))), (2, .int (nI (ff))), (3, .int (nI (k)))]) hx hb dX11_cheapest_122 hl (by decide) rfl (fun ls hl => ?_)
                    refine lv_iload hx hb dX11_cheapest_124 (lv_at hl 0 rfl) ?_
                    refine lv_if_eq (tgt := 133) hx hb dX11_cheapest_126 (by decide) (fun c9 => absurd c9 (by decide)) (fun c9 => ?_)
                    refine lv_iload_n hx hb dX11_cheapest_129 rfl (lv_at hl 4 rfl) ?_
                    refine lv_goto (tgt := 134) hx hb dX11_cheapest_130 (by decide) ?_
                    refine lv_istore_n (lv' := [(2, .int (nI (k))), (4, .int (nI (1))), (0, .ref (o 0)), (1, .int (nI (k1))), (3, .int (nI (k)))]) hx hb dX11_cheapest_134 rfl hl (by decide) rfl (fun ls hl => ?_)
                    refine lv_iinc (v := nI ((k + 1))) (lv' := [(3, .int (nI ((k + 1)))), (2, .int (nI (k))), (4, .int (nI (1))), (0, .ref (o 0)), (1, .int (nI (k1)))]) hx hb dX11_cheapest_135 hl (k := 4) rfl (zInc _) (by decide) rfl (fun ls hl => ?_)
                    refine lv_goto (tgt := 15) hx hb dX11_cheapest_138 (by decide) ?_
                    exact ih15 ((k + 1)) (some k) H locs ls (by omega) (fun f h => by cases h; omega) (by simp only [chM, ← hacc, nI_0, p_btM, c5_1, hclk1, c22_2, c36_3, h36, c46_4, c55_8, c83_10, p_in, p_worn, p_wi, p_creak, p_le0, p_lt1, p_rng, pmT, pmC, p_eq0, not_true_eq_false, not_false_eq_true, if_true, if_false, and_true, true_and, and_false, false_and, or_true, true_or, or_false, false_or, and_self, or_self, iff_true, true_iff, iff_false, false_iff, decide_eq_true_eq, decide_true, decide_false, Int32.add_zero, Nat.add_zero, ne_eq, Bool.false_eq_true, eq_self]) (by omega) hP hD hS (lv_sub hl [3, 4, 1, 0] rfl)
                  · skip
                    refine lv_aload_n hx hb dX11_cheapest_86 rfl (lv_at hl 1 rfl) ?_
                    refine lv_iload_n hx hb dX11_cheapest_87 rfl (lv_at hl 2 rfl) ?_
                    refine lv_iload_n hx hb dX11_cheapest_88 rfl (lv_at hl 4 rfl) ?_
                    refine zVF [.int (nI (k1)), .int (nI (k))] [] (kX11_tollOf (o) (v) (R) (k1) (k) (y) (show yI (y) from hy) (show RelI (y) (m_g v) from hq) (show (k1) < y_cn (y) from by omega) (show (k) < y_rn (y) from by omega)) hx hb hml hown hts (cwV 2 hts gX11_cheapest_X11_tollOf rfl rfl rfl (by decide +kernel) ⟨(Nat.le_of_ble_eq_true rfl), (Nat.le_of_ble_eq_true rfl)⟩) hK hP hD hS hA (va_recv hK hP (ci := 10) (q0 := 0) rfl rfl) rfl hl.1 rfl (Nat.le_of_ble_eq_true rfl) dX11_cheapest_89 ⟨(Nat.le_of_ble_eq_true rfl), (Nat.le_of_ble_eq_true rfl)⟩ (fun r_89 _ H locs hr_89 hP hD hS => ?_)
                    subst hr_89
                    have hP : va_P D vwCl (MW ct o v R) H := hP
                    have hD : va_D A (MW ct o v R) := hD
                    refine lv_aload_n hx hb dX11_cheapest_92 rfl (lv_at hl 1 rfl) ?_
                    refine lv_iload_n hx hb dX11_cheapest_93 rfl (lv_at hl 2 rfl) ?_
                    refine lv_iload_n hx hb dX11_cheapest_94 rfl (lv_at hl 3 rfl) ?_
                    refine zVF [.int (nI (k1)), .int (nI (ff))] [.float ((t_toll (y) (k1) (k)))] (kX11_tollOf (o) (v) (R) (k1) (ff) (y) (show yI (y) from hy) (show RelI (y) (m_g v) from hq) (show (k1) < y_cn (y) from by omega) (show (ff) < y_rn (y) from by omega)) hx hb hml hown hts (cwV 2 hts gX11_cheapest_X11_tollOf rfl rfl rfl (by decide +kernel) ⟨(Nat.le_of_ble_eq_true rfl), (Nat.le_of_ble_eq_true rfl)⟩) hK hP hD hS hA (va_recv hK hP (ci := 10) (q0 := 0) rfl rfl) rfl hl.1 rfl (Nat.le_of_ble_eq_true rfl) dX11_cheapest_95 ⟨(Nat.le_of_ble_eq_true rfl), (Nat.le_of_ble_eq_true rfl)⟩ (fun r_95 _ H locs hr_95 hP hD hS => ?_)
                    subst hr_95
                    have hP : va_P D vwCl (MW ct o v R) H := hP
                    have hD : va_D A (MW ct o v R) := hD
                    refine lv_fcmp hx hb dX11_cheapest_98 ?_
                    refine lv_if_ne (tgt := 121) hx hb dX11_cheapest_99 (by decide) (fun c99_12 => ?_) (fun c99_12 => ?_)
                    · skip
                      refine lv_iconst (v := nI (0)) hx hb dX11_cheapest_121 (by decide) ?_
                      refine lv_istore (lv' := [(4, .int (nI (0))), (0, .ref (o 0)), (1, .int (nI (k1))), (2, .int (nI (ff))), (3, .int (nI (k)))]) hx hb dX11_cheapest_122 hl (by decide) rfl (fun ls hl => ?_)
                      refine lv_iload hx hb dX11_cheapest_124 (lv_at hl 0 rfl) ?_
                      refine lv_if_eq (tgt := 133) hx hb dX11_cheapest_126 (by decide) (fun c9 => ?_) (fun c9 => absurd (by decide) c9)
                      refine lv_iload_n hx hb dX11_cheapest_133 rfl (lv_at hl 3 rfl) ?_
                      refine lv_istore_n (lv' := [(2, .int (nI (ff))), (4, .int (nI (0))), (0, .ref (o 0)), (1, .int (nI (k1))), (3, .int (nI (k)))]) hx hb dX11_cheapest_134 rfl hl (by decide) rfl (fun ls hl => ?_)
                      refine lv_iinc (v := nI ((k + 1))) (lv' := [(3, .int (nI ((k + 1)))), (2, .int (nI (ff))), (4, .int (nI (0))), (0, .ref (o 0)), (1, .int (nI (k1)))]) hx hb dX11_cheapest_135 hl (k := 4) rfl (zInc _) (by decide) rfl (fun ls hl => ?_)
                      refine lv_goto (tgt := 15) hx hb dX11_cheapest_138 (by decide) ?_
                      exact ih15 ((k + 1)) (some ff) H locs ls (by omega) (fun f h => by cases h; omega) (by simp only [chM, ← hacc, nI_0, p_btM, c5_1, hclk1, c22_2, c36_3, h36, c46_4, c55_8, c83_10, c99_12, p_in, p_worn, p_wi, p_creak, p_le0, p_lt1, p_rng, pmT, pmC, p_eq0, not_true_eq_false, not_false_eq_true, if_true, if_false, and_true, true_and, and_false, false_and, or_true, true_or, or_false, false_or, and_self, or_self, iff_true, true_iff, iff_false, false_iff, decide_eq_true_eq, decide_true, decide_false, Int32.add_zero, Nat.add_zero, ne_eq, Bool.false_eq_true, eq_self]) (by omega) hP hD hS (lv_sub hl [3, 4, 1, 0] rfl)
                    · skip
                      refine lv_aload_n hx hb dX11_cheapest_102 rfl (lv_at hl 1 rfl) ?_
                      refine lv_iload_n hx hb dX11_cheapest_103 rfl (lv_at hl 4 rfl) ?_
                      refine lv_iconst (v := nI (1)) hx hb dX11_cheapest_104 (by decide) ?_
                      refine zVI [.int (nI (k)), .int (nI (1))] [] (kX11_r (o) (v) (R) (k) (1) (show (k) < 5 from by omega) (show (1) < 4 from by omega)) hx hb hml hown hts (cwV 2 hts gX11_cheapest_X11_r rfl rfl rfl (by decide +kernel) ⟨(Nat.le_of_ble_eq_true rfl), (Nat.le_of_ble_eq_true rfl)⟩) hK hP hD hS hA (va_recv hK hP (ci := 10) (q0 := 0) rfl rfl) rfl hl.1 rfl (Nat.le_of_ble_eq_true rfl) dX11_cheapest_105 ⟨(Nat.le_of_ble_eq_true rfl), (Nat.le_of_ble_eq_true rfl)⟩ (fun r_105 _ H locs hr_105 hP hD hS => ?_)
                      subst hr_105
                      have hP : va_P D vwCl (MW ct o v R) H := hP
                      have hD : va_D A (MW ct o v R) := hD
                      refine zTop (y := (y_mi y (k))) (hq.2.2.2.2.2 k (by omega)).2.1 ?_
                      refine lv_aload_n hx hb dX11_cheapest_108 rfl (lv_at hl 1 rfl) ?_
                      refine lv_iload_n hx hb dX11_cheapest_109 rfl (lv_at hl 3 rfl) ?_
                      refine lv_iconst (v := nI (1)) hx hb dX11_cheapest_110 (by decide) ?_
                      refine zVI [.int (nI (ff)), .int (nI (1))] [.int ((y_mi y (k)))] (kX11_r (o) (v) (R) (ff) (1) (show (ff) < 5 from by omega) (show (1) < 4 from by omega)) hx hb hml hown hts (cwV 2 hts gX11_cheapest_X11_r rfl rfl rfl (by decide +kernel) ⟨(Nat.le_of_ble_eq_true rfl), (Nat.le_of_ble_eq_true rfl)⟩) hK hP hD hS hA (va_recv hK hP (ci := 10) (q0 := 0) rfl rfl) rfl hl.1 rfl (Nat.le_of_ble_eq_true rfl) dX11_cheapest_111 ⟨(Nat.le_of_ble_eq_true rfl), (Nat.le_of_ble_eq_true rfl)⟩ (fun r_111 _ H locs hr_111 hP hD hS => ?_)
                      subst hr_111
                      have hP : va_P D vwCl (MW ct o v R) H := hP
                      have hD : va_D A (MW ct o v R) := hD
                      refine zTop (y := (y_mi y (ff))) (hq.2.2.2.2.2 ff (by omega)).2.1 ?_
                      refine lv_icmp_ge (tgt := 121) hx hb dX11_cheapest_114 (by decide) (fun c114_14 => ?_) (fun c114_14 => ?_)
                      · skip
                        refine lv_iconst (v := nI (0)) hx hb dX11_cheapest_121 (by decide) ?_
                        refine lv_istore (lv' := [(4, .int (nI (0))), (0, .ref (o 0)), (1, .int (nI (k1))), (2, .int (nI (ff))), (3, .int (nI (k)))]) hx hb dX11_cheapest_122 hl (by decide) rfl (fun ls hl => ?_)
                        refine lv_iload hx hb dX11_cheapest_124 (lv_at hl 0 rfl) ?_
                        refine lv_if_eq (tgt := 133) hx hb dX11_cheapest_126 (by decide) (fun c9 => ?_) (fun c9 => absurd (by decide) c9)
                        refine lv_iload_n hx hb dX11_cheapest_133 rfl (lv_at hl 3 rfl) ?_
                        refine lv_istore_n (lv' := [(2, .int (nI (ff))), (4, .int (nI (0))), (0, .ref (o 0)), (1, .int (nI (k1))), (3, .int (nI (k)))]) hx hb dX11_cheapest_134 rfl hl (by decide) rfl (fun ls hl => ?_)
                        refine lv_iinc (v := nI ((k + 1))) (lv' := [(3, .int (nI ((k + 1)))), (2, .int (nI (ff))), (4, .int (nI (0))), (0, .ref (o 0)), (1, .int (nI (k1)))]) hx hb dX11_cheapest_135 hl (k := 4) rfl (zInc _) (by decide) rfl (fun ls hl => ?_)
                        refine lv_goto (tgt := 15) hx hb dX11_cheapest_138 (by decide) ?_
                        exact ih15 ((k + 1)) (some ff) H locs ls (by omega) (fun f h => by cases h; omega) (by simp only [chM, ← hacc, nI_0, p_btM, c5_1, hclk1, c22_2, c36_3, h36, c46_4, c55_8, c83_10, eq_true c99_12, c114_14, p_in, p_worn, p_wi, p_creak, p_le0, p_lt1, p_rng, pmT, pmC, p_eq0, not_true_eq_false, not_false_eq_true, if_true, if_false, and_true, true_and, and_false, false_and, or_true, true_or, or_false, false_or, and_self, or_self, iff_true, true_iff, iff_false, false_iff, decide_eq_true_eq, decide_true, decide_false, Int32.add_zero, Nat.add_zero, ne_eq, Bool.false_eq_true, eq_self]) (by omega) hP hD hS (lv_sub hl [3, 4, 1, 0] rfl)
                      · skip
                        refine lv_iconst (v := nI (1)) hx hb dX11_cheapest_117 (by decide) ?_
                        refine lv_goto (tgt := 122) hx hb dX11_cheapest_118 (by decide) ?_
                        refine lv_istore (lv' := [(4, .int (nI (1))), (0, .ref (o 0)), (1, .int (nI (k1))), (2, .int (nI (ff))), (3, .int (nI (k)))]) hx hb dX11_cheapest_122 hl (by decide) rfl (fun ls hl => ?_)
                        refine lv_iload hx hb dX11_cheapest_124 (lv_at hl 0 rfl) ?_
                        refine lv_if_eq (tgt := 133) hx hb dX11_cheapest_126 (by decide) (fun c9 => absurd c9 (by decide)) (fun c9 => ?_)
                        refine lv_iload_n hx hb dX11_cheapest_129 rfl (lv_at hl 4 rfl) ?_
                        refine lv_goto (tgt := 134) hx hb dX11_cheapest_130 (by decide) ?_
                        refine lv_istore_n (lv' := [(2, .int (nI (k))), (4, .int (nI (1))), (0, .ref (o 0)), (1, .int (nI (k1))), (3, .int (nI (k)))]) hx hb dX11_cheapest_134 rfl hl (by decide) rfl (fun ls hl => ?_)
                        refine lv_iinc (v := nI ((k + 1))) (lv' := [(3, .int (nI ((k + 1)))), (2, .int (nI (k))), (4, .int (nI (1))), (0, .ref (o 0)), (1, .int (nI (k1)))]) hx hb dX11_cheapest_135 hl (k := 4) rfl (zInc _) (by decide) rfl (fun ls hl => ?_)
                        refine lv_goto (tgt := 15) hx hb dX11_cheapest_138 (by decide) ?_
                        exact ih15 ((k + 1)) (some k) H locs ls (by omega) (fun f h => by cases h; omega) (by simp only [chM, ← hacc, nI_0, p_btM, c5_1, hclk1, c22_2, c36_3, h36, c46_4, c55_8, c83_10, eq_true c99_12, c114_14, p_in, p_worn, p_wi, p_creak, p_le0, p_lt1, p_rng, pmT, pmC, p_eq0, not_true_eq_false, not_false_eq_true, if_true, if_false, and_true, true_and, and_false, false_and, or_true, true_or, or_false, false_or, and_self, or_self, iff_true, true_iff, iff_false, false_iff, decide_eq_true_eq, decide_true, decide_false, Int32.add_zero, Nat.add_zero, ne_eq, Bool.false_eq_true, eq_self]) (by omega) hP hD hS (lv_sub hl [3, 4, 1, 0] rfl)
                · skip
                  exact absurd c55_8 (nI_ne4 (by omega))
            · skip
              refine lv_goto (tgt := 135) hx hb dX11_cheapest_49 (by decide) ?_
              refine lv_iinc (v := nI ((k + 1))) (lv' := [(3, .int (nI ((k + 1)))), (0, .ref (o 0)), (1, .int (nI (k1))), (2, .int (foI oo))]) hx hb dX11_cheapest_135 hl (k := 3) rfl (zInc _) (by decide) rfl (fun ls hl => ?_)
              refine lv_goto (tgt := 15) hx hb dX11_cheapest_138 (by decide) ?_
              exact ih15 ((k + 1)) (oo) H locs ls (by omega) (fun f h => Nat.lt_succ_of_lt (hof f h)) (by simp only [chM, ← hacc, nI_0, p_btM, c5_1, hclk1, c22_2, c36_3, h36, eq_true c46_4, p_in, p_worn, p_wi, p_creak, p_le0, p_lt1, p_rng, pmT, pmC, p_eq0, not_true_eq_false, not_false_eq_true, if_true, if_false, and_true, true_and, and_false, false_and, or_true, true_or, or_false, false_or, and_self, or_self, iff_true, true_iff, iff_false, false_iff, decide_eq_true_eq, decide_true, decide_false, Int32.add_zero, Nat.add_zero, ne_eq, Bool.false_eq_true, eq_self]) (by omega) hP hD hS (lv_sub hl [1, 2, 3, 0] rfl)
    exact lp15 ((y_rn y - (0)) + 1) (0) (none) H locs ls (by omega) (fun f h => nomatch h) rfl (Nat.lt_succ_self _) hP hD hS (lv_sub hl [2, 3, 1, 0] rfl)
  · skip
    refine lv_iconst (v := (-1)) hx hb dX11_cheapest_8 (by decide) ?_
    exact zIret () hx hb hr hlocks hK hP hD hS dX11_cheapest_9 (show (-1) = a_chM y x1 from (by simp only [a_chM, ixI, c5_1, p_in, p_worn, p_wi, p_creak, p_le0, p_lt1, p_rng, pmT, pmC, p_eq0, not_true_eq_false, not_false_eq_true, if_true, if_false, and_true, true_and, and_false, false_and, or_true, true_or, or_false, false_or, and_self, or_self, iff_true, true_iff, iff_false, false_iff, decide_eq_true_eq, decide_true, decide_false, Int32.add_zero, Nat.add_zero, ne_eq, Bool.false_eq_true, eq_self]))
abbrev rmX11_leastOf_0 : Room := { frames := 1, cells := 0, slots := 0, locals := 20 }
theorem in_X11_leastOf_0_X11 : ∀ w ∈ u_ws RX11 TX11 19, w ∈ wsX11_leastOf := by decide +kernel
set_option maxHeartbeats 4000000 in
set_option maxRecDepth 100000 in
theorem kX11_leastOf_0 {D : va_G} {ct : Nat → ClassId} {l : Launch} (o : Nat → Nat) (v : MS) (R : va_W) (pp : Nat) (x2 : Int32) (x3 : Int32) (hwm : m_wm v = pp + 0) (h6 : m_wm v ≤ 6) : MI D ct l yX11_leastOf wsX11_leastOf rmX11_leastOf_0 (MW ct o v R) [.ref (o 0), .int (nI (pp)), .int (x2), .int (x3)] (fun r0 (_ : Unit) => r0 = lsM (m_wt v) 0 pp x2 x3) (fun _ : Unit => MW ct o v R) := by
  refine MIof (cc := cX11_leastOf) (maxL := 7) (ret := (some .int)) (by decide) rfl (Nat.le_of_ble_eq_true rfl) ?_
  intro p e s m args below meth c A H locs F hP hK hD hS hA ls hl
  obtain ⟨hx, hb, hr, hlocks, hml, hown, hts, hin⟩ := F
  have hl : lv_has ls 7 [(0, .ref (o 0)), (1, .int (nI (pp))), (2, .int (x2)), (3, .int (x3))] := hl
  have h_X11 := in_X11_leastOf_0_X11
  have f17 := hts (.fieldLink RX11 17 "CartArgumentsModel" "weights" "[I") (by decide +kernel)
  have f169 := hts (.fieldLink RX11 169 "CartArgumentsModel" "weightMany" "I") (by decide +kernel)
  refine lv_iload_n hx hb dX11_leastOf_0 rfl (lv_at hl 1 rfl) ?_
  refine lv_aload_n hx hb dX11_leastOf_1 rfl (lv_at hl 0 rfl) ?_
  refine va_get (ci := 10) (v := .int (nI (m_wm v))) hx hb hts h_X11 hown hK hP 0 rfl rfl 9 (by decide) f169 (fun _ h9 => h9) rfl dX11_leastOf_2 ?_
  refine zN_icmp_ne (tgt := 13) hx hb (by omega) (by omega) dX11_leastOf_5 (by decide) (fun c5_1 => ?_) (fun c5_1 => ?_)
  · skip
    exact absurd (show pp = m_wm v by omega) c5_1
  · skip
    refine lv_iload_n hx hb dX11_leastOf_8 rfl (lv_at hl 3 rfl) ?_
    refine zSI [.int (x3)] [] (kX11_size (MW ct o v R) (x3)) hx hb hml hown hts (va_cwS 1 hts gX11_leastOf_X11_size rfl rfl rfl (by decide +kernel) ⟨(Nat.le_of_ble_eq_true rfl), (Nat.le_of_ble_eq_true rfl)⟩) hK hP hD hS hA rfl hl.1 rfl (Nat.le_of_ble_eq_true rfl) dX11_leastOf_9 ⟨(Nat.le_of_ble_eq_true rfl), (Nat.le_of_ble_eq_true rfl)⟩ (fun r_9 _ H locs hr_9 hP hD hS => ?_)
    subst hr_9
    have hP : va_P D vwCl (MW ct o v R) H := hP
    have hD : va_D A (MW ct o v R) := hD
    exact zIret () hx hb hr hlocks hK hP hD hS dX11_leastOf_12 (show (q_sz (x3)) = lsM (m_wt v) 0 pp x2 x3 from rfl)
abbrev rmX11_leastOf_1 : Room := { frames := 2, cells := 0, slots := 0, locals := 46 }
theorem in_X11_leastOf_1_X11 : ∀ w ∈ u_ws RX11 TX11 19, w ∈ wsX11_leastOf := by decide +kernel
set_option maxHeartbeats 4000000 in
set_option maxRecDepth 100000 in
theorem kX11_leastOf_1 {D : va_G} {ct : Nat → ClassId} {l : Launch} (o : Nat → Nat) (v : MS) (R : va_W) (pp : Nat) (x2 : Int32) (x3 : Int32) (hwm : m_wm v = pp + 1) (h6 : m_wm v ≤ 6) : MI D ct l yX11_leastOf wsX11_leastOf rmX11_leastOf_1 (MW ct o v R) [.ref (o 0), .int (nI (pp)), .int (x2), .int (x3)] (fun r0 (_ : Unit) => r0 = lsM (m_wt v) 1 pp x2 x3) (fun _ : Unit => MW ct o v R) := by
  refine MIof (cc := cX11_leastOf) (maxL := 7) (ret := (some .int)) (by decide) rfl (Nat.le_of_ble_eq_true rfl) ?_
  intro p e s m args below meth c A H locs F hP hK hD hS hA ls hl
  obtain ⟨hx, hb, hr, hlocks, hml, hown, hts, hin⟩ := F
  have hl : lv_has ls 7 [(0, .ref (o 0)), (1, .int (nI (pp))), (2, .int (x2)), (3, .int (x3))] := hl
  have h_X11 := in_X11_leastOf_1_X11
  have f17 := hts (.fieldLink RX11 17 "CartArgumentsModel" "weights" "[I") (by decide +kernel)
  have f169 := hts (.fieldLink RX11 169 "CartArgumentsModel" "weightMany" "I") (by decide +kernel)
  refine lv_iload_n hx hb dX11_leastOf_0 rfl (lv_at hl 1 rfl) ?_
  refine lv_aload_n hx hb dX11_leastOf_1 rfl (lv_at hl 0 rfl) ?_
  refine va_get (ci := 10) (v := .int (nI (m_wm v))) hx hb hts h_X11 hown hK hP 0 rfl rfl 9 (by decide) f169 (fun _ h9 => h9) rfl dX11_leastOf_2 ?_
  refine zN_icmp_ne (tgt := 13) hx hb (by omega) (by omega) dX11_leastOf_5 (by decide) (fun c5_1 => ?_) (fun c5_1 => ?_)
  · skip
    refine lv_ldc (v := nI (1000000)) hx hb hown (hts (.constant RX11 172 (1000000)) (by decide +kernel)) dX11_leastOf_13 ?_
    refine lv_istore (lv' := [(4, .int (nI (1000000))), (0, .ref (o 0)), (1, .int (nI (pp))), (2, .int (x2)), (3, .int (x3))]) hx hb dX11_leastOf_15 hl (by decide) rfl (fun ls hl => ?_)
    refine lv_iconst (v := nI (0)) hx hb dX11_leastOf_17 (by decide) ?_
    refine lv_istore (lv' := [(5, .int (nI (0))), (4, .int (nI (1000000))), (0, .ref (o 0)), (1, .int (nI (pp))), (2, .int (x2)), (3, .int (x3))]) hx hb dX11_leastOf_18 hl (by decide) rfl (fun ls hl => ?_)
    have lp20 : ∀ (fu : Nat) (j : Nat) (acc : Int32) (H : Heap) (locs : List Loc) (ls : Array Slot), (j ≤ 6) → (acc = lsL (fun p => decide ((x2 >>> (nI p &&& 31)) &&& nI 1 = nI 1)) (fun q => lsM (m_wt v) 0 (pp + 1) (x2 ||| (nI 1 <<< (nI q &&& 31))) (x3 + (m_wt v pp * nI 2) * (nI 5 - nI (2 * q)))) j) → 6 - j < fu → va_P D vwCl (MW ct o v R) H → va_D A (MW ct o v R) → va_S A s.heap H locs → lv_has ls 7 [(0, .ref (o 0)), (1, .int (nI (pp))), (2, .int (x2)), (3, .int (x3)), (4, .int (acc)), (5, .int (nI (j)))] → W p l e rmX11_leastOf_1 s m args below meth c H locs 0 0 (MQ below (va_Qi (fun r0 (_ : Unit) => r0 = lsM (m_wt v) 1 pp x2 x3) (zB D ct A (fun _ : Unit => MW ct o v R)) A) args s rmX11_leastOf_1.cells rmX11_leastOf_1.slots A) (F0 m 20 ls []) := by
      intro fu
      induction fu with
      | zero => intro j acc H locs ls hj hacc hfu; exact absurd hfu (Nat.not_lt_zero _)
      | succ fu ih20 =>
        intro j acc H locs ls hj hacc hfu hP hD hS hl
        refine lv_iload hx hb dX11_leastOf_20 (lv_at hl 5 rfl) ?_
        refine lv_bipush (v := nI (6)) hx hb dX11_leastOf_22 (by decide) ?_
        refine zN_icmp_ge (tgt := 94) hx hb (by omega) (by omega) dX11_leastOf_24 (by decide) (fun c24_2 => ?_) (fun c24_2 => ?_)
        · skip
          refine lv_iload hx hb dX11_leastOf_94 (lv_at hl 4 rfl) ?_
          exact zIret () hx hb hr hlocks hK hP hD hS dX11_leastOf_96 (show acc = lsM (m_wt v) 1 pp x2 x3 from (by obtain rfl : j = 6 := (by omega); exact hacc))
        · skip
          refine lv_iload_n hx hb dX11_leastOf_27 rfl (lv_at hl 2 rfl) ?_
          refine lv_iload hx hb dX11_leastOf_28 (lv_at hl 5 rfl) ?_
          refine lv_ishr hx hb dX11_leastOf_30 ?_
          refine lv_iconst (v := nI (1)) hx hb dX11_leastOf_31 (by decide) ?_
          refine lv_iand hx hb dX11_leastOf_32 ?_
          refine lv_iconst (v := nI (1)) hx hb dX11_leastOf_33 (by decide) ?_
          refine lv_icmp_ne (tgt := 40) hx hb dX11_leastOf_34 (by decide) (fun c34_3 => ?_) (fun c34_3 => ?_)
          · skip
            refine lv_aload_n hx hb dX11_leastOf_40 rfl (lv_at hl 0 rfl) ?_
            refine lv_iload_n hx hb dX11_leastOf_41 rfl (lv_at hl 1 rfl) ?_
            refine lv_iconst (v := nI (1)) hx hb dX11_leastOf_42 (by decide) ?_
            refine zNadd hx hb dX11_leastOf_43 ?_
            refine lv_iload_n hx hb dX11_leastOf_44 rfl (lv_at hl 2 rfl) ?_
            refine lv_iconst (v := nI (1)) hx hb dX11_leastOf_45 (by decide) ?_
            refine lv_iload hx hb dX11_leastOf_46 (lv_at hl 5 rfl) ?_
            refine lv_ishl hx hb dX11_leastOf_48 ?_
            refine lv_ior hx hb dX11_leastOf_49 ?_
            refine lv_iload_n hx hb dX11_leastOf_50 rfl (lv_at hl 3 rfl) ?_
            refine lv_aload_n hx hb dX11_leastOf_51 rfl (lv_at hl 0 rfl) ?_
            refine va_get (ci := 10) (v := .ref (o 3)) hx hb hts h_X11 hown hK hP 0 rfl rfl 8 (by decide) f17 (fun _ h9 => h9) rfl dX11_leastOf_52 ?_
            refine lv_iload_n hx hb dX11_leastOf_55 rfl (lv_at hl 1 rfl) ?_
            refine zIald (n := 6) (f := m_wt v) (i := pp) hx hb hK hP 3 rfl (by omega) (by decide) dX11_leastOf_56 ?_
            refine lv_iconst (v := nI (2)) hx hb dX11_leastOf_57 (by decide) ?_
            refine lv_imul hx hb dX11_leastOf_58 ?_
            refine lv_iconst (v := nI (5)) hx hb dX11_leastOf_59 (by decide) ?_
            refine lv_iconst (v := nI (2)) hx hb dX11_leastOf_60 (by decide) ?_
            refine lv_iload hx hb dX11_leastOf_61 (lv_at hl 5 rfl) ?_
            refine zNmul hx hb dX11_leastOf_63 ?_
            refine lv_isub hx hb dX11_leastOf_64 ?_
            refine lv_imul hx hb dX11_leastOf_65 ?_
            refine lv_iadd hx hb dX11_leastOf_66 ?_
            refine zVI [.int (nI ((pp + 1))), .int ((x2 ||| (nI (1) <<< (nI (j) &&& 31)))), .int ((x3 + (((m_wt v (pp)) * nI (2)) * (nI (5) - nI ((2 * j))))))] [] (kX11_leastOf_0 (o) (v) (R) ((pp + 1)) ((x2 ||| (nI (1) <<< (nI (j) &&& 31)))) ((x3 + (((m_wt v (pp)) * nI (2)) * (nI (5) - nI ((2 * j)))))) (show m_wm v = ((pp + 1)) + 0 from by omega) (show m_wm v ≤ 6 from by omega)) hx hb hml hown hts (cwV 3 hts gX11_leastOf_X11_leastOf rfl rfl rfl (by decide +kernel) ⟨(Nat.le_of_ble_eq_true rfl), (Nat.le_of_ble_eq_true rfl)⟩) hK hP hD hS hA (va_recv hK hP (ci := 10) (q0 := 0) rfl rfl) rfl hl.1 rfl (Nat.le_of_ble_eq_true rfl) dX11_leastOf_67 ⟨(Nat.le_of_ble_eq_true rfl), (Nat.le_of_ble_eq_true rfl)⟩ (fun r_67 _ H locs hr_67 hP hD hS => ?_)
            subst hr_67
            have hP : va_P D vwCl (MW ct o v R) H := hP
            have hD : va_D A (MW ct o v R) := hD
            refine lv_istore (lv' := [(6, .int ((lsM (m_wt v) 0 ((pp + 1)) ((x2 ||| (nI (1) <<< (nI (j) &&& 31)))) ((x3 + (((m_wt v (pp)) * nI (2)) * (nI (5) - nI ((2 * j))))))))), (0, .ref (o 0)), (1, .int (nI (pp))), (2, .int (x2)), (3, .int (x3)), (4, .int (acc)), (5, .int (nI (j)))]) hx hb dX11_leastOf_70 hl (by decide) rfl (fun ls hl => ?_)
            refine lv_iload hx hb dX11_leastOf_72 (lv_at hl 0 rfl) ?_
            refine lv_iload hx hb dX11_leastOf_74 (lv_at hl 5 rfl) ?_
            refine lv_icmp_ge (tgt := 84) hx hb dX11_leastOf_76 (by decide) (fun c76_4 => ?_) (fun c76_4 => ?_)
            · skip
              refine lv_iload hx hb dX11_leastOf_84 (lv_at hl 5 rfl) ?_
              refine lv_istore (lv' := [(4, .int (acc)), (6, .int ((lsM (m_wt v) 0 ((pp + 1)) ((x2 ||| (nI (1) <<< (nI (j) &&& 31)))) ((x3 + (((m_wt v (pp)) * nI (2)) * (nI (5) - nI ((2 * j))))))))), (0, .ref (o 0)), (1, .int (nI (pp))), (2, .int (x2)), (3, .int (x3)), (5, .int (nI (j)))]) hx hb dX11_leastOf_86 hl (by decide) rfl (fun ls hl => ?_)
              refine lv_iinc (v := nI ((j + 1))) (lv' := [(5, .int (nI ((j + 1)))), (4, .int (acc)), (6, .int ((lsM (m_wt v) 0 ((pp + 1)) ((x2 ||| (nI (1) <<< (nI (j) &&& 31)))) ((x3 + (((m_wt v (pp)) * nI (2)) * (nI (5) - nI ((2 * j))))))))), (0, .ref (o 0)), (1, .int (nI (pp))), (2, .int (x2)), (3, .int (x3))]) hx hb dX11_leastOf_88 hl (k := 6) rfl (zInc _) (by decide) rfl (fun ls hl => ?_)
              refine lv_goto (tgt := 20) hx hb dX11_leastOf_91 (by decide) ?_
              exact ih20 ((j + 1)) (acc) H locs ls (by omega) (by simp only [lsL, ← hacc, c5_1, c24_2, c34_3, c76_4, p_in, p_worn, p_wi, p_creak, p_le0, p_lt1, p_rng, pmT, pmC, p_eq0, not_true_eq_false, not_false_eq_true, if_true, if_false, and_true, true_and, and_false, false_and, or_true, true_or, or_false, false_or, and_self, or_self, iff_true, true_iff, iff_false, false_iff, decide_eq_true_eq, decide_true, decide_false, Int32.add_zero, Nat.add_zero, ne_eq, Bool.false_eq_true, eq_self]) (by omega) hP hD hS (lv_sub hl [3, 4, 5, 6, 1, 0] rfl)
            · skip
              refine lv_iload hx hb dX11_leastOf_79 (lv_at hl 0 rfl) ?_
              refine lv_goto (tgt := 86) hx hb dX11_leastOf_81 (by decide) ?_
              refine lv_istore (lv' := [(4, .int ((lsM (m_wt v) 0 ((pp + 1)) ((x2 ||| (nI (1) <<< (nI (j) &&& 31)))) ((x3 + (((m_wt v (pp)) * nI (2)) * (nI (5) - nI ((2 * j))))))))), (6, .int ((lsM (m_wt v) 0 ((pp + 1)) ((x2 ||| (nI (1) <<< (nI (j) &&& 31)))) ((x3 + (((m_wt v (pp)) * nI (2)) * (nI (5) - nI ((2 * j))))))))), (0, .ref (o 0)), (1, .int (nI (pp))), (2, .int (x2)), (3, .int (x3)), (5, .int (nI (j)))]) hx hb dX11_leastOf_86 hl (by decide) rfl (fun ls hl => ?_)
              refine lv_iinc (v := nI ((j + 1))) (lv' := [(5, .int (nI ((j + 1)))), (4, .int ((lsM (m_wt v) 0 ((pp + 1)) ((x2 ||| (nI (1) <<< (nI (j) &&& 31)))) ((x3 + (((m_wt v (pp)) * nI (2)) * (nI (5) - nI ((2 * j))))))))), (6, .int ((lsM (m_wt v) 0 ((pp + 1)) ((x2 ||| (nI (1) <<< (nI (j) &&& 31)))) ((x3 + (((m_wt v (pp)) * nI (2)) * (nI (5) - nI ((2 * j))))))))), (0, .ref (o 0)), (1, .int (nI (pp))), (2, .int (x2)), (3, .int (x3))]) hx hb dX11_leastOf_88 hl (k := 6) rfl (zInc _) (by decide) rfl (fun ls hl => ?_)
              refine lv_goto (tgt := 20) hx hb dX11_leastOf_91 (by decide) ?_
              exact ih20 ((j + 1)) ((lsM (m_wt v) 0 ((pp + 1)) ((x2 ||| (nI (1) <<< (nI (j) &&& 31)))) ((x3 + (((m_wt v (pp)) * nI (2)) * (nI (5) - nI ((2 * j)))))))) H locs ls (by omega) (by simp only [lsL, ← hacc, c5_1, c24_2, c34_3, c76_4, p_in, p_worn, p_wi, p_creak, p_le0, p_lt1, p_rng, pmT, pmC, p_eq0, not_true_eq_false, not_false_eq_true, if_true, if_false, and_true, true_and, and_false, false_and, or_true, true_or, or_false, false_or, and_self, or_self, iff_true, true_iff, iff_false, false_iff, decide_eq_true_eq, decide_true, decide_false, Int32.add_zero, Nat.add_zero, ne_eq, Bool.false_eq_true, eq_self]) (by omega) hP hD hS (lv_sub hl [3, 4, 5, 6, 1, 0] rfl)
          · skip
            refine lv_goto (tgt := 88) hx hb dX11_leastOf_37 (by decide) ?_
            refine lv_iinc (v := nI ((j + 1))) (lv' := [(5, .int (nI ((j + 1)))), (0, .ref (o 0)), (1, .int (nI (pp))), (2, .int (x2)), (3, .int (x3)), (4, .int (acc))]) hx hb dX11_leastOf_88 hl (k := 5) rfl (zInc _) (by decide) rfl (fun ls hl => ?_)
            refine lv_goto (tgt := 20) hx hb dX11_leastOf_91 (by decide) ?_
            exact ih20 ((j + 1)) (acc) H locs ls (by omega) (by simp only [lsL, ← hacc, c5_1, c24_2, eq_true c34_3, p_in, p_worn, p_wi, p_creak, p_le0, p_lt1, p_rng, pmT, pmC, p_eq0, not_true_eq_false, not_false_eq_true, if_true, if_false, and_true, true_and, and_false, false_and, or_true, true_or, or_false, false_or, and_self, or_self, iff_true, true_iff, iff_false, false_iff, decide_eq_true_eq, decide_true, decide_false, Int32.add_zero, Nat.add_zero, ne_eq, Bool.false_eq_true, eq_self]) (by omega) hP hD hS (lv_sub hl [1, 2, 3, 4, 5, 0] rfl)
    exact lp20 ((6 - (0)) + 1) (0) (nI 1000000) H locs ls (by omega) rfl (Nat.lt_succ_self _) hP hD hS (lv_sub hl [2, 3, 4, 5, 1, 0] rfl)
  · skip
    exact absurd (show pp = m_wm v from c5_1) (by omega)
abbrev rmX11_leastOf_2 : Room := { frames := 3, cells := 0, slots := 0, locals := 72 }
theorem in_X11_leastOf_2_X11 : ∀ w ∈ u_ws RX11 TX11 19, w ∈ wsX11_leastOf := by decide +kernel
set_option maxHeartbeats 4000000 in
set_option maxRecDepth 100000 in
theorem kX11_leastOf_2 {D : va_G} {ct : Nat → ClassId} {l : Launch} (o : Nat → Nat) (v : MS) (R : va_W) (pp : Nat) (x2 : Int32) (x3 : Int32) (hwm : m_wm v = pp + 2) (h6 : m_wm v ≤ 6) : MI D ct l yX11_leastOf wsX11_leastOf rmX11_leastOf_2 (MW ct o v R) [.ref (o 0), .int (nI (pp)), .int (x2), .int (x3)] (fun r0 (_ : Unit) => r0 = lsM (m_wt v) 2 pp x2 x3) (fun _ : Unit => MW ct o v R) := by
  refine MIof (cc := cX11_leastOf) (maxL := 7) (ret := (some .int)) (by decide) rfl (Nat.le_of_ble_eq_true rfl) ?_
  intro p e s m args below meth c A H locs F hP hK hD hS hA ls hl
  obtain ⟨hx, hb, hr, hlocks, hml, hown, hts, hin⟩ := F
  have hl : lv_has ls 7 [(0, .ref (o 0)), (1, .int (nI (pp))), (2, .int (x2)), (3, .int (x3))] := hl
  have h_X11 := in_X11_leastOf_2_X11
  have f17 := hts (.fieldLink RX11 17 "CartArgumentsModel" "weights" "[I") (by decide +kernel)
  have f169 := hts (.fieldLink RX11 169 "CartArgumentsModel" "weightMany" "I") (by decide +kernel)
  refine lv_iload_n hx hb dX11_leastOf_0 rfl (lv_at hl 1 rfl) ?_
  refine lv_aload_n hx hb dX11_leastOf_1 rfl (lv_at hl 0 rfl) ?_
  refine va_get (ci := 10) (v := .int (nI (m_wm v))) hx hb hts h_X11 hown hK hP 0 rfl rfl 9 (by decide) f169 (fun _ h9 => h9) rfl dX11_leastOf_2 ?_
  refine zN_icmp_ne (tgt := 13) hx hb (by omega) (by omega) dX11_leastOf_5 (by decide) (fun c5_1 => ?_) (fun c5_1 => ?_)
  · skip
    refine lv_ldc (v := nI (1000000)) hx hb hown (hts (.constant RX11 172 (1000000)) (by decide +kernel)) dX11_leastOf_13 ?_
    refine lv_istore (lv' := [(4, .int (nI (1000000))), (0, .ref (o 0)), (1, .int (nI (pp))), (2, .int (x2)), (3, .int (x3))]) hx hb dX11_leastOf_15 hl (by decide) rfl (fun ls hl => ?_)
    refine lv_iconst (v := nI (0)) hx hb dX11_leastOf_17 (by decide) ?_
    refine lv_istore (lv' := [(5, .int (nI (0))), (4, .int (nI (1000000))), (0, .ref (o 0)), (1, .int (nI (pp))), (2, .int (x2)), (3, .int (x3))]) hx hb dX11_leastOf_18 hl (by decide) rfl (fun ls hl => ?_)
    have lp20 : ∀ (fu : Nat) (j : Nat) (acc : Int32) (H : Heap) (locs : List Loc) (ls : Array Slot), (j ≤ 6) → (acc = lsL (fun p => decide ((x2 >>> (nI p &&& 31)) &&& nI 1 = nI 1)) (fun q => lsM (m_wt v) 1 (pp + 1) (x2 ||| (nI 1 <<< (nI q &&& 31))) (x3 + (m_wt v pp * nI 2) * (nI 5 - nI (2 * q)))) j) → 6 - j < fu → va_P D vwCl (MW ct o v R) H → va_D A (MW ct o v R) → va_S A s.heap H locs → lv_has ls 7 [(0, .ref (o 0)), (1, .int (nI (pp))), (2, .int (x2)), (3, .int (x3)), (4, .int (acc)), (5, .int (nI (j)))] → W p l e rmX11_leastOf_2 s m args below meth c H locs 0 0 (MQ below (va_Qi (fun r0 (_ : Unit) => r0 = lsM (m_wt v) 2 pp x2 x3) (zB D ct A (fun _ : Unit => MW ct o v R)) A) args s rmX11_leastOf_2.cells rmX11_leastOf_2.slots A) (F0 m 20 ls []) := by
      intro fu
      induction fu with
      | zero => intro j acc H locs ls hj hacc hfu; exact absurd hfu (Nat.not_lt_zero _)
      | succ fu ih20 =>
        intro j acc H locs ls hj hacc hfu hP hD hS hl
        refine lv_iload hx hb dX11_leastOf_20 (lv_at hl 5 rfl) ?_
        refine lv_bipush (v := nI (6)) hx hb dX11_leastOf_22 (by decide) ?_
        refine zN_icmp_ge (tgt := 94) hx hb (by omega) (by omega) dX11_leastOf_24 (by decide) (fun c24_2 => ?_) (fun c24_2 => ?_)
        · skip
          refine lv_iload hx hb dX11_leastOf_94 (lv_at hl 4 rfl) ?_
          exact zIret () hx hb hr hlocks hK hP hD hS dX11_leastOf_96 (show acc = lsM (m_wt v) 2 pp x2 x3 from (by obtain rfl : j = 6 := (by omega); exact hacc))
        · skip
          refine lv_iload_n hx hb dX11_leastOf_27 rfl (lv_at hl 2 rfl) ?_
          refine lv_iload hx hb dX11_leastOf_28 (lv_at hl 5 rfl) ?_
          refine lv_ishr hx hb dX11_leastOf_30 ?_
          refine lv_iconst (v := nI (1)) hx hb dX11_leastOf_31 (by decide) ?_
          refine lv_iand hx hb dX11_leastOf_32 ?_
          refine lv_iconst (v := nI (1)) hx hb dX11_leastOf_33 (by decide) ?_
          refine lv_icmp_ne (tgt := 40) hx hb dX11_leastOf_34 (by decide) (fun c34_3 => ?_) (fun c34_3 => ?_)
          · skip
            refine lv_aload_n hx hb dX11_leastOf_40 rfl (lv_at hl 0 rfl) ?_
            refine lv_iload_n hx hb dX11_leastOf_41 rfl (lv_at hl 1 rfl) ?_
            refine lv_iconst (v := nI (1)) hx hb dX11_leastOf_42 (by decide) ?_
            refine zNadd hx hb dX11_leastOf_43 ?_
            refine lv_iload_n hx hb dX11_leastOf_44 rfl (lv_at hl 2 rfl) ?_
            refine lv_iconst (v := nI (1)) hx hb dX11_leastOf_45 (by decide) ?_
            refine lv_iload hx hb dX11_leastOf_46 (lv_at hl 5 rfl) ?_
            refine lv_ishl hx hb dX11_leastOf_48 ?_
            refine lv_ior hx hb dX11_leastOf_49 ?_
            refine lv_iload_n hx hb dX11_leastOf_50 rfl (lv_at hl 3 rfl) ?_
            refine lv_aload_n hx hb dX11_leastOf_51 rfl (lv_at hl 0 rfl) ?_
            refine va_get (ci := 10) (v := .ref (o 3)) hx hb hts h_X11 hown hK hP 0 rfl rfl 8 (by decide) f17 (fun _ h9 => h9) rfl dX11_leastOf_52 ?_
            refine lv_iload_n hx hb dX11_leastOf_55 rfl (lv_at hl 1 rfl) ?_
            refine zIald (n := 6) (f := m_wt v) (i := pp) hx hb hK hP 3 rfl (by omega) (by decide) dX11_leastOf_56 ?_
            refine lv_iconst (v := nI (2)) hx hb dX11_leastOf_57 (by decide) ?_
            refine lv_imul hx hb dX11_leastOf_58 ?_
            refine lv_iconst (v := nI (5)) hx hb dX11_leastOf_59 (by decide) ?_
            refine lv_iconst (v := nI (2)) hx hb dX11_leastOf_60 (by decide) ?_
            refine lv_iload hx hb dX11_leastOf_61 (lv_at hl 5 rfl) ?_
            refine zNmul hx hb dX11_leastOf_63 ?_
            refine lv_isub hx hb dX11_leastOf_64 ?_
            refine lv_imul hx hb dX11_leastOf_65 ?_
            refine lv_iadd hx hb dX11_leastOf_66 ?_
            refine zVI [.int (nI ((pp + 1))), .int ((x2 ||| (nI (1) <<< (nI (j) &&& 31)))), .int ((x3 + (((m_wt v (pp)) * nI (2)) * (nI (5) - nI ((2 * j))))))] [] (kX11_leastOf_1 (o) (v) (R) ((pp + 1)) ((x2 ||| (nI (1) <<< (nI (j) &&& 31)))) ((x3 + (((m_wt v (pp)) * nI (2)) * (nI (5) - nI ((2 * j)))))) (show m_wm v = ((pp + 1)) + 1 from by omega) (show m_wm v ≤ 6 from by omega)) hx hb hml hown hts (cwV 3 hts gX11_leastOf_X11_leastOf rfl rfl rfl (by decide +kernel) ⟨(Nat.le_of_ble_eq_true rfl), (Nat.le_of_ble_eq_true rfl)⟩) hK hP hD hS hA (va_recv hK hP (ci := 10) (q0 := 0) rfl rfl) rfl hl.1 rfl (Nat.le_of_ble_eq_true rfl) dX11_leastOf_67 ⟨(Nat.le_of_ble_eq_true rfl), (Nat.le_of_ble_eq_true rfl)⟩ (fun r_67 _ H locs hr_67 hP hD hS => ?_)
            subst hr_67
            have hP : va_P D vwCl (MW ct o v R) H := hP
            have hD : va_D A (MW ct o v R) := hD
            refine lv_istore (lv' := [(6, .int ((lsM (m_wt v) 1 ((pp + 1)) ((x2 ||| (nI (1) <<< (nI (j) &&& 31)))) ((x3 + (((m_wt v (pp)) * nI (2)) * (nI (5) - nI ((2 * j))))))))), (0, .ref (o 0)), (1, .int (nI (pp))), (2, .int (x2)), (3, .int (x3)), (4, .int (acc)), (5, .int (nI (j)))]) hx hb dX11_leastOf_70 hl (by decide) rfl (fun ls hl => ?_)
            refine lv_iload hx hb dX11_leastOf_72 (lv_at hl 0 rfl) ?_
            refine lv_iload hx hb dX11_leastOf_74 (lv_at hl 5 rfl) ?_
            refine lv_icmp_ge (tgt := 84) hx hb dX11_leastOf_76 (by decide) (fun c76_4 => ?_) (fun c76_4 => ?_)
            · skip
              refine lv_iload hx hb dX11_leastOf_84 (lv_at hl 5 rfl) ?_
              refine lv_istore (lv' := [(4, .int (acc)), (6, .int ((lsM (m_wt v) 1 ((pp + 1)) ((x2 ||| (nI (1) <<< (nI (j) &&& 31)))) ((x3 + (((m_wt v (pp)) * nI (2)) * (nI (5) - nI ((2 * j))))))))), (0, .ref (o 0)), (1, .int (nI (pp))), (2, .int (x2)), (3, .int (x3)), (5, .int (nI (j)))]) hx hb dX11_leastOf_86 hl (by decide) rfl (fun ls hl => ?_)
              refine lv_iinc (v := nI ((j + 1))) (lv' := [(5, .int (nI ((j + 1)))), (4, .int (acc)), (6, .int ((lsM (m_wt v) 1 ((pp + 1)) ((x2 ||| (nI (1) <<< (nI (j) &&& 31)))) ((x3 + (((m_wt v (pp)) * nI (2)) * (nI (5) - nI ((2 * j))))))))), (0, .ref (o 0)), (1, .int (nI (pp))), (2, .int (x2)), (3, .int (x3))]) hx hb dX11_leastOf_88 hl (k := 6) rfl (zInc _) (by decide) rfl (fun ls hl => ?_)
              refine lv_goto (tgt := 20) hx hb dX11_leastOf_91 (by decide) ?_
              exact ih20 ((j + 1)) (acc) H locs ls (by omega) (by simp only [lsL, ← hacc, c5_1, c24_2, c34_3, c76_4, p_in, p_worn, p_wi, p_creak, p_le0, p_lt1, p_rng, pmT, pmC, p_eq0, not_true_eq_false, not_false_eq_true, if_true, if_false, and_true, true_and, and_false, false_and, or_true, true_or, or_false, false_or, and_self, or_self, iff_true, true_iff, iff_false, false_iff, decide_eq_true_eq, decide_true, decide_false, Int32.add_zero, Nat.add_zero, ne_eq, Bool.false_eq_true, eq_self]) (by omega) hP hD hS (lv_sub hl [3, 4, 5, 6, 1, 0] rfl)
            · skip
              refine lv_iload hx hb dX11_leastOf_79 (lv_at hl 0 rfl) ?_
              refine lv_goto (tgt := 86) hx hb dX11_leastOf_81 (by decide) ?_
              refine lv_istore (lv' := [(4, .int ((lsM (m_wt v) 1 ((pp + 1)) ((x2 ||| (nI (1) <<< (nI (j) &&& 31)))) ((x3 + (((m_wt v (pp)) * nI (2)) * (nI (5) - nI ((2 * j))))))))), (6, .int ((lsM (m_wt v) 1 ((pp + 1)) ((x2 ||| (nI (1) <<< (nI (j) &&& 31)))) ((x3 + (((m_wt v (pp)) * nI (2)) * (nI (5) - nI ((2 * j))))))))), (0, .ref (o 0)), (1, .int (nI (pp))), (2, .int (x2)), (3, .int (x3)), (5, .int (nI (j)))]) hx hb dX11_leastOf_86 hl (by decide) rfl (fun ls hl => ?_)
              refine lv_iinc (v := nI ((j + 1))) (lv' := [(5, .int (nI ((j + 1)))), (4, .int ((lsM (m_wt v) 1 ((pp + 1)) ((x2 ||| (nI (1) <<< (nI (j) &&& 31)))) ((x3 + (((m_wt v (pp)) * nI (2)) * (nI (5) - nI ((2 * j))))))))), (6, .int ((lsM (m_wt v) 1 ((pp + 1)) ((x2 ||| (nI (1) <<< (nI (j) &&& 31)))) ((x3 + (((m_wt v (pp)) * nI (2)) * (nI (5) - nI ((2 * j))))))))), (0, .ref (o 0)), (1, .int (nI (pp))), (2, .int (x2)), (3, .int (x3))]) hx hb dX11_leastOf_88 hl (k := 6) rfl (zInc _) (by decide) rfl (fun ls hl => ?_)
              refine lv_goto (tgt := 20) hx hb dX11_leastOf_91 (by decide) ?_
              exact ih20 ((j + 1)) ((lsM (m_wt v) 1 ((pp + 1)) ((x2 ||| (nI (1) <<< (nI (j) &&& 31)))) ((x3 + (((m_wt v (pp)) * nI (2)) * (nI (5) - nI ((2 * j)))))))) H locs ls (by omega) (by simp only [lsL, ← hacc, c5_1, c24_2, c34_3, c76_4, p_in, p_worn, p_wi, p_creak, p_le0, p_lt1, p_rng, pmT, pmC, p_eq0, not_true_eq_false, not_false_eq_true, if_true, if_false, and_true, true_and, and_false, false_and, or_true, true_or, or_false, false_or, and_self, or_self, iff_true, true_iff, iff_false, false_iff, decide_eq_true_eq, decide_true, decide_false, Int32.add_zero, Nat.add_zero, ne_eq, Bool.false_eq_true, eq_self]) (by omega) hP hD hS (lv_sub hl [3, 4, 5, 6, 1, 0] rfl)
          · skip
            refine lv_goto (tgt := 88) hx hb dX11_leastOf_37 (by decide) ?_
            refine lv_iinc (v := nI ((j + 1))) (lv' := [(5, .int (nI ((j + 1)))), (0, .ref (o 0)), (1, .int (nI (pp))), (2, .int (x2)), (3, .int (x3)), (4, .int (acc))]) hx hb dX11_leastOf_88 hl (k := 5) rfl (zInc _) (by decide) rfl (fun ls hl => ?_)
            refine lv_goto (tgt := 20) hx hb dX11_leastOf_91 (by decide) ?_
            exact ih20 ((j + 1)) (acc) H locs ls (by omega) (by simp only [lsL, ← hacc, c5_1, c24_2, eq_true c34_3, p_in, p_worn, p_wi, p_creak, p_le0, p_lt1, p_rng, pmT, pmC, p_eq0, not_true_eq_false, not_false_eq_true, if_true, if_false, and_true, true_and, and_false, false_and, or_true, true_or, or_false, false_or, and_self, or_self, iff_true, true_iff, iff_false, false_iff, decide_eq_true_eq, decide_true, decide_false, Int32.add_zero, Nat.add_zero, ne_eq, Bool.false_eq_true, eq_self]) (by omega) hP hD hS (lv_sub hl [1, 2, 3, 4, 5, 0] rfl)
    exact lp20 ((6 - (0)) + 1) (0) (nI 1000000) H locs ls (by omega) rfl (Nat.lt_succ_self _) hP hD hS (lv_sub hl [2, 3, 4, 5, 1, 0] rfl)
  · skip
    exact absurd (show pp = m_wm v from c5_1) (by omega)
abbrev rmX11_leastOf_3 : Room := { frames := 4, cells := 0, slots := 0, locals := 98 }
theorem in_X11_leastOf_3_X11 : ∀ w ∈ u_ws RX11 TX11 19, w ∈ wsX11_leastOf := by decide +kernel
set_option maxHeartbeats 4000000 in
set_option maxRecDepth 100000 in
theorem kX11_leastOf_3 {D : va_G} {ct : Nat → ClassId} {l : Launch} (o : Nat → Nat) (v : MS) (R : va_W) (pp : Nat) (x2 : Int32) (x3 : Int32) (hwm : m_wm v = pp + 3) (h6 : m_wm v ≤ 6) : MI D ct l yX11_leastOf wsX11_leastOf rmX11_leastOf_3 (MW ct o v R) [.ref (o 0), .int (nI (pp)), .int (x2), .int (x3)] (fun r0 (_ : Unit) => r0 = lsM (m_wt v) 3 pp x2 x3) (fun _ : Unit => MW ct o v R) := by
  refine MIof (cc := cX11_leastOf) (maxL := 7) (ret := (some .int)) (by decide) rfl (Nat.le_of_ble_eq_true rfl) ?_
  intro p e s m args below meth c A H locs F hP hK hD hS hA ls hl
  obtain ⟨hx, hb, hr, hlocks, hml, hown, hts, hin⟩ := F
  have hl : lv_has ls 7 [(0, .ref (o 0)), (1, .int (nI (pp))), (2, .int (x2)), (3, .int (x3))] := hl
  have h_X11 := in_X11_leastOf_3_X11
  have f17 := hts (.fieldLink RX11 17 "CartArgumentsModel" "weights" "[I") (by decide +kernel)
  have f169 := hts (.fieldLink RX11 169 "CartArgumentsModel" "weightMany" "I") (by decide +kernel)
  refine lv_iload_n hx hb dX11_leastOf_0 rfl (lv_at hl 1 rfl) ?_
  refine lv_aload_n hx hb dX11_leastOf_1 rfl (lv_at hl 0 rfl) ?_
  refine va_get (ci := 10) (v := .int (nI (m_wm v))) hx hb hts h_X11 hown hK hP 0 rfl rfl 9 (by decide) f169 (fun _ h9 => h9) rfl dX11_leastOf_2 ?_
  refine zN_icmp_ne (tgt := 13) hx hb (by omega) (by omega) dX11_leastOf_5 (by decide) (fun c5_1 => ?_) (fun c5_1 => ?_)
  · skip
    refine lv_ldc (v := nI (1000000)) hx hb hown (hts (.constant RX11 172 (1000000)) (by decide +kernel)) dX11_leastOf_13 ?_
    refine lv_istore (lv' := [(4, .int (nI (1000000))), (0, .ref (o 0)), (1, .int (nI (pp))), (2, .int (x2)), (3, .int (x3))]) hx hb dX11_leastOf_15 hl (by decide) rfl (fun ls hl => ?_)
    refine lv_iconst (v := nI (0)) hx hb dX11_leastOf_17 (by decide) ?_
    refine lv_istore (lv' := [(5, .int (nI (0))), (4, .int (nI (1000000))), (0, .ref (o 0)), (1, .int (nI (pp))), (2, .int (x2)), (3, .int (x3))]) hx hb dX11_leastOf_18 hl (by decide) rfl (fun ls hl => ?_)
    have lp20 : ∀ (fu : Nat) (j : Nat) (acc : Int32) (H : Heap) (locs : List Loc) (ls : Array Slot), (j ≤ 6) → (acc = lsL (fun p => decide ((x2 >>> (nI p &&& 31)) &&& nI 1 = nI 1)) (fun q => lsM (m_wt v) 2 (pp + 1) (x2 ||| (nI 1 <<< (nI q &&& 31))) (x3 + (m_wt v pp * nI 2) * (nI 5 - nI (2 * q)))) j) → 6 - j < fu → va_P D vwCl (MW ct o v R) H → va_D A (MW ct o v R) → va_S A s.heap H locs → lv_has ls 7 [(0, .ref (o 0)), (1, .int (nI (pp))), (2, .int (x2)), (3, .int (x3)), (4, .int (acc)), (5, .int (nI (j)))] → W p l e rmX11_leastOf_3 s m args below meth c H locs 0 0 (MQ below (va_Qi (fun r0 (_ : Unit) => r0 = lsM (m_wt v) 3 pp x2 x3) (zB D ct A (fun _ : Unit => MW ct o v R)) A) args s rmX11_leastOf_3.cells rmX11_leastOf_3.slots A) (F0 m 20 ls []) := by
      intro fu
      induction fu with
      | zero => intro j acc H locs ls hj hacc hfu; exact absurd hfu (Nat.not_lt_zero _)
      | succ fu ih20 =>
        intro j acc H locs ls hj hacc hfu hP hD hS hl
        refine lv_iload hx hb dX11_leastOf_20 (lv_at hl 5 rfl) ?_
        refine lv_bipush (v := nI (6)) hx hb dX11_leastOf_22 (by decide) ?_
        refine zN_icmp_ge (tgt := 94) hx hb (by omega) (by omega) dX11_leastOf_24 (by decide) (fun c24_2 => ?_) (fun c24_2 => ?_)
        · skip
          refine lv_iload hx hb dX11_leastOf_94 (lv_at hl 4 rfl) ?_
          exact zIret () hx hb hr hlocks hK hP hD hS dX11_leastOf_96 (show acc = lsM (m_wt v) 3 pp x2 x3 from (by obtain rfl : j = 6 := (by omega); exact hacc))
        · skip
          refine lv_iload_n hx hb dX11_leastOf_27 rfl (lv_at hl 2 rfl) ?_
          refine lv_iload hx hb dX11_leastOf_28 (lv_at hl 5 rfl) ?_
          refine lv_ishr hx hb dX11_leastOf_30 ?_
          refine lv_iconst (v := nI (1)) hx hb dX11_leastOf_31 (by decide) ?_
          refine lv_iand hx hb dX11_leastOf_32 ?_
          refine lv_iconst (v := nI (1)) hx hb dX11_leastOf_33 (by decide) ?_
          refine lv_icmp_ne (tgt := 40) hx hb dX11_leastOf_34 (by decide) (fun c34_3 => ?_) (fun c34_3 => ?_)
          · skip
            refine lv_aload_n hx hb dX11_leastOf_40 rfl (lv_at hl 0 rfl) ?_
            refine lv_iload_n hx hb dX11_leastOf_41 rfl (lv_at hl 1 rfl) ?_
            refine lv_iconst (v := nI (1)) hx hb dX11_leastOf_42 (by decide) ?_
            refine zNadd hx hb dX11_leastOf_43 ?_
            refine lv_iload_n hx hb dX11_leastOf_44 rfl (lv_at hl 2 rfl) ?_
            refine lv_iconst (v := nI (1)) hx hb dX11_leastOf_45 (by decide) ?_
            refine lv_iload hx hb dX11_leastOf_46 (lv_at hl 5 rfl) ?_
            refine lv_ishl hx hb dX11_leastOf_48 ?_
            refine lv_ior hx hb dX11_leastOf_49 ?_
            refine lv_iload_n hx hb dX11_leastOf_50 rfl (lv_at hl 3 rfl) ?_
            refine lv_aload_n hx hb dX11_leastOf_51 rfl (lv_at hl 0 rfl) ?_
            refine va_get (ci := 10) (v := .ref (o 3)) hx hb hts h_X11 hown hK hP 0 rfl rfl 8 (by decide) f17 (fun _ h9 => h9) rfl dX11_leastOf_52 ?_
            refine lv_iload_n hx hb dX11_leastOf_55 rfl (lv_at hl 1 rfl) ?_
            refine zIald (n := 6) (f := m_wt v) (i := pp) hx hb hK hP 3 rfl (by omega) (by decide) dX11_leastOf_56 ?_
            refine lv_iconst (v := nI (2)) hx hb dX11_leastOf_57 (by decide) ?_
            refine lv_imul hx hb dX11_leastOf_58 ?_
            refine lv_iconst (v := nI (5)) hx hb dX11_leastOf_59 (by decide) ?_
            refine lv_iconst (v := nI (2)) hx hb dX11_leastOf_60 (by decide) ?_
            refine lv_iload hx hb dX11_leastOf_61 (lv_at hl 5 rfl) ?_
            refine zNmul hx hb dX11_leastOf_63 ?_
            refine lv_isub hx hb dX11_leastOf_64 ?_
            refine lv_imul hx hb dX11_leastOf_65 ?_
            refine lv_iadd hx hb dX11_leastOf_66 ?_
            refine zVI [.int (nI ((pp + 1))), .int ((x2 ||| (nI (1) <<< (nI (j) &&& 31)))), .int ((x3 + (((m_wt v (pp)) * nI (2)) * (nI (5) - nI ((2 * j))))))] [] (kX11_leastOf_2 (o) (v) (R) ((pp + 1)) ((x2 ||| (nI (1) <<< (nI (j) &&& 31)))) ((x3 + (((m_wt v (pp)) * nI (2)) * (nI (5) - nI ((2 * j)))))) (show m_wm v = ((pp + 1)) + 2 from by omega) (show m_wm v ≤ 6 from by omega)) hx hb hml hown hts (cwV 3 hts gX11_leastOf_X11_leastOf rfl rfl rfl (by decide +kernel) ⟨(Nat.le_of_ble_eq_true rfl), (Nat.le_of_ble_eq_true rfl)⟩) hK hP hD hS hA (va_recv hK hP (ci := 10) (q0 := 0) rfl rfl) rfl hl.1 rfl (Nat.le_of_ble_eq_true rfl) dX11_leastOf_67 ⟨(Nat.le_of_ble_eq_true rfl), (Nat.le_of_ble_eq_true rfl)⟩ (fun r_67 _ H locs hr_67 hP hD hS => ?_)
            subst hr_67
            have hP : va_P D vwCl (MW ct o v R) H := hP
            have hD : va_D A (MW ct o v R) := hD
            refine lv_istore (lv' := [(6, .int ((lsM (m_wt v) 2 ((pp + 1)) ((x2 ||| (nI (1) <<< (nI (j) &&& 31)))) ((x3 + (((m_wt v (pp)) * nI (2)) * (nI (5) - nI ((2 * j))))))))), (0, .ref (o 0)), (1, .int (nI (pp))), (2, .int (x2)), (3, .int (x3)), (4, .int (acc)), (5, .int (nI (j)))]) hx hb dX11_leastOf_70 hl (by decide) rfl (fun ls hl => ?_)
            refine lv_iload hx hb dX11_leastOf_72 (lv_at hl 0 rfl) ?_
            refine lv_iload hx hb dX11_leastOf_74 (lv_at hl 5 rfl) ?_
            refine lv_icmp_ge (tgt := 84) hx hb dX11_leastOf_76 (by decide) (fun c76_4 => ?_) (fun c76_4 => ?_)
            · skip
              refine lv_iload hx hb dX11_leastOf_84 (lv_at hl 5 rfl) ?_
              refine lv_istore (lv' := [(4, .int (acc)), (6, .int ((lsM (m_wt v) 2 ((pp + 1)) ((x2 ||| (nI (1) <<< (nI (j) &&& 31)))) ((x3 + (((m_wt v (pp)) * nI (2)) * (nI (5) - nI ((2 * j))))))))), (0, .ref (o 0)), (1, .int (nI (pp))), (2, .int (x2)), (3, .int (x3)), (5, .int (nI (j)))]) hx hb dX11_leastOf_86 hl (by decide) rfl (fun ls hl => ?_)
              refine lv_iinc (v := nI ((j + 1))) (lv' := [(5, .int (nI ((j + 1)))), (4, .int (acc)), (6, .int ((lsM (m_wt v) 2 ((pp + 1)) ((x2 ||| (nI (1) <<< (nI (j) &&& 31)))) ((x3 + (((m_wt v (pp)) * nI (2)) * (nI (5) - nI ((2 * j))))))))), (0, .ref (o 0)), (1, .int (nI (pp))), (2, .int (x2)), (3, .int (x3))]) hx hb dX11_leastOf_88 hl (k := 6) rfl (zInc _) (by decide) rfl (fun ls hl => ?_)
              refine lv_goto (tgt := 20) hx hb dX11_leastOf_91 (by decide) ?_
              exact ih20 ((j + 1)) (acc) H locs ls (by omega) (by simp only [lsL, ← hacc, c5_1, c24_2, c34_3, c76_4, p_in, p_worn, p_wi, p_creak, p_le0, p_lt1, p_rng, pmT, pmC, p_eq0, not_true_eq_false, not_false_eq_true, if_true, if_false, and_true, true_and, and_false, false_and, or_true, true_or, or_false, false_or, and_self, or_self, iff_true, true_iff, iff_false, false_iff, decide_eq_true_eq, decide_true, decide_false, Int32.add_zero, Nat.add_zero, ne_eq, Bool.false_eq_true, eq_self]) (by omega) hP hD hS (lv_sub hl [3, 4, 5, 6, 1, 0] rfl)
            · skip
              refine lv_iload hx hb dX11_leastOf_79 (lv_at hl 0 rfl) ?_
              refine lv_goto (tgt := 86) hx hb dX11_leastOf_81 (by decide) ?_
              refine lv_istore (lv' := [(4, .int ((lsM (m_wt v) 2 ((pp + 1)) ((x2 ||| (nI (1) <<< (nI (j) &&& 31)))) ((x3 + (((m_wt v (pp)) * nI (2)) * (nI (5) - nI ((2 * j))))))))), (6, .int ((lsM (m_wt v) 2 ((pp + 1)) ((x2 ||| (nI (1) <<< (nI (j) &&& 31)))) ((x3 + (((m_wt v (pp)) * nI (2)) * (nI (5) - nI ((2 * j))))))))), (0, .ref (o 0)), (1, .int (nI (pp))), (2, .int (x2)), (3, .int (x3)), (5, .int (nI (j)))]) hx hb dX11_leastOf_86 hl (by decide) rfl (fun ls hl => ?_)
              refine lv_iinc (v := nI ((j + 1))) (lv' := [(5, .int (nI ((j + 1)))), (4, .int ((lsM (m_wt v) 2 ((pp + 1)) ((x2 ||| (nI (1) <<< (nI (j) &&& 31)))) ((x3 + (((m_wt v (pp)) * nI (2)) * (nI (5) - nI ((2 * j))))))))), (6, .int ((lsM (m_wt v) 2 ((pp + 1)) ((x2 ||| (nI (1) <<< (nI (j) &&& 31)))) ((x3 + (((m_wt v (pp)) * nI (2)) * (nI (5) - nI ((2 * j))))))))), (0, .ref (o 0)), (1, .int (nI (pp))), (2, .int (x2)), (3, .int (x3))]) hx hb dX11_leastOf_88 hl (k := 6) rfl (zInc _) (by decide) rfl (fun ls hl => ?_)
              refine lv_goto (tgt := 20) hx hb dX11_leastOf_91 (by decide) ?_
              exact ih20 ((j + 1)) ((lsM (m_wt v) 2 ((pp + 1)) ((x2 ||| (nI (1) <<< (nI (j) &&& 31)))) ((x3 + (((m_wt v (pp)) * nI (2)) * (nI (5) - nI ((2 * j)))))))) H locs ls (by omega) (by simp only [lsL, ← hacc, c5_1, c24_2, c34_3, c76_4, p_in, p_worn, p_wi, p_creak, p_le0, p_lt1, p_rng, pmT, pmC, p_eq0, not_true_eq_false, not_false_eq_true, if_true, if_false, and_true, true_and, and_false, false_and, or_true, true_or, or_false, false_or, and_self, or_self, iff_true, true_iff, iff_false, false_iff, decide_eq_true_eq, decide_true, decide_false, Int32.add_zero, Nat.add_zero, ne_eq, Bool.false_eq_true, eq_self]) (by omega) hP hD hS (lv_sub hl [3, 4, 5, 6, 1, 0] rfl)
          · skip
            refine lv_goto (tgt := 88) hx hb dX11_leastOf_37 (by decide) ?_
            refine lv_iinc (v := nI ((j + 1))) (lv' := [(5, .int (nI ((j + 1)))), (0, .ref (o 0)), (1, .int (nI (pp))), (2, .int (x2)), (3, .int (x3)), (4, .int (acc))]) hx hb dX11_leastOf_88 hl (k := 5) rfl (zInc _) (by decide) rfl (fun ls hl => ?_)
            refine lv_goto (tgt := 20) hx hb dX11_leastOf_91 (by decide) ?_
            exact ih20 ((j + 1)) (acc) H locs ls (by omega) (by simp only [lsL, ← hacc, c5_1, c24_2, eq_true c34_3, p_in, p_worn, p_wi, p_creak, p_le0, p_lt1, p_rng, pmT, pmC, p_eq0, not_true_eq_false, not_false_eq_true, if_true, if_false, and_true, true_and, and_false, false_and, or_true, true_or, or_false, false_or, and_self, or_self, iff_true, true_iff, iff_false, false_iff, decide_eq_true_eq, decide_true, decide_false, Int32.add_zero, Nat.add_zero, ne_eq, Bool.false_eq_true, eq_self]) (by omega) hP hD hS (lv_sub hl [1, 2, 3, 4, 5, 0] rfl)
    exact lp20 ((6 - (0)) + 1) (0) (nI 1000000) H locs ls (by omega) rfl (Nat.lt_succ_self _) hP hD hS (lv_sub hl [2, 3, 4, 5, 1, 0] rfl)
  · skip
    exact absurd (show pp = m_wm v from c5_1) (by omega)
abbrev rmX11_leastOf_4 : Room := { frames := 5, cells := 0, slots := 0, locals := 124 }
theorem in_X11_leastOf_4_X11 : ∀ w ∈ u_ws RX11 TX11 19, w ∈ wsX11_leastOf := by decide +kernel
set_option maxHeartbeats 4000000 in
set_option maxRecDepth 100000 in
theorem kX11_leastOf_4 {D : va_G} {ct : Nat → ClassId} {l : Launch} (o : Nat → Nat) (v : MS) (R : va_W) (pp : Nat) (x2 : Int32) (x3 : Int32) (hwm : m_wm v = pp + 4) (h6 : m_wm v ≤ 6) : MI D ct l yX11_leastOf wsX11_leastOf rmX11_leastOf_4 (MW ct o v R) [.ref (o 0), .int (nI (pp)), .int (x2), .int (x3)] (fun r0 (_ : Unit) => r0 = lsM (m_wt v) 4 pp x2 x3) (fun _ : Unit => MW ct o v R) := by
  refine MIof (cc := cX11_leastOf) (maxL := 7) (ret := (some .int)) (by decide) rfl (Nat.le_of_ble_eq_true rfl) ?_
  intro p e s m args below meth c A H locs F hP hK hD hS hA ls hl
  obtain ⟨hx, hb, hr, hlocks, hml, hown, hts, hin⟩ := F
  have hl : lv_has ls 7 [(0, .ref (o 0)), (1, .int (nI (pp))), (2, .int (x2)), (3, .int (x3))] := hl
  have h_X11 := in_X11_leastOf_4_X11
  have f17 := hts (.fieldLink RX11 17 "CartArgumentsModel" "weights" "[I") (by decide +kernel)
  have f169 := hts (.fieldLink RX11 169 "CartArgumentsModel" "weightMany" "I") (by decide +kernel)
  refine lv_iload_n hx hb dX11_leastOf_0 rfl (lv_at hl 1 rfl) ?_
  refine lv_aload_n hx hb dX11_leastOf_1 rfl (lv_at hl 0 rfl) ?_
  refine va_get (ci := 10) (v := .int (nI (m_wm v))) hx hb hts h_X11 hown hK hP 0 rfl rfl 9 (by decide) f169 (fun _ h9 => h9) rfl dX11_leastOf_2 ?_
  refine zN_icmp_ne (tgt := 13) hx hb (by omega) (by omega) dX11_leastOf_5 (by decide) (fun c5_1 => ?_) (fun c5_1 => ?_)
  · skip
    refine lv_ldc (v := nI (1000000)) hx hb hown (hts (.constant RX11 172 (1000000)) (by decide +kernel)) dX11_leastOf_13 ?_
    refine lv_istore (lv' := [(4, .int (nI (1000000))), (0, .ref (o 0)), (1, .int (nI (pp))), (2, .int (x2)), (3, .int (x3))]) hx hb dX11_leastOf_15 hl (by decide) rfl (fun ls hl => ?_)
    refine lv_iconst (v := nI (0)) hx hb dX11_leastOf_17 (by decide) ?_
    refine lv_istore (lv' := [(5, .int (nI (0))), (4, .int (nI (1000000))), (0, .ref (o 0)), (1, .int (nI (pp))), (2, .int (x2)), (3, .int (x3))]) hx hb dX11_leastOf_18 hl (by decide) rfl (fun ls hl => ?_)
    have lp20 : ∀ (fu : Nat) (j : Nat) (acc : Int32) (H : Heap) (locs : List Loc) (ls : Array Slot), (j ≤ 6) → (acc = lsL (fun p => decide ((x2 >>> (nI p &&& 31)) &&& nI 1 = nI 1)) (fun q => lsM (m_wt v) 3 (pp + 1) (x2 ||| (nI 1 <<< (nI q &&& 31))) (x3 + (m_wt v pp * nI 2) * (nI 5 - nI (2 * q)))) j) → 6 - j < fu → va_P D vwCl (MW ct o v R) H → va_D A (MW ct o v R) → va_S A s.heap H locs → lv_has ls 7 [(0, .ref (o 0)), (1, .int (nI (pp))), (2, .int (x2)), (3, .int (x3)), (4, .int (acc)), (5, .int (nI (j)))] → W p l e rmX11_leastOf_4 s m args below meth c H locs 0 0 (MQ below (va_Qi (fun r0 (_ : Unit) => r0 = lsM (m_wt v) 4 pp x2 x3) (zB D ct A (fun _ : Unit => MW ct o v R)) A) args s rmX11_leastOf_4.cells rmX11_leastOf_4.slots A) (F0 m 20 ls []) := by
      intro fu
      induction fu with
      | zero => intro j acc H locs ls hj hacc hfu; exact absurd hfu (Nat.not_lt_zero _)
      | succ fu ih20 =>
        intro j acc H locs ls hj hacc hfu hP hD hS hl
        refine lv_iload hx hb dX11_leastOf_20 (lv_at hl 5 rfl) ?_
        refine lv_bipush (v := nI (6)) hx hb dX11_leastOf_22 (by decide) ?_
        refine zN_icmp_ge (tgt := 94) hx hb (by omega) (by omega) dX11_leastOf_24 (by decide) (fun c24_2 => ?_) (fun c24_2 => ?_)
        · skip
          refine lv_iload hx hb dX11_leastOf_94 (lv_at hl 4 rfl) ?_
          exact zIret () hx hb hr hlocks hK hP hD hS dX11_leastOf_96 (show acc = lsM (m_wt v) 4 pp x2 x3 from (by obtain rfl : j = 6 := (by omega); exact hacc))
        · skip
          refine lv_iload_n hx hb dX11_leastOf_27 rfl (lv_at hl 2 rfl) ?_
          refine lv_iload hx hb dX11_leastOf_28 (lv_at hl 5 rfl) ?_
          refine lv_ishr hx hb dX11_leastOf_30 ?_
          refine lv_iconst (v := nI (1)) hx hb dX11_leastOf_31 (by decide) ?_
          refine lv_iand hx hb dX11_leastOf_32 ?_
          refine lv_iconst (v := nI (1)) hx hb dX11_leastOf_33 (by decide) ?_
          refine lv_icmp_ne (tgt := 40) hx hb dX11_leastOf_34 (by decide) (fun c34_3 => ?_) (fun c34_3 => ?_)
          · skip
            refine lv_aload_n hx hb dX11_leastOf_40 rfl (lv_at hl 0 rfl) ?_
            refine lv_iload_n hx hb dX11_leastOf_41 rfl (lv_at hl 1 rfl) ?_
            refine lv_iconst (v := nI (1)) hx hb dX11_leastOf_42 (by decide) ?_
            refine zNadd hx hb dX11_leastOf_43 ?_
            refine lv_iload_n hx hb dX11_leastOf_44 rfl (lv_at hl 2 rfl) ?_
            refine lv_iconst (v := nI (1)) hx hb dX11_leastOf_45 (by decide) ?_
            refine lv_iload hx hb dX11_leastOf_46 (lv_at hl 5 rfl) ?_
            refine lv_ishl hx hb dX11_leastOf_48 ?_
            refine lv_ior hx hb dX11_leastOf_49 ?_
            refine lv_iload_n hx hb dX11_leastOf_50 rfl (lv_at hl 3 rfl) ?_
            refine lv_aload_n hx hb dX11_leastOf_51 rfl (lv_at hl 0 rfl) ?_
            refine va_get (ci := 10) (v := .ref (o 3)) hx hb hts h_X11 hown hK hP 0 rfl rfl 8 (by decide) f17 (fun _ h9 => h9) rfl dX11_leastOf_52 ?_
            refine lv_iload_n hx hb dX11_leastOf_55 rfl (lv_at hl 1 rfl) ?_
            refine zIald (n := 6) (f := m_wt v) (i := pp) hx hb hK hP 3 rfl (by omega) (by decide) dX11_leastOf_56 ?_
            refine lv_iconst (v := nI (2)) hx hb dX11_leastOf_57 (by decide) ?_
            refine lv_imul hx hb dX11_leastOf_58 ?_
            refine lv_iconst (v := nI (5)) hx hb dX11_leastOf_59 (by decide) ?_
            refine lv_iconst (v := nI (2)) hx hb dX11_leastOf_60 (by decide) ?_
            refine lv_iload hx hb dX11_leastOf_61 (lv_at hl 5 rfl) ?_
            refine zNmul hx hb dX11_leastOf_63 ?_
            refine lv_isub hx hb dX11_leastOf_64 ?_
            refine lv_imul hx hb dX11_leastOf_65 ?_
            refine lv_iadd hx hb dX11_leastOf_66 ?_
            refine zVI [.int (nI ((pp + 1))), .int ((x2 ||| (nI (1) <<< (nI (j) &&& 31)))), .int ((x3 + (((m_wt v (pp)) * nI (2)) * (nI (5) - nI ((2 * j))))))] [] (kX11_leastOf_3 (o) (v) (R) ((pp + 1)) ((x2 ||| (nI (1) <<< (nI (j) &&& 31)))) ((x3 + (((m_wt v (pp)) * nI (2)) * (nI (5) - nI ((2 * j)))))) (show m_wm v = ((pp + 1)) + 3 from by omega) (show m_wm v ≤ 6 from by omega)) hx hb hml hown hts (cwV 3 hts gX11_leastOf_X11_leastOf rfl rfl rfl (by decide +kernel) ⟨(Nat.le_of_ble_eq_true rfl), (Nat.le_of_ble_eq_true rfl)⟩) hK hP hD hS hA (va_recv hK hP (ci := 10) (q0 := 0) rfl rfl) rfl hl.1 rfl (Nat.le_of_ble_eq_true rfl) dX11_leastOf_67 ⟨(Nat.le_of_ble_eq_true rfl), (Nat.le_of_ble_eq_true rfl)⟩ (fun r_67 _ H locs hr_67 hP hD hS => ?_)
            subst hr_67
            have hP : va_P D vwCl (MW ct o v R) H := hP
            have hD : va_D A (MW ct o v R) := hD
            refine lv_istore (lv' := [(6, .int ((lsM (m_wt v) 3 ((pp + 1)) ((x2 ||| (nI (1) <<< (nI (j) &&& 31)))) ((x3 + (((m_wt v (pp)) * nI (2)) * (nI (5) - nI ((2 * j))))))))), (0, .ref (o 0)), (1, .int (nI (pp))), (2, .int (x2)), (3, .int (x3)), (4, .int (acc)), (5, .int (nI (j)))]) hx hb dX11_leastOf_70 hl (by decide) rfl (fun ls hl => ?_)
            refine lv_iload hx hb dX11_leastOf_72 (lv_at hl 0 rfl) ?_
            refine lv_iload hx hb dX11_leastOf_74 (lv_at hl 5 rfl) ?_
            refine lv_icmp_ge (tgt := 84) hx hb dX11_leastOf_76 (by decide) (fun c76_4 => ?_) (fun c76_4 => ?_)
            · skip
              refine lv_iload hx hb dX11_leastOf_84 (lv_at hl 5 rfl) ?_
              refine lv_istore (lv' := [(4, .int (acc)), (6, .int ((lsM (m_wt v) 3 ((pp + 1)) ((x2 ||| (nI (1) <<< (nI (j) &&& 31)))) ((x3 + (((m_wt v (pp)) * nI (2)) * (nI (5) - nI ((2 * j))))))))), (0, .ref (o 0)), (1, .int (nI (pp))), (2, .int (x2)), (3, .int (x3)), (5, .int (nI (j)))]) hx hb dX11_leastOf_86 hl (by decide) rfl (fun ls hl => ?_)
              refine lv_iinc (v := nI ((j + 1))) (lv' := [(5, .int (nI ((j + 1)))), (4, .int (acc)), (6, .int ((lsM (m_wt v) 3 ((pp + 1)) ((x2 ||| (nI (1) <<< (nI (j) &&& 31)))) ((x3 + (((m_wt v (pp)) * nI (2)) * (nI (5) - nI ((2 * j))))))))), (0, .ref (o 0)), (1, .int (nI (pp))), (2, .int (x2)), (3, .int (x3))]) hx hb dX11_leastOf_88 hl (k := 6) rfl (zInc _) (by decide) rfl (fun ls hl => ?_)
              refine lv_goto (tgt := 20) hx hb dX11_leastOf_91 (by decide) ?_
              exact ih20 ((j + 1)) (acc) H locs ls (by omega) (by simp only [lsL, ← hacc, c5_1, c24_2, c34_3, c76_4, p_in, p_worn, p_wi, p_creak, p_le0, p_lt1, p_rng, pmT, pmC, p_eq0, not_true_eq_false, not_false_eq_true, if_true, if_false, and_true, true_and, and_false, false_and, or_true, true_or, or_false, false_or, and_self, or_self, iff_true, true_iff, iff_false, false_iff, decide_eq_true_eq, decide_true, decide_false, Int32.add_zero, Nat.add_zero, ne_eq, Bool.false_eq_true, eq_self]) (by omega) hP hD hS (lv_sub hl [3, 4, 5, 6, 1, 0] rfl)
            · skip
              refine lv_iload hx hb dX11_leastOf_79 (lv_at hl 0 rfl) ?_
              refine lv_goto (tgt := 86) hx hb dX11_leastOf_81 (by decide) ?_
              refine lv_istore (lv' := [(4, .int ((lsM (m_wt v) 3 ((pp + 1)) ((x2 ||| (nI (1) <<< (nI (j) &&& 31)))) ((x3 + (((m_wt v (pp)) * nI (2)) * (nI (5) - nI ((2 * j))))))))), (6, .int ((lsM (m_wt v) 3 ((pp + 1)) ((x2 ||| (nI (1) <<< (nI (j) &&& 31)))) ((x3 + (((m_wt v (pp)) * nI (2)) * (nI (5) - nI ((2 * j))))))))), (0, .ref (o 0)), (1, .int (nI (pp))), (2, .int (x2)), (3, .int (x3)), (5, .int (nI (j)))]) hx hb dX11_leastOf_86 hl (by decide) rfl (fun ls hl => ?_)
              refine lv_iinc (v := nI ((j + 1))) (lv' := [(5, .int (nI ((j + 1)))), (4, .int ((lsM (m_wt v) 3 ((pp + 1)) ((x2 ||| (nI (1) <<< (nI (j) &&& 31)))) ((x3 + (((m_wt v (pp)) * nI (2)) * (nI (5) - nI ((2 * j))))))))), (6, .int ((lsM (m_wt v) 3 ((pp + 1)) ((x2 ||| (nI (1) <<< (nI (j) &&& 31)))) ((x3 + (((m_wt v (pp)) * nI (2)) * (nI (5) - nI ((2 * j))))))))), (0, .ref (o 0)), (1, .int (nI (pp))), (2, .int (x2)), (3, .int (x3))]) hx hb dX11_leastOf_88 hl (k := 6) rfl (zInc _) (by decide) rfl (fun ls hl => ?_)
              refine lv_goto (tgt := 20) hx hb dX11_leastOf_91 (by decide) ?_
              exact ih20 ((j + 1)) ((lsM (m_wt v) 3 ((pp + 1)) ((x2 ||| (nI (1) <<< (nI (j) &&& 31)))) ((x3 + (((m_wt v (pp)) * nI (2)) * (nI (5) - nI ((2 * j)))))))) H locs ls (by omega) (by simp only [lsL, ← hacc, c5_1, c24_2, c34_3, c76_4, p_in, p_worn, p_wi, p_creak, p_le0, p_lt1, p_rng, pmT, pmC, p_eq0, not_true_eq_false, not_false_eq_true, if_true, if_false, and_true, true_and, and_false, false_and, or_true, true_or, or_false, false_or, and_self, or_self, iff_true, true_iff, iff_false, false_iff, decide_eq_true_eq, decide_true, decide_false, Int32.add_zero, Nat.add_zero, ne_eq, Bool.false_eq_true, eq_self]) (by omega) hP hD hS (lv_sub hl [3, 4, 5, 6, 1, 0] rfl)
          · skip
            refine lv_goto (tgt := 88) hx hb dX11_leastOf_37 (by decide) ?_
            refine lv_iinc (v := nI ((j + 1))) (lv' := [(5, .int (nI ((j + 1)))), (0, .ref (o 0)), (1, .int (nI (pp))), (2, .int (x2)), (3, .int (x3)), (4, .int (acc))]) hx hb dX11_leastOf_88 hl (k := 5) rfl (zInc _) (by decide) rfl (fun ls hl => ?_)
            refine lv_goto (tgt := 20) hx hb dX11_leastOf_91 (by decide) ?_
            exact ih20 ((j + 1)) (acc) H locs ls (by omega) (by simp only [lsL, ← hacc, c5_1, c24_2, eq_true c34_3, p_in, p_worn, p_wi, p_creak, p_le0, p_lt1, p_rng, pmT, pmC, p_eq0, not_true_eq_false, not_false_eq_true, if_true, if_false, and_true, true_and, and_false, false_and, or_true, true_or, or_false, false_or, and_self, or_self, iff_true, true_iff, iff_false, false_iff, decide_eq_true_eq, decide_true, decide_false, Int32.add_zero, Nat.add_zero, ne_eq, Bool.false_eq_true, eq_self]) (by omega) hP hD hS (lv_sub hl [1, 2, 3, 4, 5, 0] rfl)
    exact lp20 ((6 - (0)) + 1) (0) (nI 1000000) H locs ls (by omega) rfl (Nat.lt_succ_self _) hP hD hS (lv_sub hl [2, 3, 4, 5, 1, 0] rfl)
  · skip
    exact absurd (show pp = m_wm v from c5_1) (by omega)
abbrev rmX11_leastOf_5 : Room := { frames := 6, cells := 0, slots := 0, locals := 150 }
theorem in_X11_leastOf_5_X11 : ∀ w ∈ u_ws RX11 TX11 19, w ∈ wsX11_leastOf := by decide +kernel
set_option maxHeartbeats 4000000 in
set_option maxRecDepth 100000 in
theorem kX11_leastOf_5 {D : va_G} {ct : Nat → ClassId} {l : Launch} (o : Nat → Nat) (v : MS) (R : va_W) (pp : Nat) (x2 : Int32) (x3 : Int32) (hwm : m_wm v = pp + 5) (h6 : m_wm v ≤ 6) : MI D ct l yX11_leastOf wsX11_leastOf rmX11_leastOf_5 (MW ct o v R) [.ref (o 0), .int (nI (pp)), .int (x2), .int (x3)] (fun r0 (_ : Unit) => r0 = lsM (m_wt v) 5 pp x2 x3) (fun _ : Unit => MW ct o v R) := by
  refine MIof (cc := cX11_leastOf) (maxL := 7) (ret := (some .int)) (by decide) rfl (Nat.le_of_ble_eq_true rfl) ?_
  intro p e s m args below meth c A H locs F hP hK hD hS hA ls hl
  obtain ⟨hx, hb, hr, hlocks, hml, hown, hts, hin⟩ := F
  have hl : lv_has ls 7 [(0, .ref (o 0)), (1, .int (nI (pp))), (2, .int (x2)), (3, .int (x3))] := hl
  have h_X11 := in_X11_leastOf_5_X11
  have f17 := hts (.fieldLink RX11 17 "CartArgumentsModel" "weights" "[I") (by decide +kernel)
  have f169 := hts (.fieldLink RX11 169 "CartArgumentsModel" "weightMany" "I") (by decide +kernel)
  refine lv_iload_n hx hb dX11_leastOf_0 rfl (lv_at hl 1 rfl) ?_
  refine lv_aload_n hx hb dX11_leastOf_1 rfl (lv_at hl 0 rfl) ?_
  refine va_get (ci := 10) (v := .int (nI (m_wm v))) hx hb hts h_X11 hown hK hP 0 rfl rfl 9 (by decide) f169 (fun _ h9 => h9) rfl dX11_leastOf_2 ?_
  refine zN_icmp_ne (tgt := 13) hx hb (by omega) (by omega) dX11_leastOf_5 (by decide) (fun c5_1 => ?_) (fun c5_1 => ?_)
  · skip
    refine lv_ldc (v := nI (1000000)) hx hb hown (hts (.constant RX11 172 (1000000)) (by decide +kernel)) dX11_leastOf_13 ?_
    refine lv_istore (lv' := [(4, .int (nI (1000000))), (0, .ref (o 0)), (1, .int (nI (pp))), (2, .int (x2)), (3, .int (x3))]) hx hb dX11_leastOf_15 hl (by decide) rfl (fun ls hl => ?_)
    refine lv_iconst (v := nI (0)) hx hb dX11_leastOf_17 (by decide) ?_
    refine lv_istore (lv' := [(5, .int (nI (0))), (4, .int (nI (1000000))), (0, .ref (o 0)), (1, .int (nI (pp))), (2, .int (x2)), (3, .int (x3))]) hx hb dX11_leastOf_18 hl (by decide) rfl (fun ls hl => ?_)
    have lp20 : ∀ (fu : Nat) (j : Nat) (acc : Int32) (H : Heap) (locs : List Loc) (ls : Array Slot), (j ≤ 6) → (acc = lsL (fun p => decide ((x2 >>> (nI p &&& 31)) &&& nI 1 = nI 1)) (fun q => lsM (m_wt v) 4 (pp + 1) (x2 ||| (nI 1 <<< (nI q &&& 31))) (x3 + (m_wt v pp * nI 2) * (nI 5 - nI (2 * q)))) j) → 6 - j < fu → va_P D vwCl (MW ct o v R) H → va_D A (MW ct o v R) → va_S A s.heap H locs → lv_has ls 7 [(0, .ref (o 0)), (1, .int (nI (pp))), (2, .int (x2)), (3, .int (x3)), (4, .int (acc)), (5, .int (nI (j)))] → W p l e rmX11_leastOf_5 s m args below meth c H locs 0 0 (MQ below (va_Qi (fun r0 (_ : Unit) => r0 = lsM (m_wt v) 5 pp x2 x3) (zB D ct A (fun _ : Unit => MW ct o v R)) A) args s rmX11_leastOf_5.cells rmX11_leastOf_5.slots A) (F0 m 20 ls []) := by
      intro fu
      induction fu with
      | zero => intro j acc H locs ls hj hacc hfu; exact absurd hfu (Nat.not_lt_zero _)
      | succ fu ih20 =>
        intro j acc H locs ls hj hacc hfu hP hD hS hl
        refine lv_iload hx hb dX11_leastOf_20 (lv_at hl 5 rfl) ?_
        refine lv_bipush (v := nI (6)) hx hb dX11_leastOf_22 (by decide) ?_
        refine zN_icmp_ge (tgt := 94) hx hb (by omega) (by omega) dX11_leastOf_24 (by decide) (fun c24_2 => ?_) (fun c24_2 => ?_)
        · skip
          refine lv_iload hx hb dX11_leastOf_94 (lv_at hl 4 rfl) ?_
          exact zIret () hx hb hr hlocks hK hP hD hS dX11_leastOf_96 (show acc = lsM (m_wt v) 5 pp x2 x3 from (by obtain rfl : j = 6 := (by omega); exact hacc))
        · skip
          refine lv_iload_n hx hb dX11_leastOf_27 rfl (lv_at hl 2 rfl) ?_
          refine lv_iload hx hb dX11_leastOf_28 (lv_at hl 5 rfl) ?_
          refine lv_ishr hx hb dX11_leastOf_30 ?_
          refine lv_iconst (v := nI (1)) hx hb dX11_leastOf_31 (by decide) ?_
          refine lv_iand hx hb dX11_leastOf_32 ?_
          refine lv_iconst (v := nI (1)) hx hb dX11_leastOf_33 (by decide) ?_
          refine lv_icmp_ne (tgt := 40) hx hb dX11_leastOf_34 (by decide) (fun c34_3 => ?_) (fun c34_3 => ?_)
          · skip
            refine lv_aload_n hx hb dX11_leastOf_40 rfl (lv_at hl 0 rfl) ?_
            refine lv_iload_n hx hb dX11_leastOf_41 rfl (lv_at hl 1 rfl) ?_
            refine lv_iconst (v := nI (1)) hx hb dX11_leastOf_42 (by decide) ?_
            refine zNadd hx hb dX11_leastOf_43 ?_
            refine lv_iload_n hx hb dX11_leastOf_44 rfl (lv_at hl 2 rfl) ?_
            refine lv_iconst (v := nI (1)) hx hb dX11_leastOf_45 (by decide) ?_
            refine lv_iload hx hb dX11_leastOf_46 (lv_at hl 5 rfl) ?_
            refine lv_ishl hx hb dX11_leastOf_48 ?_
            refine lv_ior hx hb dX11_leastOf_49 ?_
            refine lv_iload_n hx hb dX11_leastOf_50 rfl (lv_at hl 3 rfl) ?_
            refine lv_aload_n hx hb dX11_leastOf_51 rfl (lv_at hl 0 rfl) ?_
            refine va_get (ci := 10) (v := .ref (o 3)) hx hb hts h_X11 hown hK hP 0 rfl rfl 8 (by decide) f17 (fun _ h9 => h9) rfl dX11_leastOf_52 ?_
            refine lv_iload_n hx hb dX11_leastOf_55 rfl (lv_at hl 1 rfl) ?_
            refine zIald (n := 6) (f := m_wt v) (i := pp) hx hb hK hP 3 rfl (by omega) (by decide) dX11_leastOf_56 ?_
            refine lv_iconst (v := nI (2)) hx hb dX11_leastOf_57 (by decide) ?_
            refine lv_imul hx hb dX11_leastOf_58 ?_
            refine lv_iconst (v := nI (5)) hx hb dX11_leastOf_59 (by decide) ?_
            refine lv_iconst (v := nI (2)) hx hb dX11_leastOf_60 (by decide) ?_
            refine lv_iload hx hb dX11_leastOf_61 (lv_at hl 5 rfl) ?_
            refine zNmul hx hb dX11_leastOf_63 ?_
            refine lv_isub hx hb dX11_leastOf_64 ?_
            refine lv_imul hx hb dX11_leastOf_65 ?_
            refine lv_iadd hx hb dX11_leastOf_66 ?_
            refine zVI [.int (nI ((pp + 1))), .int ((x2 ||| (nI (1) <<< (nI (j) &&& 31)))), .int ((x3 + (((m_wt v (pp)) * nI (2)) * (nI (5) - nI ((2 * j))))))] [] (kX11_leastOf_4 (o) (v) (R) ((pp + 1)) ((x2 ||| (nI (1) <<< (nI (j) &&& 31)))) ((x3 + (((m_wt v (pp)) * nI (2)) * (nI (5) - nI ((2 * j)))))) (show m_wm v = ((pp + 1)) + 4 from by omega) (show m_wm v ≤ 6 from by omega)) hx hb hml hown hts (cwV 3 hts gX11_leastOf_X11_leastOf rfl rfl rfl (by decide +kernel) ⟨(Nat.le_of_ble_eq_true rfl), (Nat.le_of_ble_eq_true rfl)⟩) hK hP hD hS hA (va_recv hK hP (ci := 10) (q0 := 0) rfl rfl) rfl hl.1 rfl (Nat.le_of_ble_eq_true rfl) dX11_leastOf_67 ⟨(Nat.le_of_ble_eq_true rfl), (Nat.le_of_ble_eq_true rfl)⟩ (fun r_67 _ H locs hr_67 hP hD hS => ?_)
            subst hr_67
            have hP : va_P D vwCl (MW ct o v R) H := hP
            have hD : va_D A (MW ct o v R) := hD
            refine lv_istore (lv' := [(6, .int ((lsM (m_wt v) 4 ((pp + 1)) ((x2 ||| (nI (1) <<< (nI (j) &&& 31)))) ((x3 + (((m_wt v (pp)) * nI (2)) * (nI (5) - nI ((2 * j))))))))), (0, .ref (o 0)), (1, .int (nI (pp))), (2, .int (x2)), (3, .int (x3)), (4, .int (acc)), (5, .int (nI (j)))]) hx hb dX11_leastOf_70 hl (by decide) rfl (fun ls hl => ?_)
            refine lv_iload hx hb dX11_leastOf_72 (lv_at hl 0 rfl) ?_
            refine lv_iload hx hb dX11_leastOf_74 (lv_at hl 5 rfl) ?_
            refine lv_icmp_ge (tgt := 84) hx hb dX11_leastOf_76 (by decide) (fun c76_4 => ?_) (fun c76_4 => ?_)
            · skip
              refine lv_iload hx hb dX11_leastOf_84 (lv_at hl 5 rfl) ?_
              refine lv_istore (lv' := [(4, .int (acc)), (6, .int ((lsM (m_wt v) 4 ((pp + 1)) ((x2 ||| (nI (1) <<< (nI (j) &&& 31)))) ((x3 + (((m_wt v (pp)) * nI (2)) * (nI (5) - nI ((2 * j))))))))), (0, .ref (o 0)), (1, .int (nI (pp))), (2, .int (x2)), (3, .int (x3)), (5, .int (nI (j)))]) hx hb dX11_leastOf_86 hl (by decide) rfl (fun ls hl => ?_)
              refine lv_iinc (v := nI ((j + 1))) (lv' := [(5, .int (nI ((j + 1)))), (4, .int (acc)), (6, .int ((lsM (m_wt v) 4 ((pp + 1)) ((x2 ||| (nI (1) <<< (nI (j) &&& 31)))) ((x3 + (((m_wt v (pp)) * nI (2)) * (nI (5) - nI ((2 * j))))))))), (0, .ref (o 0)), (1, .int (nI (pp))), (2, .int (x2)), (3, .int (x3))]) hx hb dX11_leastOf_88 hl (k := 6) rfl (zInc _) (by decide) rfl (fun ls hl => ?_)
              refine lv_goto (tgt := 20) hx hb dX11_leastOf_91 (by decide) ?_
              exact ih20 ((j + 1)) (acc) H locs ls (by omega) (by simp only [lsL, ← hacc, c5_1, c24_2, c34_3, c76_4, p_in, p_worn, p_wi, p_creak, p_le0, p_lt1, p_rng, pmT, pmC, p_eq0, not_true_eq_false, not_false_eq_true, if_true, if_false, and_true, true_and, and_false, false_and, or_true, true_or, or_false, false_or, and_self, or_self, iff_true, true_iff, iff_false, false_iff, decide_eq_true_eq, decide_true, decide_false, Int32.add_zero, Nat.add_zero, ne_eq, Bool.false_eq_true, eq_self]) (by omega) hP hD hS (lv_sub hl [3, 4, 5, 6, 1, 0] rfl)
            · skip
              refine lv_iload hx hb dX11_leastOf_79 (lv_at hl 0 rfl) ?_
              refine lv_goto (tgt := 86) hx hb dX11_leastOf_81 (by decide) ?_
              refine lv_istore (lv' := [(4, .int ((lsM (m_wt v) 4 ((pp + 1)) ((x2 ||| (nI (1) <<< (nI (j) &&& 31)))) ((x3 + (((m_wt v (pp)) * nI (2)) * (nI (5) - nI ((2 * j))))))))), (6, .int ((lsM (m_wt v) 4 ((pp + 1)) ((x2 ||| (nI (1) <<< (nI (j) &&& 31)))) ((x3 + (((m_wt v (pp)) * nI (2)) * (nI (5) - nI ((2 * j))))))))), (0, .ref (o 0)), (1, .int (nI (pp))), (2, .int (x2)), (3, .int (x3)), (5, .int (nI (j)))]) hx hb dX11_leastOf_86 hl (by decide) rfl (fun ls hl => ?_)
              refine lv_iinc (v := nI ((j + 1))) (lv' := [(5, .int (nI ((j + 1)))), (4, .int ((lsM (m_wt v) 4 ((pp + 1)) ((x2 ||| (nI (1) <<< (nI (j) &&& 31)))) ((x3 + (((m_wt v (pp)) * nI (2)) * (nI (5) - nI ((2 * j))))))))), (6, .int ((lsM (m_wt v) 4 ((pp + 1)) ((x2 ||| (nI (1) <<< (nI (j) &&& 31)))) ((x3 + (((m_wt v (pp)) * nI (2)) * (nI (5) - nI ((2 * j))))))))), (0, .ref (o 0)), (1, .int (nI (pp))), (2, .int (x2)), (3, .int (x3))]) hx hb dX11_leastOf_88 hl (k := 6) rfl (zInc _) (by decide) rfl (fun ls hl => ?_)
              refine lv_goto (tgt := 20) hx hb dX11_leastOf_91 (by decide) ?_
              exact ih20 ((j + 1)) ((lsM (m_wt v) 4 ((pp + 1)) ((x2 ||| (nI (1) <<< (nI (j) &&& 31)))) ((x3 + (((m_wt v (pp)) * nI (2)) * (nI (5) - nI ((2 * j)))))))) H locs ls (by omega) (by simp only [lsL, ← hacc, c5_1, c24_2, c34_3, c76_4, p_in, p_worn, p_wi, p_creak, p_le0, p_lt1, p_rng, pmT, pmC, p_eq0, not_true_eq_false, not_false_eq_true, if_true, if_false, and_true, true_and, and_false, false_and, or_true, true_or, or_false, false_or, and_self, or_self, iff_true, true_iff, iff_false, false_iff, decide_eq_true_eq, decide_true, decide_false, Int32.add_zero, Nat.add_zero, ne_eq, Bool.false_eq_true, eq_self]) (by omega) hP hD hS (lv_sub hl [3, 4, 5, 6, 1, 0] rfl)
          · skip
            refine lv_goto (tgt := 88) hx hb dX11_leastOf_37 (by decide) ?_
            refine lv_iinc (v := nI ((j + 1))) (lv' := [(5, .int (nI ((j + 1)))), (0, .ref (o 0)), (1, .int (nI (pp))), (2, .int (x2)), (3, .int (x3)), (4, .int (acc))]) hx hb dX11_leastOf_88 hl (k := 5) rfl (zInc _) (by decide) rfl (fun ls hl => ?_)
            refine lv_goto (tgt := 20) hx hb dX11_leastOf_91 (by decide) ?_
            exact ih20 ((j + 1)) (acc) H locs ls (by omega) (by simp only [lsL, ← hacc, c5_1, c24_2, eq_true c34_3, p_in, p_worn, p_wi, p_creak, p_le0, p_lt1, p_rng, pmT, pmC, p_eq0, not_true_eq_false, not_false_eq_true, if_true, if_false, and_true, true_and, and_false, false_and, or_true, true_or, or_false, false_or, and_self, or_self, iff_true, true_iff, iff_false, false_iff, decide_eq_true_eq, decide_true, decide_false, Int32.add_zero, Nat.add_zero, ne_eq, Bool.false_eq_true, eq_self]) (by omega) hP hD hS (lv_sub hl [1, 2, 3, 4, 5, 0] rfl)
    exact lp20 ((6 - (0)) + 1) (0) (nI 1000000) H locs ls (by omega) rfl (Nat.lt_succ_self _) hP hD hS (lv_sub hl [2, 3, 4, 5, 1, 0] rfl)
  · skip
    exact absurd (show pp = m_wm v from c5_1) (by omega)
abbrev rmX11_leastOf_6 : Room := { frames := 7, cells := 0, slots := 0, locals := 176 }
theorem in_X11_leastOf_6_X11 : ∀ w ∈ u_ws RX11 TX11 19, w ∈ wsX11_leastOf := by decide +kernel
set_option maxHeartbeats 4000000 in
set_option maxRecDepth 100000 in
theorem kX11_leastOf_6 {D : va_G} {ct : Nat → ClassId} {l : Launch} (o : Nat → Nat) (v : MS) (R : va_W) (pp : Nat) (x2 : Int32) (x3 : Int32) (hwm : m_wm v = pp + 6) (h6 : m_wm v ≤ 6) : MI D ct l yX11_leastOf wsX11_leastOf rmX11_leastOf_6 (MW ct o v R) [.ref (o 0), .int (nI (pp)), .int (x2), .int (x3)] (fun r0 (_ : Unit) => r0 = lsM (m_wt v) 6 pp x2 x3) (fun _ : Unit => MW ct o v R) := by
  refine MIof (cc := cX11_leastOf) (maxL := 7) (ret := (some .int)) (by decide) rfl (Nat.le_of_ble_eq_true rfl) ?_
  intro p e s m args below meth c A H locs F hP hK hD hS hA ls hl
  obtain ⟨hx, hb, hr, hlocks, hml, hown, hts, hin⟩ := F
  have hl : lv_has ls 7 [(0, .ref (o 0)), (1, .int (nI (pp))), (2, .int (x2)), (3, .int (x3))] := hl
  have h_X11 := in_X11_leastOf_6_X11
  have f17 := hts (.fieldLink RX11 17 "CartArgumentsModel" "weights" "[I") (by decide +kernel)
  have f169 := hts (.fieldLink RX11 169 "CartArgumentsModel" "weightMany" "I") (by decide +kernel)
  refine lv_iload_n hx hb dX11_leastOf_0 rfl (lv_at hl 1 rfl) ?_
  refine lv_aload_n hx hb dX11_leastOf_1 rfl (lv_at hl 0 rfl) ?_
  refine va_get (ci := 10) (v := .int (nI (m_wm v))) hx hb hts h_X11 hown hK hP 0 rfl rfl 9 (by decide) f169 (fun _ h9 => h9) rfl dX11_leastOf_2 ?_
  refine zN_icmp_ne (tgt := 13) hx hb (by omega) (by omega) dX11_leastOf_5 (by decide) (fun c5_1 => ?_) (fun c5_1 => ?_)
  · skip
    refine lv_ldc (v := nI (1000000)) hx hb hown (hts (.constant RX11 172 (1000000)) (by decide +kernel)) dX11_leastOf_13 ?_
    refine lv_istore (lv' := [(4, .int (nI (1000000))), (0, .ref (o 0)), (1, .int (nI (pp))), (2, .int (x2)), (3, .int (x3))]) hx hb dX11_leastOf_15 hl (by decide) rfl (fun ls hl => ?_)
    refine lv_iconst (v := nI (0)) hx hb dX11_leastOf_17 (by decide) ?_
    refine lv_istore (lv' := [(5, .int (nI (0))), (4, .int (nI (1000000))), (0, .ref (o 0)), (1, .int (nI (pp))), (2, .int (x2)), (3, .int (x3))]) hx hb dX11_leastOf_18 hl (by decide) rfl (fun ls hl => ?_)
    have lp20 : ∀ (fu : Nat) (j : Nat) (acc : Int32) (H : Heap) (locs : List Loc) (ls : Array Slot), (j ≤ 6) → (acc = lsL (fun p => decide ((x2 >>> (nI p &&& 31)) &&& nI 1 = nI 1)) (fun q => lsM (m_wt v) 5 (pp + 1) (x2 ||| (nI 1 <<< (nI q &&& 31))) (x3 + (m_wt v pp * nI 2) * (nI 5 - nI (2 * q)))) j) → 6 - j < fu → va_P D vwCl (MW ct o v R) H → va_D A (MW ct o v R) → va_S A s.heap H locs → lv_has ls 7 [(0, .ref (o 0)), (1, .int (nI (pp))), (2, .int (x2)), (3, .int (x3)), (4, .int (acc)), (5, .int (nI (j)))] → W p l e rmX11_leastOf_6 s m args below meth c H locs 0 0 (MQ below (va_Qi (fun r0 (_ : Unit) => r0 = lsM (m_wt v) 6 pp x2 x3) (zB D ct A (fun _ : Unit => MW ct o v R)) A) args s rmX11_leastOf_6.cells rmX11_leastOf_6.slots A) (F0 m 20 ls []) := by
      intro fu
      induction fu with
      | zero => intro j acc H locs ls hj hacc hfu; exact absurd hfu (Nat.not_lt_zero _)
      | succ fu ih20 =>
        intro j acc H locs ls hj hacc hfu hP hD hS hl
        refine lv_iload hx hb dX11_leastOf_20 (lv_at hl 5 rfl) ?_
        refine lv_bipush (v := nI (6)) hx hb dX11_leastOf_22 (by decide) ?_
        refine zN_icmp_ge (tgt := 94) hx hb (by omega) (by omega) dX11_leastOf_24 (by decide) (fun c24_2 => ?_) (fun c24_2 => ?_)
        · skip
          refine lv_iload hx hb dX11_leastOf_94 (lv_at hl 4 rfl) ?_
          exact zIret () hx hb hr hlocks hK hP hD hS dX11_leastOf_96 (show acc = lsM (m_wt v) 6 pp x2 x3 from (by obtain rfl : j = 6 := (by omega); exact hacc))
        · skip
          refine lv_iload_n hx hb dX11_leastOf_27 rfl (lv_at hl 2 rfl) ?_
          refine lv_iload hx hb dX11_leastOf_28 (lv_at hl 5 rfl) ?_
          refine lv_ishr hx hb dX11_leastOf_30 ?_
          refine lv_iconst (v := nI (1)) hx hb dX11_leastOf_31 (by decide) ?_
          refine lv_iand hx hb dX11_leastOf_32 ?_
          refine lv_iconst (v := nI (1)) hx hb dX11_leastOf_33 (by decide) ?_
          refine lv_icmp_ne (tgt := 40) hx hb dX11_leastOf_34 (by decide) (fun c34_3 => ?_) (fun c34_3 => ?_)
          · skip
            refine lv_aload_n hx hb dX11_leastOf_40 rfl (lv_at hl 0 rfl) ?_
            refine lv_iload_n hx hb dX11_leastOf_41 rfl (lv_at hl 1 rfl) ?_
            refine lv_iconst (v := nI (1)) hx hb dX11_leastOf_42 (by decide) ?_
            refine zNadd hx hb dX11_leastOf_43 ?_
            refine lv_iload_n hx hb dX11_leastOf_44 rfl (lv_at hl 2 rfl) ?_
            refine lv_iconst (v := nI (1)) hx hb dX11_leastOf_45 (by decide) ?_
            refine lv_iload hx hb dX11_leastOf_46 (lv_at hl 5 rfl) ?_
            refine lv_ishl hx hb dX11_leastOf_48 ?_
            refine lv_ior hx hb dX11_leastOf_49 ?_
            refine lv_iload_n hx hb dX11_leastOf_50 rfl (lv_at hl 3 rfl) ?_
            refine lv_aload_n hx hb dX11_leastOf_51 rfl (lv_at hl 0 rfl) ?_
            refine va_get (ci := 10) (v := .ref (o 3)) hx hb hts h_X11 hown hK hP 0 rfl rfl 8 (by decide) f17 (fun _ h9 => h9) rfl dX11_leastOf_52 ?_
            refine lv_iload_n hx hb dX11_leastOf_55 rfl (lv_at hl 1 rfl) ?_
            refine zIald (n := 6) (f := m_wt v) (i := pp) hx hb hK hP 3 rfl (by omega) (by decide) dX11_leastOf_56 ?_
            refine lv_iconst (v := nI (2)) hx hb dX11_leastOf_57 (by decide) ?_
            refine lv_imul hx hb dX11_leastOf_58 ?_
            refine lv_iconst (v := nI (5)) hx hb dX11_leastOf_59 (by decide) ?_
            refine lv_iconst (v := nI (2)) hx hb dX11_leastOf_60 (by decide) ?_
            refine lv_iload hx hb dX11_leastOf_61 (lv_at hl 5 rfl) ?_
            refine zNmul hx hb dX11_leastOf_63 ?_
            refine lv_isub hx hb dX11_leastOf_64 ?_
            refine lv_imul hx hb dX11_leastOf_65 ?_
            refine lv_iadd hx hb dX11_leastOf_66 ?_
            refine zVI [.int (nI ((pp + 1))), .int ((x2 ||| (nI (1) <<< (nI (j) &&& 31)))), .int ((x3 + (((m_wt v (pp)) * nI (2)) * (nI (5) - nI ((2 * j))))))] [] (kX11_leastOf_5 (o) (v) (R) ((pp + 1)) ((x2 ||| (nI (1) <<< (nI (j) &&& 31)))) ((x3 + (((m_wt v (pp)) * nI (2)) * (nI (5) - nI ((2 * j)))))) (show m_wm v = ((pp + 1)) + 5 from by omega) (show m_wm v ≤ 6 from by omega)) hx hb hml hown hts (cwV 3 hts gX11_leastOf_X11_leastOf rfl rfl rfl (by decide +kernel) ⟨(Nat.le_of_ble_eq_true rfl), (Nat.le_of_ble_eq_true rfl)⟩) hK hP hD hS hA (va_recv hK hP (ci := 10) (q0 := 0) rfl rfl) rfl hl.1 rfl (Nat.le_of_ble_eq_true rfl) dX11_leastOf_67 ⟨(Nat.le_of_ble_eq_true rfl), (Nat.le_of_ble_eq_true rfl)⟩ (fun r_67 _ H locs hr_67 hP hD hS => ?_)
            subst hr_67
            have hP : va_P D vwCl (MW ct o v R) H := hP
            have hD : va_D A (MW ct o v R) := hD
            refine lv_istore (lv' := [(6, .int ((lsM (m_wt v) 5 ((pp + 1)) ((x2 ||| (nI (1) <<< (nI (j) &&& 31)))) ((x3 + (((m_wt v (pp)) * nI (2)) * (nI (5) - nI ((2 * j))))))))), (0, .ref (o 0)), (1, .int (nI (pp))), (2, .int (x2)), (3, .int (x3)), (4, .int (acc)), (5, .int (nI (j)))]) hx hb dX11_leastOf_70 hl (by decide) rfl (fun ls hl => ?_)
            refine lv_iload hx hb dX11_leastOf_72 (lv_at hl 0 rfl) ?_
            refine lv_iload hx hb dX11_leastOf_74 (lv_at hl 5 rfl) ?_
            refine lv_icmp_ge (tgt := 84) hx hb dX11_leastOf_76 (by decide) (fun c76_4 => ?_) (fun c76_4 => ?_)
            · skip
              refine lv_iload hx hb dX11_leastOf_84 (lv_at hl 5 rfl) ?_
              refine lv_istore (lv' := [(4, .int (acc)), (6, .int ((lsM (m_wt v) 5 ((pp + 1)) ((x2 ||| (nI (1) <<< (nI (j) &&& 31)))) ((x3 + (((m_wt v (pp)) * nI (2)) * (nI (5) - nI ((2 * j))))))))), (0, .ref (o 0)), (1, .int (nI (pp))), (2, .int (x2)), (3, .int (x3)), (5, .int (nI (j)))]) hx hb dX11_leastOf_86 hl (by decide) rfl (fun ls hl => ?_)
              refine lv_iinc (v := nI ((j + 1))) (lv' := [(5, .int (nI ((j + 1)))), (4, .int (acc)), (6, .int ((lsM (m_wt v) 5 ((pp + 1)) ((x2 ||| (nI (1) <<< (nI (j) &&& 31)))) ((x3 + (((m_wt v (pp)) * nI (2)) * (nI (5) - nI ((2 * j))))))))), (0, .ref (o 0)), (1, .int (nI (pp))), (2, .int (x2)), (3, .int (x3))]) hx hb dX11_leastOf_88 hl (k := 6) rfl (zInc _) (by decide) rfl (fun ls hl => ?_)
              refine lv_goto (tgt := 20) hx hb dX11_leastOf_91 (by decide) ?_
              exact ih20 ((j + 1)) (acc) H locs ls (by omega) (by simp only [lsL, ← hacc, c5_1, c24_2, c34_3, c76_4, p_in, p_worn, p_wi, p_creak, p_le0, p_lt1, p_rng, pmT, pmC, p_eq0, not_true_eq_false, not_false_eq_true, if_true, if_false, and_true, true_and, and_false, false_and, or_true, true_or, or_false, false_or, and_self, or_self, iff_true, true_iff, iff_false, false_iff, decide_eq_true_eq, decide_true, decide_false, Int32.add_zero, Nat.add_zero, ne_eq, Bool.false_eq_true, eq_self]) (by omega) hP hD hS (lv_sub hl [3, 4, 5, 6, 1, 0] rfl)
            · skip
              refine lv_iload hx hb dX11_leastOf_79 (lv_at hl 0 rfl) ?_
              refine lv_goto (tgt := 86) hx hb dX11_leastOf_81 (by decide) ?_
              refine lv_istore (lv' := [(4, .int ((lsM (m_wt v) 5 ((pp + 1)) ((x2 ||| (nI (1) <<< (nI (j) &&& 31)))) ((x3 + (((m_wt v (pp)) * nI (2)) * (nI (5) - nI ((2 * j))))))))), (6, .int ((lsM (m_wt v) 5 ((pp + 1)) ((x2 ||| (nI (1) <<< (nI (j) &&& 31)))) ((x3 + (((m_wt v (pp)) * nI (2)) * (nI (5) - nI ((2 * j))))))))), (0, .ref (o 0)), (1, .int (nI (pp))), (2, .int (x2)), (3, .int (x3)), (5, .int (nI (j)))]) hx hb dX11_leastOf_86 hl (by decide) rfl (fun ls hl => ?_)
              refine lv_iinc (v := nI ((j + 1))) (lv' := [(5, .int (nI ((j + 1)))), (4, .int ((lsM (m_wt v) 5 ((pp + 1)) ((x2 ||| (nI (1) <<< (nI (j) &&& 31)))) ((x3 + (((m_wt v (pp)) * nI (2)) * (nI (5) - nI ((2 * j))))))))), (6, .int ((lsM (m_wt v) 5 ((pp + 1)) ((x2 ||| (nI (1) <<< (nI (j) &&& 31)))) ((x3 + (((m_wt v (pp)) * nI (2)) * (nI (5) - nI ((2 * j))))))))), (0, .ref (o 0)), (1, .int (nI (pp))), (2, .int (x2)), (3, .int (x3))]) hx hb dX11_leastOf_88 hl (k := 6) rfl (zInc _) (by decide) rfl (fun ls hl => ?_)
              refine lv_goto (tgt := 20) hx hb dX11_leastOf_91 (by decide) ?_
              exact ih20 ((j + 1)) ((lsM (m_wt v) 5 ((pp + 1)) ((x2 ||| (nI (1) <<< (nI (j) &&& 31)))) ((x3 + (((m_wt v (pp)) * nI (2)) * (nI (5) - nI ((2 * j)))))))) H locs ls (by omega) (by simp only [lsL, ← hacc, c5_1, c24_2, c34_3, c76_4, p_in, p_worn, p_wi, p_creak, p_le0, p_lt1, p_rng, pmT, pmC, p_eq0, not_true_eq_false, not_false_eq_true, if_true, if_false, and_true, true_and, and_false, false_and, or_true, true_or, or_false, false_or, and_self, or_self, iff_true, true_iff, iff_false, false_iff, decide_eq_true_eq, decide_true, decide_false, Int32.add_zero, Nat.add_zero, ne_eq, Bool.false_eq_true, eq_self]) (by omega) hP hD hS (lv_sub hl [3, 4, 5, 6, 1, 0] rfl)
          · skip
            refine lv_goto (tgt := 88) hx hb dX11_leastOf_37 (by decide) ?_
            refine lv_iinc (v := nI ((j + 1))) (lv' := [(5, .int (nI ((j + 1)))), (0, .ref (o 0)), (1, .int (nI (pp))), (2, .int (x2)), (3, .int (x3)), (4, .int (acc))]) hx hb dX11_leastOf_88 hl (k := 5) rfl (zInc _) (by decide) rfl (fun ls hl => ?_)
            refine lv_goto (tgt := 20) hx hb dX11_leastOf_91 (by decide) ?_
            exact ih20 ((j + 1)) (acc) H locs ls (by omega) (by simp only [lsL, ← hacc, c5_1, c24_2, eq_true c34_3, p_in, p_worn, p_wi, p_creak, p_le0, p_lt1, p_rng, pmT, pmC, p_eq0, not_true_eq_false, not_false_eq_true, if_true, if_false, and_true, true_and, and_false, false_and, or_true, true_or, or_false, false_or, and_self, or_self, iff_true, true_iff, iff_false, false_iff, decide_eq_true_eq, decide_true, decide_false, Int32.add_zero, Nat.add_zero, ne_eq, Bool.false_eq_true, eq_self]) (by omega) hP hD hS (lv_sub hl [1, 2, 3, 4, 5, 0] rfl)
    exact lp20 ((6 - (0)) + 1) (0) (nI 1000000) H locs ls (by omega) rfl (Nat.lt_succ_self _) hP hD hS (lv_sub hl [2, 3, 4, 5, 1, 0] rfl)
  · skip
    exact absurd (show pp = m_wm v from c5_1) (by omega)
abbrev rmX11_best : Room := { frames := 8, cells := 0, slots := 0, locals := 202 }
theorem in_X11_best_X11 : ∀ w ∈ u_ws RX11 TX11 19, w ∈ wsX11_best := by decide +kernel
set_option maxHeartbeats 4000000 in
set_option maxRecDepth 100000 in
theorem kX11_best {D : va_G} {ct : Nat → ClassId} {l : Launch} (o : Nat → Nat) (v : MS) (R : va_W) (x1 : Int32) (y : YS) (hB : y_n y ≤ 12 ∧ y_cn y ≤ 4 ∧ y_rn y ≤ 5) (hq : RelI y (m_g v)) (h6 : ∀ c, c < y_cn y → gN y (nI c) (y_n y) ≤ 6) : MI D ct l yX11_best wsX11_best rmX11_best (MW ct o v R) [.ref (o 0), .int (x1)] (fun r0 (_ : Unit) => r0 = (F_best y v x1).1) (fun _ : Unit => MW ct o (F_best y v x1).2 R) := by
  refine MIof (cc := cX11_best) (maxL := 3) (ret := (some .int)) (by decide) rfl (Nat.le_of_ble_eq_true rfl) ?_
  intro p e s m args below meth c A H locs F hP hK hD hS hA ls hl
  obtain ⟨hx, hb, hr, hlocks, hml, hown, hts, hin⟩ := F
  have hl : lv_has ls 3 [(0, .ref (o 0)), (1, .int (x1))] := hl
  have hn : y_n y ≤ 12 := hB.1
  have hcn : y_cn y ≤ 4 := hB.2.1
  have hrn : y_rn y ≤ 5 := hB.2.2
  have h_X11 := in_X11_best_X11
  have f9 := hts (.fieldLink RX11 9 "CartArgumentsModel" "all" "[I") (by decide +kernel)
  have f17 := hts (.fieldLink RX11 17 "CartArgumentsModel" "weights" "[I") (by decide +kernel)
  have f169 := hts (.fieldLink RX11 169 "CartArgumentsModel" "weightMany" "I") (by decide +kernel)
  refine lv_aload_n hx hb dX11_best_0 rfl (lv_at hl 0 rfl) ?_
  refine lv_iload_n hx hb dX11_best_1 rfl (lv_at hl 1 rfl) ?_
  refine zVI [.int (x1)] [] (kX11_isCart (o) (v) (R) (x1) (y) (show y_n (y) ≤ 12 ∧ y_cn (y) ≤ 4 ∧ y_rn (y) ≤ 5 from hB) (show RelI (y) (m_g v) from hq)) hx hb hml hown hts (cwV 1 hts gX11_best_X11_isCart rfl rfl rfl (by decide +kernel) ⟨(Nat.le_of_ble_eq_true rfl), (Nat.le_of_ble_eq_true rfl)⟩) hK hP hD hS hA (va_recv hK hP (ci := 10) (q0 := 0) rfl rfl) rfl hl.1 rfl (Nat.le_of_ble_eq_true rfl) dX11_best_2 ⟨(Nat.le_of_ble_eq_true rfl), (Nat.le_of_ble_eq_true rfl)⟩ (fun r_2 _ H locs hr_2 hP hD hS => ?_)
  subst hr_2
  have hP : va_P D vwCl (MW ct o v R) H := hP
  have hD : va_D A (MW ct o v R) := hD
  refine zB_if_ne (tgt := 10) hx hb dX11_best_5 (by decide) (fun c5_1 => ?_) (fun c5_1 => ?_)
  · skip
    obtain ⟨k1, hk1, ek1⟩ := p_in_ex (n := y_cn y) (by omega) c5_1
    subst ek1
    have hclk1 : (nI k1).toNatClampNeg = k1 := nI_clamp (by omega)
    refine lv_aload_n hx hb dX11_best_10 rfl (lv_at hl 0 rfl) ?_
    refine lv_iconst (v := nI (0)) hx hb dX11_best_11 (by decide) ?_
    refine va_put (ci := 10) (v := .int (nI (0))) (ty := .int) hx hb hts h_X11 tyX11 tyX11_ok nmX11 hown hK hP hD hS 0 rfl rfl 9 (by decide) f169 (fun _ h9 => h9) rfl (by decide +kernel) rfl rfl (Nat.le_of_ble_eq_true rfl) dX11_best_12 (fun H locs hP hD hS => ?_)
    have hP : va_P D vwCl (MW ct o (m_g v, m_fl v, m_ch v, m_sv v, m_why v, m_det v, m_li v, m_ld v, m_wt v, 0, m_ln v, m_lz v, m_in v, m_ty v, m_he v, m_wa v, m_fa v, m_cm v, m_cz v) R) H := hP
    have hD : va_D A (MW ct o (m_g v, m_fl v, m_ch v, m_sv v, m_why v, m_det v, m_li v, m_ld v, m_wt v, 0, m_ln v, m_lz v, m_in v, m_ty v, m_he v, m_wa v, m_fa v, m_cm v, m_cz v) R) := hD
    refine lv_iconst (v := nI (0)) hx hb dX11_best_15 (by decide) ?_
    refine lv_istore_n (lv' := [(2, .int (nI (0))), (0, .ref (o 0)), (1, .int (nI (k1)))]) hx hb dX11_best_16 rfl hl (by decide) rfl (fun ls hl => ?_)
    have lp17 : ∀ (fu : Nat) (k : Nat) (q : Nat) (wt1 : Nat → Int32) (H : Heap) (locs : List Loc) (ls : Array Slot), (k ≤ y_n y) → (q = gN y (nI k1) k) → (wt1 = gW y (nI k1) (m_wt v) k) → y_n y - k < fu → va_P D vwCl (MW ct o (m_g v, m_fl v, m_ch v, m_sv v, m_why v, m_det v, m_li v, m_ld v, wt1, q, m_ln v, m_lz v, m_in v, m_ty v, m_he v, m_wa v, m_fa v, m_cm v, m_cz v) R) H → va_D A (MW ct o (m_g v, m_fl v, m_ch v, m_sv v, m_why v, m_det v, m_li v, m_ld v, wt1, q, m_ln v, m_lz v, m_in v, m_ty v, m_he v, m_wa v, m_fa v, m_cm v, m_cz v) R) → va_S A s.heap H locs → lv_has ls 3 [(0, .ref (o 0)), (1, .int (nI (k1))), (2, .int (nI (k)))] → W p l e rmX11_best s m args below meth c H locs 0 0 (MQ below (va_Qi (fun r0 (_ : Unit) => r0 = (F_best y v (nI k1)).1) (zB D ct A (fun _ : Unit => MW ct o (F_best y v (nI k1)).2 R)) A) args s rmX11_best.cells rmX11_best.slots A) (F0 m 17 ls []) := by
      intro fu
      induction fu with
      | zero => intro k q wt1 H locs ls hk hqn hw hfu; exact absurd hfu (Nat.not_lt_zero _)
      | succ fu ih17 =>
        intro k q wt1 H locs ls hk hqn hw hfu hP hD hS hl
        refine lv_iload_n hx hb dX11_best_17 rfl (lv_at hl 2 rfl) ?_
        refine lv_aload_n hx hb dX11_best_18 rfl (lv_at hl 0 rfl) ?_
        refine va_get (ci := 10) (v := .ref (o 1)) hx hb hts h_X11 hown hK hP 0 rfl rfl 0 (by decide) f9 (fun _ h9 => h9) rfl dX11_best_19 ?_
        refine lv_iconst (v := nI (0)) hx hb dX11_best_22 (by decide) ?_
        refine zIald (n := 972) (f := m_g v) (i := 0) hx hb hK hP 1 rfl (by omega) (by decide) dX11_best_23 ?_
        refine zTop (y := nI (y_n y)) hq.1 ?_
        refine zN_icmp_ge (tgt := 80) hx hb (by omega) (by omega) dX11_best_24 (by decide) (fun c24_2 => ?_) (fun c24_2 => ?_)
        · skip
          obtain rfl : k = y_n y := by omega
          have h66 := h6 k1 hk1
          rcases (show q = 0 ∨ q = 1 ∨ q = 2 ∨ q = 3 ∨ q = 4 ∨ q = 5 ∨ q = 6 by omega) with e5 | e5 | e5 | e5 | e5 | e5 | e5
          · skip
            have e6 : gN y (nI k1) (y_n y) = 0 := hqn.symm.trans e5
            refine lv_aload_n hx hb dX11_best_80 rfl (lv_at hl 0 rfl) ?_
            refine lv_iconst (v := nI (0)) hx hb dX11_best_81 (by decide) ?_
            refine lv_iconst (v := nI (0)) hx hb dX11_best_82 (by decide) ?_
            refine lv_iconst (v := nI (0)) hx hb dX11_best_83 (by decide) ?_
            refine zVI [.int (nI (0)), .int (nI (0)), .int (nI (0))] [] (kX11_leastOf_0 (o) ((m_g v, m_fl v, m_ch v, m_sv v, m_why v, m_det v, m_li v, m_ld v, wt1, q, m_ln v, m_lz v, m_in v, m_ty v, m_he v, m_wa v, m_fa v, m_cm v, m_cz v)) (R) (0) (nI (0)) (nI (0)) (show q = (0) + 0 from (e5.trans (Nat.zero_add _).symm)) (show q ≤ 6 from (by show q ≤ 6; omega))) hx hb hml hown hts (cwV 3 hts gX11_best_X11_leastOf rfl rfl rfl (by decide +kernel) ⟨(Nat.le_of_ble_eq_true rfl), (Nat.le_of_ble_eq_true rfl)⟩) hK hP hD hS hA (va_recv hK hP (ci := 10) (q0 := 0) rfl rfl) rfl hl.1 rfl (Nat.le_of_ble_eq_true rfl) dX11_best_84 ⟨(Nat.le_of_ble_eq_true rfl), (Nat.le_of_ble_eq_true rfl)⟩ (fun r_84 _ H locs hr_84 hP hD hS => ?_)
            refine zTop (y := (lsM (wt1) 0 (0) (nI (0)) (nI (0)))) hr_84 ?_
            have hP : va_P D vwCl (MW ct o (m_g v, m_fl v, m_ch v, m_sv v, m_why v, m_det v, m_li v, m_ld v, wt1, q, m_ln v, m_lz v, m_in v, m_ty v, m_he v, m_wa v, m_fa v, m_cm v, m_cz v) R) H := hP
            have hD : va_D A (MW ct o (m_g v, m_fl v, m_ch v, m_sv v, m_why v, m_det v, m_li v, m_ld v, wt1, q, m_ln v, m_lz v, m_in v, m_ty v, m_he v, m_wa v, m_fa v, m_cm v, m_cz v) R) := hD
            have e9 : F_best y v (nI k1) = ((lsM (wt1) 0 (0) (nI (0)) (nI (0))), (m_g v, m_fl v, m_ch v, m_sv v, m_why v, m_det v, m_li v, m_ld v, wt1, q, m_ln v, m_lz v, m_in v, m_ty v, m_he v, m_wa v, m_fa v, m_cm v, m_cz v)) := (by simp only [F_best, mWt, ixI, nI_0, hw, hqn, e6, c5_1, hclk1, p_in, p_worn, p_wi, p_creak, p_le0, p_lt1, p_rng, pmT, pmC, p_eq0, not_true_eq_false, not_false_eq_true, if_true, if_false, and_true, true_and, and_false, false_and, or_true, true_or, or_false, false_or, and_self, or_self, iff_true, true_iff, iff_false, false_iff, decide_eq_true_eq, decide_true, decide_false, Int32.add_zero, Nat.add_zero, ne_eq, Bool.false_eq_true, eq_self])
            exact zIret () hx hb hr hlocks hK (by show va_P D vwCl (MW ct o (F_best y v (nI k1)).2 R) H; rw [e9]; exact hP) (by show va_D A (MW ct o (F_best y v (nI k1)).2 R); rw [e9]; exact hD) hS dX11_best_87 (show (lsM (wt1) 0 (0) (nI (0)) (nI (0))) = (F_best y v (nI k1)).1 from (by rw [e9]))
          · skip
            have e6 : gN y (nI k1) (y_n y) = 1 := hqn.symm.trans e5
            refine lv_aload_n hx hb dX11_best_80 rfl (lv_at hl 0 rfl) ?_
            refine lv_iconst (v := nI (0)) hx hb dX11_best_81 (by decide) ?_
            refine lv_iconst (v := nI (0)) hx hb dX11_best_82 (by decide) ?_
            refine lv_iconst (v := nI (0)) hx hb dX11_best_83 (by decide) ?_
            refine zVI [.int (nI (0)), .int (nI (0)), .int (nI (0))] [] (kX11_leastOf_1 (o) ((m_g v, m_fl v, m_ch v, m_sv v, m_why v, m_det v, m_li v, m_ld v, wt1, q, m_ln v, m_lz v, m_in v, m_ty v, m_he v, m_wa v, m_fa v, m_cm v, m_cz v)) (R) (0) (nI (0)) (nI (0)) (show q = (0) + 1 from (e5.trans (Nat.zero_add _).symm)) (show q ≤ 6 from (by show q ≤ 6; omega))) hx hb hml hown hts (cwV 3 hts gX11_best_X11_leastOf rfl rfl rfl (by decide +kernel) ⟨(Nat.le_of_ble_eq_true rfl), (Nat.le_of_ble_eq_true rfl)⟩) hK hP hD hS hA (va_recv hK hP (ci := 10) (q0 := 0) rfl rfl) rfl hl.1 rfl (Nat.le_of_ble_eq_true rfl) dX11_best_84 ⟨(Nat.le_of_ble_eq_true rfl), (Nat.le_of_ble_eq_true rfl)⟩ (fun r_84 _ H locs hr_84 hP hD hS => ?_)
            refine zTop (y := (lsM (wt1) 1 (0) (nI (0)) (nI (0)))) hr_84 ?_
            have hP : va_P D vwCl (MW ct o (m_g v, m_fl v, m_ch v, m_sv v, m_why v, m_det v, m_li v, m_ld v, wt1, q, m_ln v, m_lz v, m_in v, m_ty v, m_he v, m_wa v, m_fa v, m_cm v, m_cz v) R) H := hP
            have hD : va_D A (MW ct o (m_g v, m_fl v, m_ch v, m_sv v, m_why v, m_det v, m_li v, m_ld v, wt1, q, m_ln v, m_lz v, m_in v, m_ty v, m_he v, m_wa v, m_fa v, m_cm v, m_cz v) R) := hD
            have e9 : F_best y v (nI k1) = ((lsM (wt1) 1 (0) (nI (0)) (nI (0))), (m_g v, m_fl v, m_ch v, m_sv v, m_why v, m_det v, m_li v, m_ld v, wt1, q, m_ln v, m_lz v, m_in v, m_ty v, m_he v, m_wa v, m_fa v, m_cm v, m_cz v)) := (by simp only [F_best, mWt, ixI, nI_0, hw, hqn, e6, c5_1, hclk1, p_in, p_worn, p_wi, p_creak, p_le0, p_lt1, p_rng, pmT, pmC, p_eq0, not_true_eq_false, not_false_eq_true, if_true, if_false, and_true, true_and, and_false, false_and, or_true, true_or, or_false, false_or, and_self, or_self, iff_true, true_iff, iff_false, false_iff, decide_eq_true_eq, decide_true, decide_false, Int32.add_zero, Nat.add_zero, ne_eq, Bool.false_eq_true, eq_self])
            exact zIret () hx hb hr hlocks hK (by show va_P D vwCl (MW ct o (F_best y v (nI k1)).2 R) H; rw [e9]; exact hP) (by show va_D A (MW ct o (F_best y v (nI k1)).2 R); rw [e9]; exact hD) hS dX11_best_87 (show (lsM (wt1) 1 (0) (nI (0)) (nI (0))) = (F_best y v (nI k1)).1 from (by rw [e9]))
          · skip
            have e6 : gN y (nI k1) (y_n y) = 2 := hqn.symm.trans e5
            refine lv_aload_n hx hb dX11_best_80 rfl (lv_at hl 0 rfl) ?_
            refine lv_iconst (v := nI (0)) hx hb dX11_best_81 (by decide) ?_
            refine lv_iconst (v := nI (0)) hx hb dX11_best_82 (by decide) ?_
            refine lv_iconst (v := nI (0)) hx hb dX11_best_83 (by decide) ?_
            refine zVI [.int (nI (0)), .int (nI (0)), .int (nI (0))] [] (kX11_leastOf_2 (o) ((m_g v, m_fl v, m_ch v, m_sv v, m_why v, m_det v, m_li v, m_ld v, wt1, q, m_ln v, m_lz v, m_in v, m_ty v, m_he v, m_wa v, m_fa v, m_cm v, m_cz v)) (R) (0) (nI (0)) (nI (0)) (show q = (0) + 2 from (e5.trans (Nat.zero_add _).symm)) (show q ≤ 6 from (by show q ≤ 6; omega))) hx hb hml hown hts (cwV 3 hts gX11_best_X11_leastOf rfl rfl rfl (by decide +kernel) ⟨(Nat.le_of_ble_eq_true rfl), (Nat.le_of_ble_eq_true rfl)⟩) hK hP hD hS hA (va_recv hK hP (ci := 10) (q0 := 0) rfl rfl) rfl hl.1 rfl (Nat.le_of_ble_eq_true rfl) dX11_best_84 ⟨(Nat.le_of_ble_eq_true rfl), (Nat.le_of_ble_eq_true rfl)⟩ (fun r_84 _ H locs hr_84 hP hD hS => ?_)
            refine zTop (y := (lsM (wt1) 2 (0) (nI (0)) (nI (0)))) hr_84 ?_
            have hP : va_P D vwCl (MW ct o (m_g v, m_fl v, m_ch v, m_sv v, m_why v, m_det v, m_li v, m_ld v, wt1, q, m_ln v, m_lz v, m_in v, m_ty v, m_he v, m_wa v, m_fa v, m_cm v, m_cz v) R) H := hP
            have hD : va_D A (MW ct o (m_g v, m_fl v, m_ch v, m_sv v, m_why v, m_det v, m_li v, m_ld v, wt1, q, m_ln v, m_lz v, m_in v, m_ty v, m_he v, m_wa v, m_fa v, m_cm v, m_cz v) R) := hD
            have e9 : F_best y v (nI k1) = ((lsM (wt1) 2 (0) (nI (0)) (nI (0))), (m_g v, m_fl v, m_ch v, m_sv v, m_why v, m_det v, m_li v, m_ld v, wt1, q, m_ln v, m_lz v, m_in v, m_ty v, m_he v, m_wa v, m_fa v, m_cm v, m_cz v)) := (by simp only [F_best, mWt, ixI, nI_0, hw, hqn, e6, c5_1, hclk1, p_in, p_worn, p_wi, p_creak, p_le0, p_lt1, p_rng, pmT, pmC, p_eq0, not_true_eq_false, not_false_eq_true, if_true, if_false, and_true, true_and, and_false, false_and, or_true, true_or, or_false, false_or, and_self, or_self, iff_true, true_iff, iff_false, false_iff, decide_eq_true_eq, decide_true, decide_false, Int32.add_zero, Nat.add_zero, ne_eq, Bool.false_eq_true, eq_self])
            exact zIret () hx hb hr hlocks hK (by show va_P D vwCl (MW ct o (F_best y v (nI k1)).2 R) H; rw [e9]; exact hP) (by show va_D A (MW ct o (F_best y v (nI k1)).2 R); rw [e9]; exact hD) hS dX11_best_87 (show (lsM (wt1) 2 (0) (nI (0)) (nI (0))) = (F_best y v (nI k1)).1 from (by rw [e9]))
          · skip
            have e6 : gN y (nI k1) (y_n y) = 3 := hqn.symm.trans e5
            refine lv_aload_n hx hb dX11_best_80 rfl (lv_at hl 0 rfl) ?_
            refine lv_iconst (v := nI (0)) hx hb dX11_best_81 (by decide) ?_
            refine lv_iconst (v := nI (0)) hx hb dX11_best_82 (by decide) ?_
            refine lv_iconst (v := nI (0)) hx hb dX11_best_83 (by decide) ?_
            refine zVI [.int (nI (0)), .int (nI (0)), .int (nI (0))] [] (kX11_leastOf_3 (o) ((m_g v, m_fl v, m_ch v, m_sv v, m_why v, m_det v, m_li v, m_ld v, wt1, q, m_ln v, m_lz v, m_in v, m_ty v, m_he v, m_wa v, m_fa v, m_cm v, m_cz v)) (R) (0) (nI (0)) (nI (0)) (show q = (0) + 3 from (e5.trans (Nat.zero_add _).symm)) (show q ≤ 6 from (by show q ≤ 6; omega))) hx hb hml hown hts (cwV 3 hts gX11_best_X11_leastOf rfl rfl rfl (by decide +kernel) ⟨(Nat.le_of_ble_eq_true rfl), (Nat.le_of_ble_eq_true rfl)⟩) hK hP hD hS hA (va_recv hK hP (ci := 10) (q0 := 0) rfl rfl) rfl hl.1 rfl (Nat.le_of_ble_eq_true rfl) dX11_best_84 ⟨(Nat.le_of_ble_eq_true rfl), (Nat.le_of_ble_eq_true rfl)⟩ (fun r_84 _ H locs hr_84 hP hD hS => ?_)
            refine zTop (y := (lsM (wt1) 3 (0) (nI (0)) (nI (0)))) hr_84 ?_
            have hP : va_P D vwCl (MW ct o (m_g v, m_fl v, m_ch v, m_sv v, m_why v, m_det v, m_li v, m_ld v, wt1, q, m_ln v, m_lz v, m_in v, m_ty v, m_he v, m_wa v, m_fa v, m_cm v, m_cz v) R) H := hP
            have hD : va_D A (MW ct o (m_g v, m_fl v, m_ch v, m_sv v, m_why v, m_det v, m_li v, m_ld v, wt1, q, m_ln v, m_lz v, m_in v, m_ty v, m_he v, m_wa v, m_fa v, m_cm v, m_cz v) R) := hD
            have e9 : F_best y v (nI k1) = ((lsM (wt1) 3 (0) (nI (0)) (nI (0))), (m_g v, m_fl v, m_ch v, m_sv v, m_why v, m_det v, m_li v, m_ld v, wt1, q, m_ln v, m_lz v, m_in v, m_ty v, m_he v, m_wa v, m_fa v, m_cm v, m_cz v)) := (by simp only [F_best, mWt, ixI, nI_0, hw, hqn, e6, c5_1, hclk1, p_in, p_worn, p_wi, p_creak, p_le0, p_lt1, p_rng, pmT, pmC, p_eq0, not_true_eq_false, not_false_eq_true, if_true, if_false, and_true, true_and, and_false, false_and, or_true, true_or, or_false, false_or, and_self, or_self, iff_true, true_iff, iff_false, false_iff, decide_eq_true_eq, decide_true, decide_false, Int32.add_zero, Nat.add_zero, ne_eq, Bool.false_eq_true, eq_self])
            exact zIret () hx hb hr hlocks hK (by show va_P D vwCl (MW ct o (F_best y v (nI k1)).2 R) H; rw [e9]; exact hP) (by show va_D A (MW ct o (F_best y v (nI k1)).2 R); rw [e9]; exact hD) hS dX11_best_87 (show (lsM (wt1) 3 (0) (nI (0)) (nI (0))) = (F_best y v (nI k1)).1 from (by rw [e9]))
          · skip
            have e6 : gN y (nI k1) (y_n y) = 4 := hqn.symm.trans e5
            refine lv_aload_n hx hb dX11_best_80 rfl (lv_at hl 0 rfl) ?_
            refine lv_iconst (v := nI (0)) hx hb dX11_best_81 (by decide) ?_
            refine lv_iconst (v := nI (0)) hx hb dX11_best_82 (by decide) ?_
            refine lv_iconst (v := nI (0)) hx hb dX11_best_83 (by decide) ?_
            refine zVI [.int (nI (0)), .int (nI (0)), .int (nI (0))] [] (kX11_leastOf_4 (o) ((m_g v, m_fl v, m_ch v, m_sv v, m_why v, m_det v, m_li v, m_ld v, wt1, q, m_ln v, m_lz v, m_in v, m_ty v, m_he v, m_wa v, m_fa v, m_cm v, m_cz v)) (R) (0) (nI (0)) (nI (0)) (show q = (0) + 4 from (e5.trans (Nat.zero_add _).symm)) (show q ≤ 6 from (by show q ≤ 6; omega))) hx hb hml hown hts (cwV 3 hts gX11_best_X11_leastOf rfl rfl rfl (by decide +kernel) ⟨(Nat.le_of_ble_eq_true rfl), (Nat.le_of_ble_eq_true rfl)⟩) hK hP hD hS hA (va_recv hK hP (ci := 10) (q0 := 0) rfl rfl) rfl hl.1 rfl (Nat.le_of_ble_eq_true rfl) dX11_best_84 ⟨(Nat.le_of_ble_eq_true rfl), (Nat.le_of_ble_eq_true rfl)⟩ (fun r_84 _ H locs hr_84 hP hD hS => ?_)
            refine zTop (y := (lsM (wt1) 4 (0) (nI (0)) (nI (0)))) hr_84 ?_
            have hP : va_P D vwCl (MW ct o (m_g v, m_fl v, m_ch v, m_sv v, m_why v, m_det v, m_li v, m_ld v, wt1, q, m_ln v, m_lz v, m_in v, m_ty v, m_he v, m_wa v, m_fa v, m_cm v, m_cz v) R) H := hP
            have hD : va_D A (MW ct o (m_g v, m_fl v, m_ch v, m_sv v, m_why v, m_det v, m_li v, m_ld v, wt1, q, m_ln v, m_lz v, m_in v, m_ty v, m_he v, m_wa v, m_fa v, m_cm v, m_cz v) R) := hD
            have e9 : F_best y v (nI k1) = ((lsM (wt1) 4 (0) (nI (0)) (nI (0))), (m_g v, m_fl v, m_ch v, m_sv v, m_why v, m_det v, m_li v, m_ld v, wt1, q, m_ln v, m_lz v, m_in v, m_ty v, m_he v, m_wa v, m_fa v, m_cm v, m_cz v)) := (by simp only [F_best, mWt, ixI, nI_0, hw, hqn, e6, c5_1, hclk1, p_in, p_worn, p_wi, p_creak, p_le0, p_lt1, p_rng, pmT, pmC, p_eq0, not_true_eq_false, not_false_eq_true, if_true, if_false, and_true, true_and, and_false, false_and, or_true, true_or, or_false, false_or, and_self, or_self, iff_true, true_iff, iff_false, false_iff, decide_eq_true_eq, decide_true, decide_false, Int32.add_zero, Nat.add_zero, ne_eq, Bool.false_eq_true, eq_self])
            exact zIret () hx hb hr hlocks hK (by show va_P D vwCl (MW ct o (F_best y v (nI k1)).2 R) H; rw [e9]; exact hP) (by show va_D A (MW ct o (F_best y v (nI k1)).2 R); rw [e9]; exact hD) hS dX11_best_87 (show (lsM (wt1) 4 (0) (nI (0)) (nI (0))) = (F_best y v (nI k1)).1 from (by rw [e9]))
          · skip
            have e6 : gN y (nI k1) (y_n y) = 5 := hqn.symm.trans e5
            refine lv_aload_n hx hb dX11_best_80 rfl (lv_at hl 0 rfl) ?_
            refine lv_iconst (v := nI (0)) hx hb dX11_best_81 (by decide) ?_
            refine lv_iconst (v := nI (0)) hx hb dX11_best_82 (by decide) ?_
            refine lv_iconst (v := nI (0)) hx hb dX11_best_83 (by decide) ?_
            refine zVI [.int (nI (0)), .int (nI (0)), .int (nI (0))] [] (kX11_leastOf_5 (o) ((m_g v, m_fl v, m_ch v, m_sv v, m_why v, m_det v, m_li v, m_ld v, wt1, q, m_ln v, m_lz v, m_in v, m_ty v, m_he v, m_wa v, m_fa v, m_cm v, m_cz v)) (R) (0) (nI (0)) (nI (0)) (show q = (0) + 5 from (e5.trans (Nat.zero_add _).symm)) (show q ≤ 6 from (by show q ≤ 6; omega))) hx hb hml hown hts (cwV 3 hts gX11_best_X11_leastOf rfl rfl rfl (by decide +kernel) ⟨(Nat.le_of_ble_eq_true rfl), (Nat.le_of_ble_eq_true rfl)⟩) hK hP hD hS hA (va_recv hK hP (ci := 10) (q0 := 0) rfl rfl) rfl hl.1 rfl (Nat.le_of_ble_eq_true rfl) dX11_best_84 ⟨(Nat.le_of_ble_eq_true rfl), (Nat.le_of_ble_eq_true rfl)⟩ (fun r_84 _ H locs hr_84 hP hD hS => ?_)
            refine zTop (y := (lsM (wt1) 5 (0) (nI (0)) (nI (0)))) hr_84 ?_
            have hP : va_P D vwCl (MW ct o (m_g v, m_fl v, m_ch v, m_sv v, m_why v, m_det v, m_li v, m_ld v, wt1, q, m_ln v, m_lz v, m_in v, m_ty v, m_he v, m_wa v, m_fa v, m_cm v, m_cz v) R) H := hP
            have hD : va_D A (MW ct o (m_g v, m_fl v, m_ch v, m_sv v, m_why v, m_det v, m_li v, m_ld v, wt1, q, m_ln v, m_lz v, m_in v, m_ty v, m_he v, m_wa v, m_fa v, m_cm v, m_cz v) R) := hD
            have e9 : F_best y v (nI k1) = ((lsM (wt1) 5 (0) (nI (0)) (nI (0))), (m_g v, m_fl v, m_ch v, m_sv v, m_why v, m_det v, m_li v, m_ld v, wt1, q, m_ln v, m_lz v, m_in v, m_ty v, m_he v, m_wa v, m_fa v, m_cm v, m_cz v)) := (by simp only [F_best, mWt, ixI, nI_0, hw, hqn, e6, c5_1, hclk1, p_in, p_worn, p_wi, p_creak, p_le0, p_lt1, p_rng, pmT, pmC, p_eq0, not_true_eq_false, not_false_eq_true, if_true, if_false, and_true, true_and, and_false, false_and, or_true, true_or, or_false, false_or, and_self, or_self, iff_true, true_iff, iff_false, false_iff, decide_eq_true_eq, decide_true, decide_false, Int32.add_zero, Nat.add_zero, ne_eq, Bool.false_eq_true, eq_self])
            exact zIret () hx hb hr hlocks hK (by show va_P D vwCl (MW ct o (F_best y v (nI k1)).2 R) H; rw [e9]; exact hP) (by show va_D A (MW ct o (F_best y v (nI k1)).2 R); rw [e9]; exact hD) hS dX11_best_87 (show (lsM (wt1) 5 (0) (nI (0)) (nI (0))) = (F_best y v (nI k1)).1 from (by rw [e9]))
          · skip
            have e6 : gN y (nI k1) (y_n y) = 6 := hqn.symm.trans e5
            refine lv_aload_n hx hb dX11_best_80 rfl (lv_at hl 0 rfl) ?_
            refine lv_iconst (v := nI (0)) hx hb dX11_best_81 (by decide) ?_
            refine lv_iconst (v := nI (0)) hx hb dX11_best_82 (by decide) ?_
            refine lv_iconst (v := nI (0)) hx hb dX11_best_83 (by decide) ?_
            refine zVI [.int (nI (0)), .int (nI (0)), .int (nI (0))] [] (kX11_leastOf_6 (o) ((m_g v, m_fl v, m_ch v, m_sv v, m_why v, m_det v, m_li v, m_ld v, wt1, q, m_ln v, m_lz v, m_in v, m_ty v, m_he v, m_wa v, m_fa v, m_cm v, m_cz v)) (R) (0) (nI (0)) (nI (0)) (show q = (0) + 6 from (e5.trans (Nat.zero_add _).symm)) (show q ≤ 6 from (by show q ≤ 6; omega))) hx hb hml hown hts (cwV 3 hts gX11_best_X11_leastOf rfl rfl rfl (by decide +kernel) ⟨(Nat.le_of_ble_eq_true rfl), (Nat.le_of_ble_eq_true rfl)⟩) hK hP hD hS hA (va_recv hK hP (ci := 10) (q0 := 0) rfl rfl) rfl hl.1 rfl (Nat.le_of_ble_eq_true rfl) dX11_best_84 ⟨(Nat.le_of_ble_eq_true rfl), (Nat.le_of_ble_eq_true rfl)⟩ (fun r_84 _ H locs hr_84 hP hD hS => ?_)
            refine zTop (y := (lsM (wt1) 6 (0) (nI (0)) (nI (0)))) hr_84 ?_
            have hP : va_P D vwCl (MW ct o (m_g v, m_fl v, m_ch v, m_sv v, m_why v, m_det v, m_li v, m_ld v, wt1, q, m_ln v, m_lz v, m_in v, m_ty v, m_he v, m_wa v, m_fa v, m_cm v, m_cz v) R) H := hP
            have hD : va_D A (MW ct o (m_g v, m_fl v, m_ch v, m_sv v, m_why v, m_det v, m_li v, m_ld v, wt1, q, m_ln v, m_lz v, m_in v, m_ty v, m_he v, m_wa v, m_fa v, m_cm v, m_cz v) R) := hD
            have e9 : F_best y v (nI k1) = ((lsM (wt1) 6 (0) (nI (0)) (nI (0))), (m_g v, m_fl v, m_ch v, m_sv v, m_why v, m_det v, m_li v, m_ld v, wt1, q, m_ln v, m_lz v, m_in v, m_ty v, m_he v, m_wa v, m_fa v, m_cm v, m_cz v)) := (by simp only [F_best, mWt, ixI, nI_0, hw, hqn, e6, c5_1, hclk1, p_in, p_worn, p_wi, p_creak, p_le0, p_lt1, p_rng, pmT, pmC, p_eq0, not_true_eq_false, not_false_eq_true, if_true, if_false, and_true, true_and, and_false, false_and, or_true, true_or, or_false, false_or, and_self, or_self, iff_true, true_iff, iff_false, false_iff, decide_eq_true_eq, decide_true, decide_false, Int32.add_zero, Nat.add_zero, ne_eq, Bool.false_eq_true, eq_self])
            exact zIret () hx hb hr hlocks hK (by show va_P D vwCl (MW ct o (F_best y v (nI k1)).2 R) H; rw [e9]; exact hP) (by show va_D A (MW ct o (F_best y v (nI k1)).2 R); rw [e9]; exact hD) hS dX11_best_87 (show (lsM (wt1) 6 (0) (nI (0)) (nI (0))) = (F_best y v (nI k1)).1 from (by rw [e9]))
        · skip
          refine lv_aload_n hx hb dX11_best_27 rfl (lv_at hl 0 rfl) ?_
          refine lv_iload_n hx hb dX11_best_28 rfl (lv_at hl 2 rfl) ?_
          refine lv_iload_n hx hb dX11_best_29 rfl (lv_at hl 1 rfl) ?_
          refine zVI [.int (nI (k)), .int (nI (k1))] [] (kX11_isOn (o) ((m_g v, m_fl v, m_ch v, m_sv v, m_why v, m_det v, m_li v, m_ld v, wt1, q, m_ln v, m_lz v, m_in v, m_ty v, m_he v, m_wa v, m_fa v, m_cm v, m_cz v)) (R) (k) (k1) (y) (show y_n (y) ≤ 12 ∧ y_cn (y) ≤ 4 ∧ y_rn (y) ≤ 5 from hB) (show RelI (y) (m_g v) from hq) (show (k) < y_n (y) from by omega) (show (k1) < 4 from by omega)) hx hb hml hown hts (cwV 2 hts gX11_best_X11_isOn rfl rfl rfl (by decide +kernel) ⟨(Nat.le_of_ble_eq_true rfl), (Nat.le_of_ble_eq_true rfl)⟩) hK hP hD hS hA (va_recv hK hP (ci := 10) (q0 := 0) rfl rfl) rfl hl.1 rfl (Nat.le_of_ble_eq_true rfl) dX11_best_30 ⟨(Nat.le_of_ble_eq_true rfl), (Nat.le_of_ble_eq_true rfl)⟩ (fun r_30 _ H locs hr_30 hP hD hS => ?_)
          subst hr_30
          have hP : va_P D vwCl (MW ct o (m_g v, m_fl v, m_ch v, m_sv v, m_why v, m_det v, m_li v, m_ld v, wt1, q, m_ln v, m_lz v, m_in v, m_ty v, m_he v, m_wa v, m_fa v, m_cm v, m_cz v) R) H := hP
          have hD : va_D A (MW ct o (m_g v, m_fl v, m_ch v, m_sv v, m_why v, m_det v, m_li v, m_ld v, wt1, q, m_ln v, m_lz v, m_in v, m_ty v, m_he v, m_wa v, m_fa v, m_cm v, m_cz v) R) := hD
          refine zB_if_eq (tgt := 74) hx hb dX11_best_33 (by decide) (fun c33_3 => ?_) (fun c33_3 => ?_)
          · skip
            refine lv_iinc (v := nI ((k + 1))) (lv' := [(2, .int (nI ((k + 1)))), (0, .ref (o 0)), (1, .int (nI (k1)))]) hx hb dX11_best_74 hl (k := 2) rfl (zInc _) (by decide) rfl (fun ls hl => ?_)
            refine lv_goto (tgt := 17) hx hb dX11_best_77 (by decide) ?_
            exact ih17 ((k + 1)) (q) (wt1) H locs ls (by omega) (by rw [hqn]; simp only [gN, cN, gP, c5_1, hclk1, c24_2, c33_3, p_in, p_worn, p_wi, p_creak, p_le0, p_lt1, p_rng, pmT, pmC, p_eq0, not_true_eq_false, not_false_eq_true, if_true, if_false, and_true, true_and, and_false, false_and, or_true, true_or, or_false, false_or, and_self, or_self, iff_true, true_iff, iff_false, false_iff, decide_eq_true_eq, decide_true, decide_false, Int32.add_zero, Nat.add_zero, ne_eq, Bool.false_eq_true, eq_self]) (by rw [gW, hw]; simp only [gP, hqn, c5_1, hclk1, c24_2, c33_3, p_in, p_worn, p_wi, p_creak, p_le0, p_lt1, p_rng, pmT, pmC, p_eq0, not_true_eq_false, not_false_eq_true, if_true, if_false, and_true, true_and, and_false, false_and, or_true, true_or, or_false, false_or, and_self, or_self, iff_true, true_iff, iff_false, false_iff, decide_eq_true_eq, decide_true, decide_false, Int32.add_zero, Nat.add_zero, ne_eq, Bool.false_eq_true, eq_self]) (by omega) hP hD hS (lv_sub hl [1, 2, 0] rfl)
          · skip
            refine lv_aload_n hx hb dX11_best_36 rfl (lv_at hl 0 rfl) ?_
            refine lv_iload_n hx hb dX11_best_37 rfl (lv_at hl 2 rfl) ?_
            refine lv_iconst (v := nI (0)) hx hb dX11_best_38 (by decide) ?_
            refine zVI [.int (nI (k)), .int (nI (0))] [] (kX11_t (o) ((m_g v, m_fl v, m_ch v, m_sv v, m_why v, m_det v, m_li v, m_ld v, wt1, q, m_ln v, m_lz v, m_in v, m_ty v, m_he v, m_wa v, m_fa v, m_cm v, m_cz v)) (R) (k) (0) (show (k) < 12 from by omega) (show (0) < 4 from by omega)) hx hb hml hown hts (cwV 2 hts gX11_best_X11_t rfl rfl rfl (by decide +kernel) ⟨(Nat.le_of_ble_eq_true rfl), (Nat.le_of_ble_eq_true rfl)⟩) hK hP hD hS hA (va_recv hK hP (ci := 10) (q0 := 0) rfl rfl) rfl hl.1 rfl (Nat.le_of_ble_eq_true rfl) dX11_best_39 ⟨(Nat.le_of_ble_eq_true rfl), (Nat.le_of_ble_eq_true rfl)⟩ (fun r_39 _ H locs hr_39 hP hD hS => ?_)
            subst hr_39
            have hP : va_P D vwCl (MW ct o (m_g v, m_fl v, m_ch v, m_sv v, m_why v, m_det v, m_li v, m_ld v, wt1, q, m_ln v, m_lz v, m_in v, m_ty v, m_he v, m_wa v, m_fa v, m_cm v, m_cz v) R) H := hP
            have hD : va_D A (MW ct o (m_g v, m_fl v, m_ch v, m_sv v, m_why v, m_det v, m_li v, m_ld v, wt1, q, m_ln v, m_lz v, m_in v, m_ty v, m_he v, m_wa v, m_fa v, m_cm v, m_cz v) R) := hD
            refine zTop (y := (y_kd y (k))) (rel_kd hq (k := k) (by omega)) ?_
            refine lv_iconst (v := nI (1)) hx hb dX11_best_42 (by decide) ?_
            refine lv_icmp_ne (tgt := 49) hx hb dX11_best_43 (by decide) (fun c43_4 => ?_) (fun c43_4 => ?_)
            · skip
              refine lv_aload_n hx hb dX11_best_49 rfl (lv_at hl 0 rfl) ?_
              refine va_get (ci := 10) (v := .ref (o 3)) hx hb hts h_X11 hown hK hP 0 rfl rfl 8 (by decide) f17 (fun _ h9 => h9) rfl dX11_best_50 ?_
              refine lv_aload_n hx hb dX11_best_53 rfl (lv_at hl 0 rfl) ?_
              refine va_get (ci := 10) (v := .int (nI (q))) hx hb hts h_X11 hown hK hP 0 rfl rfl 9 (by decide) f169 (fun _ h9 => h9) rfl dX11_best_54 ?_
              refine lv_aload_n hx hb dX11_best_57 rfl (lv_at hl 0 rfl) ?_
              refine lv_iload_n hx hb dX11_best_58 rfl (lv_at hl 2 rfl) ?_
              refine lv_iconst (v := nI (1)) hx hb dX11_best_59 (by decide) ?_
              refine zVI [.int (nI (k)), .int (nI (1))] [.int (nI (q)), .ref (o 3)] (kX11_t (o) ((m_g v, m_fl v, m_ch v, m_sv v, m_why v, m_det v, m_li v, m_ld v, wt1, q, m_ln v, m_lz v, m_in v, m_ty v, m_he v, m_wa v, m_fa v, m_cm v, m_cz v)) (R) (k) (1) (show (k) < 12 from by omega) (show (1) < 4 from by omega)) hx hb hml hown hts (cwV 2 hts gX11_best_X11_t rfl rfl rfl (by decide +kernel) ⟨(Nat.le_of_ble_eq_true rfl), (Nat.le_of_ble_eq_true rfl)⟩) hK hP hD hS hA (va_recv hK hP (ci := 10) (q0 := 0) rfl rfl) rfl hl.1 rfl (Nat.le_of_ble_eq_true rfl) dX11_best_60 ⟨(Nat.le_of_ble_eq_true rfl), (Nat.le_of_ble_eq_true rfl)⟩ (fun r_60 _ H locs hr_60 hP hD hS => ?_)
              subst hr_60
              have hP : va_P D vwCl (MW ct o (m_g v, m_fl v, m_ch v, m_sv v, m_why v, m_det v, m_li v, m_ld v, wt1, q, m_ln v, m_lz v, m_in v, m_ty v, m_he v, m_wa v, m_fa v, m_cm v, m_cz v) R) H := hP
              have hD : va_D A (MW ct o (m_g v, m_fl v, m_ch v, m_sv v, m_why v, m_det v, m_li v, m_ld v, wt1, q, m_ln v, m_lz v, m_in v, m_ty v, m_he v, m_wa v, m_fa v, m_cm v, m_cz v) R) := hD
              refine zTop (y := (y_w y (k))) (rel_w hq (k := k) (by omega)) ?_
              refine zIast (n := 6) (f := wt1) (i := q) hx hb hK hP hD hS 3 rfl (gN_lt hqn (by omega) (show gP y (nI k1) k from by simp only [gP, c5_1, hclk1, c24_2, c33_3, c43_4, p_in, p_worn, p_wi, p_creak, p_le0, p_lt1, p_rng, pmT, pmC, p_eq0, not_true_eq_false, not_false_eq_true, if_true, if_false, and_true, true_and, and_false, false_and, or_true, true_or, or_false, false_or, and_self, or_self, iff_true, true_iff, iff_false, false_iff, decide_eq_true_eq, decide_true, decide_false, Int32.add_zero, Nat.add_zero, ne_eq, Bool.false_eq_true, eq_self]) (h6 k1 hk1)) (by decide) dX11_best_63 (fun H locs hP hD hS => ?_)
              have hP : va_P D vwCl (MW ct o (m_g v, m_fl v, m_ch v, m_sv v, m_why v, m_det v, m_li v, m_ld v, (upd (wt1) (q) ((y_w y (k)))), q, m_ln v, m_lz v, m_in v, m_ty v, m_he v, m_wa v, m_fa v, m_cm v, m_cz v) R) H := hP
              have hD : va_D A (MW ct o (m_g v, m_fl v, m_ch v, m_sv v, m_why v, m_det v, m_li v, m_ld v, (upd (wt1) (q) ((y_w y (k)))), q, m_ln v, m_lz v, m_in v, m_ty v, m_he v, m_wa v, m_fa v, m_cm v, m_cz v) R) := hD
              refine lv_aload_n hx hb dX11_best_64 rfl (lv_at hl 0 rfl) ?_
              refine lv_dup hx hb dX11_best_65 rfl ?_
              refine va_get (ci := 10) (v := .int (nI (q))) hx hb hts h_X11 hown hK hP 0 rfl rfl 9 (by decide) f169 (fun _ h9 => h9) rfl dX11_best_66 ?_
              refine lv_iconst (v := nI (1)) hx hb dX11_best_69 (by decide) ?_
              refine zNadd hx hb dX11_best_70 ?_
              refine va_put (ci := 10) (v := .int (nI ((q + 1)))) (ty := .int) hx hb hts h_X11 tyX11 tyX11_ok nmX11 hown hK hP hD hS 0 rfl rfl 9 (by decide) f169 (fun _ h9 => h9) rfl (by decide +kernel) rfl rfl (Nat.le_of_ble_eq_true rfl) dX11_best_71 (fun H locs hP hD hS => ?_)
              have hP : va_P D vwCl (MW ct o (m_g v, m_fl v, m_ch v, m_sv v, m_why v, m_det v, m_li v, m_ld v, (upd (wt1) (q) ((y_w y (k)))), (q + 1), m_ln v, m_lz v, m_in v, m_ty v, m_he v, m_wa v, m_fa v, m_cm v, m_cz v) R) H := hP
              have hD : va_D A (MW ct o (m_g v, m_fl v, m_ch v, m_sv v, m_why v, m_det v, m_li v, m_ld v, (upd (wt1) (q) ((y_w y (k)))), (q + 1), m_ln v, m_lz v, m_in v, m_ty v, m_he v, m_wa v, m_fa v, m_cm v, m_cz v) R) := hD
              refine lv_iinc (v := nI ((k + 1))) (lv' := [(2, .int (nI ((k + 1)))), (0, .ref (o 0)), (1, .int (nI (k1)))]) hx hb dX11_best_74 hl (k := 2) rfl (zInc _) (by decide) rfl (fun ls hl => ?_)
              refine lv_goto (tgt := 17) hx hb dX11_best_77 (by decide) ?_
              exact ih17 ((k + 1)) ((q + 1)) ((upd (wt1) (q) ((y_w y (k))))) H locs ls (by omega) (by rw [hqn]; simp only [gN, cN, gP, c5_1, hclk1, c24_2, c33_3, c43_4, p_in, p_worn, p_wi, p_creak, p_le0, p_lt1, p_rng, pmT, pmC, p_eq0, not_true_eq_false, not_false_eq_true, if_true, if_false, and_true, true_and, and_false, false_and, or_true, true_or, or_false, false_or, and_self, or_self, iff_true, true_iff, iff_false, false_iff, decide_eq_true_eq, decide_true, decide_false, Int32.add_zero, Nat.add_zero, ne_eq, Bool.false_eq_true, eq_self]) (by rw [gW, hw]; simp only [gP, hqn, c5_1, hclk1, c24_2, c33_3, c43_4, p_in, p_worn, p_wi, p_creak, p_le0, p_lt1, p_rng, pmT, pmC, p_eq0, not_true_eq_false, not_false_eq_true, if_true, if_false, and_true, true_and, and_false, false_and, or_true, true_or, or_false, false_or, and_self, or_self, iff_true, true_iff, iff_false, false_iff, decide_eq_true_eq, decide_true, decide_false, Int32.add_zero, Nat.add_zero, ne_eq, Bool.false_eq_true, eq_self]) (by omega) hP hD hS (lv_sub hl [1, 2, 0] rfl)
            · skip
              refine lv_goto (tgt := 74) hx hb dX11_best_46 (by decide) ?_
              refine lv_iinc (v := nI ((k + 1))) (lv' := [(2, .int (nI ((k + 1)))), (0, .ref (o 0)), (1, .int (nI (k1)))]) hx hb dX11_best_74 hl (k := 2) rfl (zInc _) (by decide) rfl (fun ls hl => ?_)
              refine lv_goto (tgt := 17) hx hb dX11_best_77 (by decide) ?_
              exact ih17 ((k + 1)) (q) (wt1) H locs ls (by omega) (by rw [hqn]; simp only [gN, cN, gP, c5_1, hclk1, c24_2, c33_3, eq_true c43_4, p_in, p_worn, p_wi, p_creak, p_le0, p_lt1, p_rng, pmT, pmC, p_eq0, not_true_eq_false, not_false_eq_true, if_true, if_false, and_true, true_and, and_false, false_and, or_true, true_or, or_false, false_or, and_self, or_self, iff_true, true_iff, iff_false, false_iff, decide_eq_true_eq, decide_true, decide_false, Int32.add_zero, Nat.add_zero, ne_eq, Bool.false_eq_true, eq_self]) (by rw [gW, hw]; simp only [gP, hqn, c5_1, hclk1, c24_2, c33_3, eq_true c43_4, p_in, p_worn, p_wi, p_creak, p_le0, p_lt1, p_rng, pmT, pmC, p_eq0, not_true_eq_false, not_false_eq_true, if_true, if_false, and_true, true_and, and_false, false_and, or_true, true_or, or_false, false_or, and_self, or_self, iff_true, true_iff, iff_false, false_iff, decide_eq_true_eq, decide_true, decide_false, Int32.add_zero, Nat.add_zero, ne_eq, Bool.false_eq_true, eq_self]) (by omega) hP hD hS (lv_sub hl [1, 2, 0] rfl)
    exact lp17 ((y_n y - (0)) + 1) (0) (0) (m_wt v) H locs ls (by omega) rfl rfl (Nat.lt_succ_self _) hP hD hS (lv_sub hl [1, 2, 0] rfl)
  · skip
    refine lv_iconst (v := (-1)) hx hb dX11_best_8 (by decide) ?_
    have e9 : F_best y v x1 = ((-1), v) := (by simp only [F_best, mRef, mG, mGF, mGFC, ixI, setAt, setG, yMove, nI_sub1, c5_1, p_in, p_worn, p_wi, p_creak, p_le0, p_lt1, p_rng, pmT, pmC, p_eq0, not_true_eq_false, not_false_eq_true, if_true, if_false, and_true, true_and, and_false, false_and, or_true, true_or, or_false, false_or, and_self, or_self, iff_true, true_iff, iff_false, false_iff, decide_eq_true_eq, decide_true, decide_false, Int32.add_zero, Nat.add_zero, ne_eq, Bool.false_eq_true, eq_self])
    exact zIret () hx hb hr hlocks hK (by show va_P D vwCl (MW ct o (F_best y v x1).2 R) H; rw [e9]; exact hP) (by show va_D A (MW ct o (F_best y v x1).2 R); rw [e9]; exact hD) hS dX11_best_9 (show (-1) = (F_best y v x1).1 from (by rw [e9]))
abbrev rmX11_bestAgain : Room := { frames := 9, cells := 0, slots := 0, locals := 224 }
set_option maxHeartbeats 4000000 in
set_option maxRecDepth 100000 in
theorem kX11_bestAgain {D : va_G} {ct : Nat → ClassId} {l : Launch} (o : Nat → Nat) (v : MS) (R : va_W) (x1 : Int32) (y : YS) (hB : y_n y ≤ 12 ∧ y_cn y ≤ 4 ∧ y_rn y ≤ 5) (hq : RelI y (m_g v)) (h6 : ∀ c, c < y_cn y → gN y (nI c) (y_n y) ≤ 6) : MI D ct l yX11_bestAgain wsX11_bestAgain rmX11_bestAgain (MW ct o v R) [.ref (o 0), .int (x1)] (fun r0 (_ : Unit) => r0 = (F_best y v x1).1) (fun _ : Unit => MW ct o (F_best y v x1).2 R) := by
  refine MIof (cc := cX11_bestAgain) (maxL := 2) (ret := (some .int)) (by decide) rfl (Nat.le_of_ble_eq_true rfl) ?_
  intro p e s m args below meth c A H locs F hP hK hD hS hA ls hl
  obtain ⟨hx, hb, hr, hlocks, hml, hown, hts, hin⟩ := F
  have hl : lv_has ls 2 [(0, .ref (o 0)), (1, .int (x1))] := hl
  have hn : y_n y ≤ 12 := hB.1
  have hcn : y_cn y ≤ 4 := hB.2.1
  have hrn : y_rn y ≤ 5 := hB.2.2
  refine lv_aload_n hx hb dX11_bestAgain_0 rfl (lv_at hl 0 rfl) ?_
  refine lv_iload_n hx hb dX11_bestAgain_1 rfl (lv_at hl 1 rfl) ?_
  refine zVI [.int (x1)] [] (kX11_best (o) (v) (R) (x1) (y) (show y_n (y) ≤ 12 ∧ y_cn (y) ≤ 4 ∧ y_rn (y) ≤ 5 from hB) (show RelI (y) (m_g v) from hq) (show ∀ c, c < y_cn (y) → gN (y) (nI c) (y_n (y)) ≤ 6 from h6)) hx hb hml hown hts (cwV 1 hts gX11_bestAgain_X11_best rfl rfl rfl (by decide +kernel) ⟨(Nat.le_of_ble_eq_true rfl), (Nat.le_of_ble_eq_true rfl)⟩) hK hP hD hS hA (va_recv hK hP (ci := 10) (q0 := 0) rfl rfl) rfl hl.1 rfl (Nat.le_of_ble_eq_true rfl) dX11_bestAgain_2 ⟨(Nat.le_of_ble_eq_true rfl), (Nat.le_of_ble_eq_true rfl)⟩ (fun r_2 _ H locs hr_2 hP hD hS => ?_)
  subst hr_2
  have hP : va_P D vwCl (MW ct o (F_best (y) v (x1)).2 R) H := hP
  have hD : va_D A (MW ct o (F_best (y) v (x1)).2 R) := hD
  have e9 : F_best y v x1 = (((F_best (y) v (x1)).1), (F_best (y) v (x1)).2) := rfl
  exact zIret () hx hb hr hlocks hK (by show va_P D vwCl (MW ct o (F_best y v x1).2 R) H; rw [e9]; exact hP) (by show va_D A (MW ct o (F_best y v x1).2 R); rw [e9]; exact hD) hS dX11_bestAgain_5 (show ((F_best (y) v (x1)).1) = (F_best y v x1).1 from (by rw [e9]))
