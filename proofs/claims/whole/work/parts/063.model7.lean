/-! THE REFERENCE: its parser -/
abbrev rmX11_sign : Room := { frames := 0, cells := 0, slots := 0, locals := 0 }
theorem in_X11_sign_X11 : ∀ w ∈ u_ws RX11 TX11 19, w ∈ wsX11_sign := by decide +kernel
set_option maxHeartbeats 4000000 in
set_option maxRecDepth 100000 in
theorem kX11_sign {D : va_G} {ct : Nat → ClassId} {l : Launch} (o : Nat → Nat) (v : MS) (R : va_W)  (hh : m_he v ≤ 60) (ht : m_ty v ≤ 60) : MI D ct l yX11_sign wsX11_sign rmX11_sign (MW ct o v R) [.ref (o 0)] (fun r0 (_ : Unit) => r0 = sg (m_in v) (m_ty v) (m_he v)) (fun _ : Unit => MW ct o v R) := by
  refine MIof (cc := cX11_sign) (maxL := 1) (ret := (some .int)) (by decide) rfl (Nat.le_of_ble_eq_true rfl) ?_
  intro p e s m args below meth c A H locs F hP hK hD hS hA ls hl
  obtain ⟨hx, hb, hr, hlocks, hml, hown, hts, hin⟩ := F
  have hl : lv_has ls 1 [(0, .ref (o 0))] := hl
  have h_X11 := in_X11_sign_X11
  have f24 := hts (.fieldLink RX11 24 "CartArgumentsModel" "input" "[C") (by decide +kernel)
  have f192 := hts (.fieldLink RX11 192 "CartArgumentsModel" "typed" "I") (by decide +kernel)
  have f195 := hts (.fieldLink RX11 195 "CartArgumentsModel" "here" "I") (by decide +kernel)
  refine lv_aload_n hx hb dX11_sign_0 rfl (lv_at hl 0 rfl) ?_
  refine va_get (ci := 10) (v := .int (nI (m_he v))) hx hb hts h_X11 hown hK hP 0 rfl rfl 14 (by decide) f195 (fun _ h9 => h9) rfl dX11_sign_1 ?_
  refine lv_aload_n hx hb dX11_sign_4 rfl (lv_at hl 0 rfl) ?_
  refine va_get (ci := 10) (v := .int (nI (m_ty v))) hx hb hts h_X11 hown hK hP 0 rfl rfl 13 (by decide) f192 (fun _ h9 => h9) rfl dX11_sign_5 ?_
  refine zN_icmp_ge (tgt := 23) hx hb (by omega) (by omega) dX11_sign_8 (by decide) (fun c8_1 => ?_) (fun c8_1 => ?_)
  · skip
    refine lv_iconst (v := (-1)) hx hb dX11_sign_23 (by decide) ?_
    exact zIret () hx hb hr hlocks hK hP hD hS dX11_sign_24 (show (-1) = sg (m_in v) (m_ty v) (m_he v) from (by unfold sg; rw [if_neg (by omega)]))
  · skip
    refine lv_aload_n hx hb dX11_sign_11 rfl (lv_at hl 0 rfl) ?_
    refine va_get (ci := 10) (v := .ref (o 5)) hx hb hts h_X11 hown hK hP 0 rfl rfl 12 (by decide) f24 (fun _ h9 => h9) rfl dX11_sign_12 ?_
    refine lv_aload_n hx hb dX11_sign_15 rfl (lv_at hl 0 rfl) ?_
    refine va_get (ci := 10) (v := .int (nI (m_he v))) hx hb hts h_X11 hown hK hP 0 rfl rfl 14 (by decide) f195 (fun _ h9 => h9) rfl dX11_sign_16 ?_
    refine zCald (n := 60) (f := m_in v) (i := m_he v) hx hb hK hP 5 rfl (by omega) (by decide) dX11_sign_19 ?_
    refine lv_goto (tgt := 24) hx hb dX11_sign_20 (by decide) ?_
    exact zIret () hx hb hr hlocks hK hP hD hS dX11_sign_24 (show (m_in v (m_he v)) = sg (m_in v) (m_ty v) (m_he v) from (by unfold sg; rw [if_pos (by omega)]))
abbrev rmX11_needs : Room := { frames := 1, cells := 0, slots := 0, locals := 20 }
theorem in_X11_needs_X11 : ∀ w ∈ u_ws RX11 TX11 19, w ∈ wsX11_needs := by decide +kernel
set_option maxHeartbeats 4000000 in
set_option maxRecDepth 100000 in
theorem kX11_needs {D : va_G} {ct : Nat → ClassId} {l : Launch} (o : Nat → Nat) (v : MS) (R : va_W) (x1 : Int32) (ho : okP v) : MV D ct l yX11_needs wsX11_needs rmX11_needs (MW ct o v R) [.ref (o 0), .int (x1)] (fun _ : Unit => True) (fun _ : Unit => MW ct o (F_need v x1) R) := by
  refine MVof (cc := cX11_needs) (maxL := 2) (ret := none) (by decide) rfl (Nat.le_of_ble_eq_true rfl) ?_
  intro p e s m args below meth c A H locs F hP hK hD hS hA ls hl
  obtain ⟨hx, hb, hr, hlocks, hml, hown, hts, hin⟩ := F
  have hl : lv_has ls 2 [(0, .ref (o 0)), (1, .int (x1))] := hl
  have hh0 : m_he v ≤ m_ty v := ho.1
  have ht0 : m_ty v ≤ 60 := ho.2
  have h_X11 := in_X11_needs_X11
  have f195 := hts (.fieldLink RX11 195 "CartArgumentsModel" "here" "I") (by decide +kernel)
  have f198 := hts (.fieldLink RX11 198 "CartArgumentsModel" "wrongAt" "I") (by decide +kernel)
  refine lv_aload_n hx hb dX11_needs_0 rfl (lv_at hl 0 rfl) ?_
  refine va_get (ci := 10) (v := .int (m_wa v)) hx hb hts h_X11 hown hK hP 0 rfl rfl 15 (by decide) f198 (fun _ h9 => h9) rfl dX11_needs_1 ?_
  refine lv_if_lt (tgt := 8) hx hb dX11_needs_4 (by decide) (fun c4_1 => ?_) (fun c4_1 => ?_)
  · skip
    refine lv_aload_n hx hb dX11_needs_8 rfl (lv_at hl 0 rfl) ?_
    refine zVI [] [] (kX11_sign (o) (v) (R) (show m_he v ≤ 60 from by omega) (show m_ty v ≤ 60 from by omega)) hx hb hml hown hts (cwV 0 hts gX11_needs_X11_sign rfl rfl rfl (by decide +kernel) ⟨(Nat.le_of_ble_eq_true rfl), (Nat.le_of_ble_eq_true rfl)⟩) hK hP hD hS hA (va_recv hK hP (ci := 10) (q0 := 0) rfl rfl) rfl hl.1 rfl (Nat.le_of_ble_eq_true rfl) dX11_needs_9 ⟨(Nat.le_of_ble_eq_true rfl), (Nat.le_of_ble_eq_true rfl)⟩ (fun r_9 _ H locs hr_9 hP hD hS => ?_)
    subst hr_9
    have hP : va_P D vwCl (MW ct o v R) H := hP
    have hD : va_D A (MW ct o v R) := hD
    refine lv_iload_n hx hb dX11_needs_12 rfl (lv_at hl 1 rfl) ?_
    refine lv_icmp_eq (tgt := 25) hx hb dX11_needs_13 (by decide) (fun c13_2 => ?_) (fun c13_2 => ?_)
    · skip
      refine lv_aload_n hx hb dX11_needs_25 rfl (lv_at hl 0 rfl) ?_
      refine lv_dup hx hb dX11_needs_26 rfl ?_
      refine va_get (ci := 10) (v := .int (nI (m_he v))) hx hb hts h_X11 hown hK hP 0 rfl rfl 14 (by decide) f195 (fun _ h9 => h9) rfl dX11_needs_27 ?_
      refine lv_iconst (v := nI (1)) hx hb dX11_needs_30 (by decide) ?_
      refine zNadd hx hb dX11_needs_31 ?_
      refine va_put (ci := 10) (v := .int (nI ((m_he v + 1)))) (ty := .int) hx hb hts h_X11 tyX11 tyX11_ok nmX11 hown hK hP hD hS 0 rfl rfl 14 (by decide) f195 (fun _ h9 => h9) rfl (by decide +kernel) rfl rfl (Nat.le_of_ble_eq_true rfl) dX11_needs_32 (fun H locs hP hD hS => ?_)
      have hP : va_P D vwCl (MW ct o (m_g v, m_fl v, m_ch v, m_sv v, m_why v, m_det v, m_li v, m_ld v, m_wt v, m_wm v, m_ln v, m_lz v, m_in v, m_ty v, (m_he v + 1), m_wa v, m_fa v, m_cm v, m_cz v) R) H := hP
      have hD : va_D A (MW ct o (m_g v, m_fl v, m_ch v, m_sv v, m_why v, m_det v, m_li v, m_ld v, m_wt v, m_wm v, m_ln v, m_lz v, m_in v, m_ty v, (m_he v + 1), m_wa v, m_fa v, m_cm v, m_cz v) R) := hD
      have e9 : F_need v x1 = (m_g v, m_fl v, m_ch v, m_sv v, m_why v, m_det v, m_li v, m_ld v, m_wt v, m_wm v, m_ln v, m_lz v, m_in v, m_ty v, (m_he v + 1), m_wa v, m_fa v, m_cm v, m_cz v) := (by simp only [F_need, mHW, c4_1, eq_true c13_2, p_in, p_worn, p_wi, p_creak, p_le0, p_lt1, p_rng, pmT, pmC, p_eq0, not_true_eq_false, not_false_eq_true, if_true, if_false, and_true, true_and, and_false, false_and, or_true, true_or, or_false, false_or, and_self, or_self, iff_true, true_iff, iff_false, false_iff, decide_eq_true_eq, decide_true, decide_false, Int32.add_zero, Nat.add_zero, ne_eq, Bool.false_eq_true, eq_self])
      exact zVret () hx hb hr hlocks hK (by show va_P D vwCl (MW ct o (F_need v x1) R) H; rw [e9]; exact hP) (by show va_D A (MW ct o (F_need v x1) R); rw [e9]; exact hD) hS dX11_needs_35 trivial
    · skip
      refine lv_aload_n hx hb dX11_needs_16 rfl (lv_at hl 0 rfl) ?_
      refine lv_aload_n hx hb dX11_needs_17 rfl (lv_at hl 0 rfl) ?_
      refine va_get (ci := 10) (v := .int (nI (m_he v))) hx hb hts h_X11 hown hK hP 0 rfl rfl 14 (by decide) f195 (fun _ h9 => h9) rfl dX11_needs_18 ?_
      refine va_put (ci := 10) (v := .int (nI (m_he v))) (ty := .int) hx hb hts h_X11 tyX11 tyX11_ok nmX11 hown hK hP hD hS 0 rfl rfl 15 (by decide) f198 (fun _ h9 => h9) rfl (by decide +kernel) rfl rfl (Nat.le_of_ble_eq_true rfl) dX11_needs_21 (fun H locs hP hD hS => ?_)
      have hP : va_P D vwCl (MW ct o (m_g v, m_fl v, m_ch v, m_sv v, m_why v, m_det v, m_li v, m_ld v, m_wt v, m_wm v, m_ln v, m_lz v, m_in v, m_ty v, m_he v, nI (m_he v), m_fa v, m_cm v, m_cz v) R) H := hP
      have hD : va_D A (MW ct o (m_g v, m_fl v, m_ch v, m_sv v, m_why v, m_det v, m_li v, m_ld v, m_wt v, m_wm v, m_ln v, m_lz v, m_in v, m_ty v, m_he v, nI (m_he v), m_fa v, m_cm v, m_cz v) R) := hD
      have e9 : F_need v x1 = (m_g v, m_fl v, m_ch v, m_sv v, m_why v, m_det v, m_li v, m_ld v, m_wt v, m_wm v, m_ln v, m_lz v, m_in v, m_ty v, m_he v, nI (m_he v), m_fa v, m_cm v, m_cz v) := (by simp only [F_need, mHW, c4_1, c13_2, p_in, p_worn, p_wi, p_creak, p_le0, p_lt1, p_rng, pmT, pmC, p_eq0, not_true_eq_false, not_false_eq_true, if_true, if_false, and_true, true_and, and_false, false_and, or_true, true_or, or_false, false_or, and_self, or_self, iff_true, true_iff, iff_false, false_iff, decide_eq_true_eq, decide_true, decide_false, Int32.add_zero, Nat.add_zero, ne_eq, Bool.false_eq_true, eq_self])
      exact zVret () hx hb hr hlocks hK (by show va_P D vwCl (MW ct o (F_need v x1) R) H; rw [e9]; exact hP) (by show va_D A (MW ct o (F_need v x1) R); rw [e9]; exact hD) hS dX11_needs_24 trivial
  · skip
    have e9 : F_need v x1 = v := (by simp only [F_need, mHW, c4_1, p_in, p_worn, p_wi, p_creak, p_le0, p_lt1, p_rng, pmT, pmC, p_eq0, not_true_eq_false, not_false_eq_true, if_true, if_false, and_true, true_and, and_false, false_and, or_true, true_or, or_false, false_or, and_self, or_self, iff_true, true_iff, iff_false, false_iff, decide_eq_true_eq, decide_true, decide_false, Int32.add_zero, Nat.add_zero, ne_eq, Bool.false_eq_true, eq_self])
    exact zVret () hx hb hr hlocks hK (by show va_P D vwCl (MW ct o (F_need v x1) R) H; rw [e9]; exact hP) (by show va_D A (MW ct o (F_need v x1) R); rw [e9]; exact hD) hS dX11_needs_7 trivial
abbrev rmX11_signs_2 : Room := { frames := 2, cells := 0, slots := 0, locals := 41 }
set_option maxHeartbeats 4000000 in
set_option maxRecDepth 100000 in
theorem kX11_signs_2 {D : va_G} {ct : Nat → ClassId} {l : Launch} (o : Nat → Nat) (v : MS) (R : va_W) (a : Nat) (b : Nat) (ho : okP v) (ha : a < 2 ^ 31) (hb9 : b < 2 ^ 31) : MV D ct l yX11_signs wsX11_signs rmX11_signs_2 (MW ct o v R) [.ref (o 0), .int (nI (a)), .int (nI (b)), .int (nI (0))] (fun _ : Unit => True) (fun _ : Unit => MW ct o (F_s2 v (nI (a)) (nI (b))) R) := by
  refine MVof (cc := cX11_signs) (maxL := 4) (ret := none) (by decide) rfl (Nat.le_of_ble_eq_true rfl) ?_
  intro p e s m args below meth c A H locs F hP hK hD hS hA ls hl
  obtain ⟨hx, hb, hr, hlocks, hml, hown, hts, hin⟩ := F
  have hl : lv_has ls 4 [(0, .ref (o 0)), (1, .int (nI (a))), (2, .int (nI (b))), (3, .int (nI (0)))] := hl
  refine lv_aload_n hx hb dX11_signs_0 rfl (lv_at hl 0 rfl) ?_
  refine lv_iload_n hx hb dX11_signs_1 rfl (lv_at hl 1 rfl) ?_
  refine zVV [.int (nI (a))] [] (kX11_needs (o) (v) (R) (nI (a)) (show okP v from ho)) hx hb hml hown hts (cwV 1 hts gX11_signs_X11_needs rfl rfl rfl (by decide +kernel) ⟨(Nat.le_of_ble_eq_true rfl), (Nat.le_of_ble_eq_true rfl)⟩) hK hP hD hS hA (va_recv hK hP (ci := 10) (q0 := 0) rfl rfl) rfl hl.1 rfl (Nat.le_of_ble_eq_true rfl) dX11_signs_2 ⟨(Nat.le_of_ble_eq_true rfl), (Nat.le_of_ble_eq_true rfl)⟩ (fun _ H locs hr_2 hP hD hS => ?_)
  have hP : va_P D vwCl (MW ct o (F_need v (nI (a))) R) H := hP
  have hD : va_D A (MW ct o (F_need v (nI (a))) R) := hD
  refine lv_aload_n hx hb dX11_signs_5 rfl (lv_at hl 0 rfl) ?_
  refine lv_iload_n hx hb dX11_signs_6 rfl (lv_at hl 2 rfl) ?_
  refine zVV [.int (nI (b))] [] (kX11_needs (o) ((F_need v (nI (a)))) (R) (nI (b)) (show okP (F_need v (nI (a))) from (need_ok ha ho))) hx hb hml hown hts (cwV 1 hts gX11_signs_X11_needs rfl rfl rfl (by decide +kernel) ⟨(Nat.le_of_ble_eq_true rfl), (Nat.le_of_ble_eq_true rfl)⟩) hK hP hD hS hA (va_recv hK hP (ci := 10) (q0 := 0) rfl rfl) rfl hl.1 rfl (Nat.le_of_ble_eq_true rfl) dX11_signs_7 ⟨(Nat.le_of_ble_eq_true rfl), (Nat.le_of_ble_eq_true rfl)⟩ (fun _ H locs hr_7 hP hD hS => ?_)
  have hP : va_P D vwCl (MW ct o (F_need (F_need v (nI (a))) (nI (b))) R) H := hP
  have hD : va_D A (MW ct o (F_need (F_need v (nI (a))) (nI (b))) R) := hD
  refine lv_iload_n hx hb dX11_signs_10 rfl (lv_at hl 3 rfl) ?_
  refine lv_if_eq (tgt := 19) hx hb dX11_signs_11 (by decide) (fun c9 => ?_) (fun c9 => absurd (by decide) c9)
  have e9 : F_s2 v (nI (a)) (nI (b)) = (F_need (F_need v (nI (a))) (nI (b))) := rfl
  exact zVret () hx hb hr hlocks hK (by show va_P D vwCl (MW ct o (F_s2 v (nI (a)) (nI (b))) R) H; rw [e9]; exact hP) (by show va_D A (MW ct o (F_s2 v (nI (a)) (nI (b))) R); rw [e9]; exact hD) hS dX11_signs_19 trivial
abbrev rmX11_signs_3 : Room := { frames := 2, cells := 0, slots := 0, locals := 41 }
set_option maxHeartbeats 4000000 in
set_option maxRecDepth 100000 in
theorem kX11_signs_3 {D : va_G} {ct : Nat → ClassId} {l : Launch} (o : Nat → Nat) (v : MS) (R : va_W) (a : Nat) (b : Nat) (cc : Nat) (ho : okP v) (ha : a < 2 ^ 31) (hb9 : b < 2 ^ 31) (hc0 : 0 < cc) (hc9 : cc < 2 ^ 31) : MV D ct l yX11_signs wsX11_signs rmX11_signs_3 (MW ct o v R) [.ref (o 0), .int (nI (a)), .int (nI (b)), .int (nI (cc))] (fun _ : Unit => True) (fun _ : Unit => MW ct o (F_s3 v (nI (a)) (nI (b)) (nI (cc))) R) := by
  refine MVof (cc := cX11_signs) (maxL := 4) (ret := none) (by decide) rfl (Nat.le_of_ble_eq_true rfl) ?_
  intro p e s m args below meth c A H locs F hP hK hD hS hA ls hl
  obtain ⟨hx, hb, hr, hlocks, hml, hown, hts, hin⟩ := F
  have hl : lv_has ls 4 [(0, .ref (o 0)), (1, .int (nI (a))), (2, .int (nI (b))), (3, .int (nI (cc)))] := hl
  refine lv_aload_n hx hb dX11_signs_0 rfl (lv_at hl 0 rfl) ?_
  refine lv_iload_n hx hb dX11_signs_1 rfl (lv_at hl 1 rfl) ?_
  refine zVV [.int (nI (a))] [] (kX11_needs (o) (v) (R) (nI (a)) (show okP v from ho)) hx hb hml hown hts (cwV 1 hts gX11_signs_X11_needs rfl rfl rfl (by decide +kernel) ⟨(Nat.le_of_ble_eq_true rfl), (Nat.le_of_ble_eq_true rfl)⟩) hK hP hD hS hA (va_recv hK hP (ci := 10) (q0 := 0) rfl rfl) rfl hl.1 rfl (Nat.le_of_ble_eq_true rfl) dX11_signs_2 ⟨(Nat.le_of_ble_eq_true rfl), (Nat.le_of_ble_eq_true rfl)⟩ (fun _ H locs hr_2 hP hD hS => ?_)
  have hP : va_P D vwCl (MW ct o (F_need v (nI (a))) R) H := hP
  have hD : va_D A (MW ct o (F_need v (nI (a))) R) := hD
  refine lv_aload_n hx hb dX11_signs_5 rfl (lv_at hl 0 rfl) ?_
  refine lv_iload_n hx hb dX11_signs_6 rfl (lv_at hl 2 rfl) ?_
  refine zVV [.int (nI (b))] [] (kX11_needs (o) ((F_need v (nI (a)))) (R) (nI (b)) (show okP (F_need v (nI (a))) from (need_ok ha ho))) hx hb hml hown hts (cwV 1 hts gX11_signs_X11_needs rfl rfl rfl (by decide +kernel) ⟨(Nat.le_of_ble_eq_true rfl), (Nat.le_of_ble_eq_true rfl)⟩) hK hP hD hS hA (va_recv hK hP (ci := 10) (q0 := 0) rfl rfl) rfl hl.1 rfl (Nat.le_of_ble_eq_true rfl) dX11_signs_7 ⟨(Nat.le_of_ble_eq_true rfl), (Nat.le_of_ble_eq_true rfl)⟩ (fun _ H locs hr_7 hP hD hS => ?_)
  have hP : va_P D vwCl (MW ct o (F_need (F_need v (nI (a))) (nI (b))) R) H := hP
  have hD : va_D A (MW ct o (F_need (F_need v (nI (a))) (nI (b))) R) := hD
  refine lv_iload_n hx hb dX11_signs_10 rfl (lv_at hl 3 rfl) ?_
  refine zN_if_eq (tgt := 19) hx hb (by omega) dX11_signs_11 (by decide) (fun c11_1 => ?_) (fun c11_1 => ?_)
  · skip
    exact absurd c11_1 (by omega)
  · skip
    refine lv_aload_n hx hb dX11_signs_14 rfl (lv_at hl 0 rfl) ?_
    refine lv_iload_n hx hb dX11_signs_15 rfl (lv_at hl 3 rfl) ?_
    refine zVV [.int (nI (cc))] [] (kX11_needs (o) ((F_need (F_need v (nI (a))) (nI (b)))) (R) (nI (cc)) (show okP (F_need (F_need v (nI (a))) (nI (b))) from (need_ok hb9 (need_ok ha ho)))) hx hb hml hown hts (cwV 1 hts gX11_signs_X11_needs rfl rfl rfl (by decide +kernel) ⟨(Nat.le_of_ble_eq_true rfl), (Nat.le_of_ble_eq_true rfl)⟩) hK hP hD hS hA (va_recv hK hP (ci := 10) (q0 := 0) rfl rfl) rfl hl.1 rfl (Nat.le_of_ble_eq_true rfl) dX11_signs_16 ⟨(Nat.le_of_ble_eq_true rfl), (Nat.le_of_ble_eq_true rfl)⟩ (fun _ H locs hr_16 hP hD hS => ?_)
    have hP : va_P D vwCl (MW ct o (F_need (F_need (F_need v (nI (a))) (nI (b))) (nI (cc))) R) H := hP
    have hD : va_D A (MW ct o (F_need (F_need (F_need v (nI (a))) (nI (b))) (nI (cc))) R) := hD
    have e9 : F_s3 v (nI (a)) (nI (b)) (nI (cc)) = (F_need (F_need (F_need v (nI (a))) (nI (b))) (nI (cc))) := rfl
    exact zVret () hx hb hr hlocks hK (by show va_P D vwCl (MW ct o (F_s3 v (nI (a)) (nI (b)) (nI (cc))) R) H; rw [e9]; exact hP) (by show va_D A (MW ct o (F_s3 v (nI (a)) (nI (b)) (nI (cc))) R); rw [e9]; exact hD) hS dX11_signs_19 trivial
abbrev rmX11_number_1 : Room := { frames := 1, cells := 0, slots := 0, locals := 22 }
theorem in_X11_number_1_X11 : ∀ w ∈ u_ws RX11 TX11 19, w ∈ wsX11_number := by decide +kernel
set_option maxHeartbeats 4000000 in
set_option maxRecDepth 100000 in
theorem kX11_number_1 {D : va_G} {ct : Nat → ClassId} {l : Launch} (o : Nat → Nat) (v : MS) (R : va_W)  (ho : okP v) : MI D ct l yX11_number wsX11_number rmX11_number_1 (MW ct o v R) [.ref (o 0), .int (nI (1))] (fun r0 (_ : Unit) => r0 = (F_num1 v).1) (fun _ : Unit => MW ct o (F_num1 v).2 R) := by
  refine MIof (cc := cX11_number) (maxL := 4) (ret := (some .int)) (by decide) rfl (Nat.le_of_ble_eq_true rfl) ?_
  intro p e s m args below meth c A H locs F hP hK hD hS hA ls hl
  obtain ⟨hx, hb, hr, hlocks, hml, hown, hts, hin⟩ := F
  have hl : lv_has ls 4 [(0, .ref (o 0)), (1, .int (nI (1)))] := hl
  have hh0 : m_he v ≤ m_ty v := ho.1
  have ht0 : m_ty v ≤ 60 := ho.2
  have h_X11 := in_X11_number_1_X11
  have f195 := hts (.fieldLink RX11 195 "CartArgumentsModel" "here" "I") (by decide +kernel)
  have f198 := hts (.fieldLink RX11 198 "CartArgumentsModel" "wrongAt" "I") (by decide +kernel)
  refine lv_aload_n hx hb dX11_number_0 rfl (lv_at hl 0 rfl) ?_
  refine va_get (ci := 10) (v := .int (m_wa v)) hx hb hts h_X11 hown hK hP 0 rfl rfl 15 (by decide) f198 (fun _ h9 => h9) rfl dX11_number_1 ?_
  refine lv_if_lt (tgt := 9) hx hb dX11_number_4 (by decide) (fun c4_1 => ?_) (fun c4_1 => ?_)
  · skip
    refine lv_aload_n hx hb dX11_number_9 rfl (lv_at hl 0 rfl) ?_
    refine zVI [] [] (kX11_sign (o) (v) (R) (show m_he v ≤ 60 from by omega) (show m_ty v ≤ 60 from by omega)) hx hb hml hown hts (cwV 0 hts gX11_number_X11_sign rfl rfl rfl (by decide +kernel) ⟨(Nat.le_of_ble_eq_true rfl), (Nat.le_of_ble_eq_true rfl)⟩) hK hP hD hS hA (va_recv hK hP (ci := 10) (q0 := 0) rfl rfl) rfl hl.1 rfl (Nat.le_of_ble_eq_true rfl) dX11_number_10 ⟨(Nat.le_of_ble_eq_true rfl), (Nat.le_of_ble_eq_true rfl)⟩ (fun r_10 _ H locs hr_10 hP hD hS => ?_)
    subst hr_10
    have hP : va_P D vwCl (MW ct o v R) H := hP
    have hD : va_D A (MW ct o v R) := hD
    refine lv_bipush (v := nI (48)) hx hb dX11_number_13 (by decide) ?_
    refine lv_bipush (v := nI (57)) hx hb dX11_number_15 (by decide) ?_
    refine zSI [.int ((sg (m_in v) (m_ty v) (m_he v))), .int (nI (48)), .int (nI (57))] [] (kX11_in (MW ct o v R) ((sg (m_in v) (m_ty v) (m_he v))) (nI (48)) (nI (57))) hx hb hml hown hts (va_cwS 3 hts gX11_number_X11_in rfl rfl rfl (by decide +kernel) ⟨(Nat.le_of_ble_eq_true rfl), (Nat.le_of_ble_eq_true rfl)⟩) hK hP hD hS hA rfl hl.1 rfl (Nat.le_of_ble_eq_true rfl) dX11_number_17 ⟨(Nat.le_of_ble_eq_true rfl), (Nat.le_of_ble_eq_true rfl)⟩ (fun r_17 _ H locs hr_17 hP hD hS => ?_)
    subst hr_17
    have hP : va_P D vwCl (MW ct o v R) H := hP
    have hD : va_D A (MW ct o v R) := hD
    refine zB_if_ne (tgt := 33) hx hb dX11_number_20 (by decide) (fun c20_2 => ?_) (fun c20_2 => ?_)
    · skip
      have hlt3 := sg_lt c20_2
      refine lv_iconst (v := nI (0)) hx hb dX11_number_33 (by decide) ?_
      refine lv_istore_n (lv' := [(2, .int (nI (0))), (0, .ref (o 0)), (1, .int (nI (1)))]) hx hb dX11_number_34 rfl hl (by decide) rfl (fun ls hl => ?_)
      refine lv_iconst (v := nI (0)) hx hb dX11_number_35 (by decide) ?_
      refine lv_istore_n (lv' := [(3, .int (nI (0))), (2, .int (nI (0))), (0, .ref (o 0)), (1, .int (nI (1)))]) hx hb dX11_number_36 rfl hl (by decide) rfl (fun ls hl => ?_)
      refine lv_iload_n hx hb dX11_number_37 rfl (lv_at hl 0 rfl) ?_
      refine lv_iload_n hx hb dX11_number_38 rfl (lv_at hl 3 rfl) ?_
      refine lv_icmp_ge (tgt := 85) hx hb dX11_number_39 (by decide) (fun c9 => absurd c9 (by decide)) (fun c9 => ?_)
      refine lv_aload_n hx hb dX11_number_42 rfl (lv_at hl 2 rfl) ?_
      refine zVI [] [] (kX11_sign (o) (v) (R) (show m_he v ≤ 60 from by omega) (show m_ty v ≤ 60 from by omega)) hx hb hml hown hts (cwV 0 hts gX11_number_X11_sign rfl rfl rfl (by decide +kernel) ⟨(Nat.le_of_ble_eq_true rfl), (Nat.le_of_ble_eq_true rfl)⟩) hK hP hD hS hA (va_recv hK hP (ci := 10) (q0 := 0) rfl rfl) rfl hl.1 rfl (Nat.le_of_ble_eq_true rfl) dX11_number_43 ⟨(Nat.le_of_ble_eq_true rfl), (Nat.le_of_ble_eq_true rfl)⟩ (fun r_43 _ H locs hr_43 hP hD hS => ?_)
      subst hr_43
      have hP : va_P D vwCl (MW ct o v R) H := hP
      have hD : va_D A (MW ct o v R) := hD
      refine lv_bipush (v := nI (48)) hx hb dX11_number_46 (by decide) ?_
      refine lv_bipush (v := nI (57)) hx hb dX11_number_48 (by decide) ?_
      refine zSI [.int ((sg (m_in v) (m_ty v) (m_he v))), .int (nI (48)), .int (nI (57))] [] (kX11_in (MW ct o v R) ((sg (m_in v) (m_ty v) (m_he v))) (nI (48)) (nI (57))) hx hb hml hown hts (va_cwS 3 hts gX11_number_X11_in rfl rfl rfl (by decide +kernel) ⟨(Nat.le_of_ble_eq_true rfl), (Nat.le_of_ble_eq_true rfl)⟩) hK hP hD hS hA rfl hl.1 rfl (Nat.le_of_ble_eq_true rfl) dX11_number_50 ⟨(Nat.le_of_ble_eq_true rfl), (Nat.le_of_ble_eq_true rfl)⟩ (fun r_50 _ H locs hr_50 hP hD hS => ?_)
      subst hr_50
      have hP : va_P D vwCl (MW ct o v R) H := hP
      have hD : va_D A (MW ct o v R) := hD
      refine zB_if_eq (tgt := 85) hx hb dX11_number_53 (by decide) (fun c53_5 => ?_) (fun c53_5 => ?_)
      · skip
        exact absurd c20_2 c53_5
      · skip
        have hlt6 := sg_lt c53_5
        refine lv_bipush (v := nI (10)) hx hb dX11_number_56 (by decide) ?_
        refine lv_iload_n hx hb dX11_number_58 rfl (lv_at hl 1 rfl) ?_
        refine zNmul hx hb dX11_number_59 ?_
        refine lv_aload_n hx hb dX11_number_60 rfl (lv_at hl 2 rfl) ?_
        refine zVI [] [.int (nI ((10 * 0)))] (kX11_sign (o) (v) (R) (show m_he v ≤ 60 from by omega) (show m_ty v ≤ 60 from by omega)) hx hb hml hown hts (cwV 0 hts gX11_number_X11_sign rfl rfl rfl (by decide +kernel) ⟨(Nat.le_of_ble_eq_true rfl), (Nat.le_of_ble_eq_true rfl)⟩) hK hP hD hS hA (va_recv hK hP (ci := 10) (q0 := 0) rfl rfl) rfl hl.1 rfl (Nat.le_of_ble_eq_true rfl) dX11_number_61 ⟨(Nat.le_of_ble_eq_true rfl), (Nat.le_of_ble_eq_true rfl)⟩ (fun r_61 _ H locs hr_61 hP hD hS => ?_)
        subst hr_61
        have hP : va_P D vwCl (MW ct o v R) H := hP
        have hD : va_D A (MW ct o v R) := hD
        refine lv_iadd hx hb dX11_number_64 ?_
        refine lv_bipush (v := nI (48)) hx hb dX11_number_65 (by decide) ?_
        refine lv_isub hx hb dX11_number_67 ?_
        refine lv_istore_n (lv' := [(2, .int (((nI ((10 * 0)) + (sg (m_in v) (m_ty v) (m_he v))) - nI (48)))), (3, .int (nI (0))), (0, .ref (o 0)), (1, .int (nI (1)))]) hx hb dX11_number_68 rfl hl (by decide) rfl (fun ls hl => ?_)
        refine lv_aload_n hx hb dX11_number_69 rfl (lv_at hl 2 rfl) ?_
        refine lv_dup hx hb dX11_number_70 rfl ?_
        refine va_get (ci := 10) (v := .int (nI (m_he v))) hx hb hts h_X11 hown hK hP 0 rfl rfl 14 (by decide) f195 (fun _ h9 => h9) rfl dX11_number_71 ?_
        refine lv_iconst (v := nI (1)) hx hb dX11_number_74 (by decide) ?_
        refine zNadd hx hb dX11_number_75 ?_
        refine va_put (ci := 10) (v := .int (nI ((m_he v + 1)))) (ty := .int) hx hb hts h_X11 tyX11 tyX11_ok nmX11 hown hK hP hD hS 0 rfl rfl 14 (by decide) f195 (fun _ h9 => h9) rfl (by decide +kernel) rfl rfl (Nat.le_of_ble_eq_true rfl) dX11_number_76 (fun H locs hP hD hS => ?_)
        have hP : va_P D vwCl (MW ct o (m_g v, m_fl v, m_ch v, m_sv v, m_why v, m_det v, m_li v, m_ld v, m_wt v, m_wm v, m_ln v, m_lz v, m_in v, m_ty v, (m_he v + 1), m_wa v, m_fa v, m_cm v, m_cz v) R) H := hP
        have hD : va_D A (MW ct o (m_g v, m_fl v, m_ch v, m_sv v, m_why v, m_det v, m_li v, m_ld v, m_wt v, m_wm v, m_ln v, m_lz v, m_in v, m_ty v, (m_he v + 1), m_wa v, m_fa v, m_cm v, m_cz v) R) := hD
        refine lv_iinc (v := nI (1)) (lv' := [(3, .int (nI (1))), (2, .int (((nI ((10 * 0)) + (sg (m_in v) (m_ty v) (m_he v))) - nI (48)))), (0, .ref (o 0)), (1, .int (nI (1)))]) hx hb dX11_number_79 hl (k := 1) rfl (zInc _) (by decide) rfl (fun ls hl => ?_)
        refine lv_goto (tgt := 37) hx hb dX11_number_82 (by decide) ?_
        refine lv_iload_n hx hb dX11_number_37 rfl (lv_at hl 0 rfl) ?_
        refine lv_iload_n hx hb dX11_number_38 rfl (lv_at hl 3 rfl) ?_
        refine lv_icmp_ge (tgt := 85) hx hb dX11_number_39 (by decide) (fun c9 => ?_) (fun c9 => absurd (by decide) c9)
        refine lv_iload_n hx hb dX11_number_85 rfl (lv_at hl 1 rfl) ?_
        have e9 : F_num1 v = (((nI ((10 * 0)) + (sg (m_in v) (m_ty v) (m_he v))) - nI (48)), (m_g v, m_fl v, m_ch v, m_sv v, m_why v, m_det v, m_li v, m_ld v, m_wt v, m_wm v, m_ln v, m_lz v, m_in v, m_ty v, (m_he v + 1), m_wa v, m_fa v, m_cm v, m_cz v)) := (by simp only [F_num1, mHW, dgP, sgH, c4_1, c20_2, c53_5, p_in, p_worn, p_wi, p_creak, p_le0, p_lt1, p_rng, pmT, pmC, p_eq0, not_true_eq_false, not_false_eq_true, if_true, if_false, and_true, true_and, and_false, false_and, or_true, true_or, or_false, false_or, and_self, or_self, iff_true, true_iff, iff_false, false_iff, decide_eq_true_eq, decide_true, decide_false, Int32.add_zero, Nat.add_zero, ne_eq, Bool.false_eq_true, eq_self])
        exact zIret () hx hb hr hlocks hK (by show va_P D vwCl (MW ct o (F_num1 v).2 R) H; rw [e9]; exact hP) (by show va_D A (MW ct o (F_num1 v).2 R); rw [e9]; exact hD) hS dX11_number_86 (show ((nI ((10 * 0)) + (sg (m_in v) (m_ty v) (m_he v))) - nI (48)) = (F_num1 v).1 from (by rw [e9]))
    · skip
      refine lv_aload_n hx hb dX11_number_23 rfl (lv_at hl 0 rfl) ?_
      refine lv_aload_n hx hb dX11_number_24 rfl (lv_at hl 0 rfl) ?_
      refine va_get (ci := 10) (v := .int (nI (m_he v))) hx hb hts h_X11 hown hK hP 0 rfl rfl 14 (by decide) f195 (fun _ h9 => h9) rfl dX11_number_25 ?_
      refine va_put (ci := 10) (v := .int (nI (m_he v))) (ty := .int) hx hb hts h_X11 tyX11 tyX11_ok nmX11 hown hK hP hD hS 0 rfl rfl 15 (by decide) f198 (fun _ h9 => h9) rfl (by decide +kernel) rfl rfl (Nat.le_of_ble_eq_true rfl) dX11_number_28 (fun H locs hP hD hS => ?_)
      have hP : va_P D vwCl (MW ct o (m_g v, m_fl v, m_ch v, m_sv v, m_why v, m_det v, m_li v, m_ld v, m_wt v, m_wm v, m_ln v, m_lz v, m_in v, m_ty v, m_he v, nI (m_he v), m_fa v, m_cm v, m_cz v) R) H := hP
      have hD : va_D A (MW ct o (m_g v, m_fl v, m_ch v, m_sv v, m_why v, m_det v, m_li v, m_ld v, m_wt v, m_wm v, m_ln v, m_lz v, m_in v, m_ty v, m_he v, nI (m_he v), m_fa v, m_cm v, m_cz v) R) := hD
      refine lv_iconst (v := nI (0)) hx hb dX11_number_31 (by decide) ?_
      have e9 : F_num1 v = (nI (0), (m_g v, m_fl v, m_ch v, m_sv v, m_why v, m_det v, m_li v, m_ld v, m_wt v, m_wm v, m_ln v, m_lz v, m_in v, m_ty v, m_he v, nI (m_he v), m_fa v, m_cm v, m_cz v)) := (by simp only [F_num1, mHW, dgP, sgH, c4_1, c20_2, p_in, p_worn, p_wi, p_creak, p_le0, p_lt1, p_rng, pmT, pmC, p_eq0, not_true_eq_false, not_false_eq_true, if_true, if_false, and_true, true_and, and_false, false_and, or_true, true_or, or_false, false_or, and_self, or_self, iff_true, true_iff, iff_false, false_iff, decide_eq_true_eq, decide_true, decide_false, Int32.add_zero, Nat.add_zero, ne_eq, Bool.false_eq_true, eq_self])
      exact zIret () hx hb hr hlocks hK (by show va_P D vwCl (MW ct o (F_num1 v).2 R) H; rw [e9]; exact hP) (by show va_D A (MW ct o (F_num1 v).2 R); rw [e9]; exact hD) hS dX11_number_32 (show nI (0) = (F_num1 v).1 from (by rw [e9]))
  · skip
    refine lv_iconst (v := nI (0)) hx hb dX11_number_7 (by decide) ?_
    have e9 : F_num1 v = (nI (0), v) := (by simp only [F_num1, mHW, dgP, sgH, c4_1, p_in, p_worn, p_wi, p_creak, p_le0, p_lt1, p_rng, pmT, pmC, p_eq0, not_true_eq_false, not_false_eq_true, if_true, if_false, and_true, true_and, and_false, false_and, or_true, true_or, or_false, false_or, and_self, or_self, iff_true, true_iff, iff_false, false_iff, decide_eq_true_eq, decide_true, decide_false, Int32.add_zero, Nat.add_zero, ne_eq, Bool.false_eq_true, eq_self])
    exact zIret () hx hb hr hlocks hK (by show va_P D vwCl (MW ct o (F_num1 v).2 R) H; rw [e9]; exact hP) (by show va_D A (MW ct o (F_num1 v).2 R); rw [e9]; exact hD) hS dX11_number_8 (show nI (0) = (F_num1 v).1 from (by rw [e9]))
abbrev rmX11_number_2 : Room := { frames := 1, cells := 0, slots := 0, locals := 22 }
theorem in_X11_number_2_X11 : ∀ w ∈ u_ws RX11 TX11 19, w ∈ wsX11_number := by decide +kernel
set_option maxHeartbeats 4000000 in
set_option maxRecDepth 100000 in
theorem kX11_number_2 {D : va_G} {ct : Nat → ClassId} {l : Launch} (o : Nat → Nat) (v : MS) (R : va_W)  (ho : okP v) : MI D ct l yX11_number wsX11_number rmX11_number_2 (MW ct o v R) [.ref (o 0), .int (nI (2))] (fun r0 (_ : Unit) => r0 = (F_num2 v).1) (fun _ : Unit => MW ct o (F_num2 v).2 R) := by
  refine MIof (cc := cX11_number) (maxL := 4) (ret := (some .int)) (by decide) rfl (Nat.le_of_ble_eq_true rfl) ?_
  intro p e s m args below meth c A H locs F hP hK hD hS hA ls hl
  obtain ⟨hx, hb, hr, hlocks, hml, hown, hts, hin⟩ := F
  have hl : lv_has ls 4 [(0, .ref (o 0)), (1, .int (nI (2)))] := hl
  have hh0 : m_he v ≤ m_ty v := ho.1
  have ht0 : m_ty v ≤ 60 := ho.2
  have h_X11 := in_X11_number_2_X11
  have f195 := hts (.fieldLink RX11 195 "CartArgumentsModel" "here" "I") (by decide +kernel)
  have f198 := hts (.fieldLink RX11 198 "CartArgumentsModel" "wrongAt" "I") (by decide +kernel)
  refine lv_aload_n hx hb dX11_number_0 rfl (lv_at hl 0 rfl) ?_
  refine va_get (ci := 10) (v := .int (m_wa v)) hx hb hts h_X11 hown hK hP 0 rfl rfl 15 (by decide) f198 (fun _ h9 => h9) rfl dX11_number_1 ?_
  refine lv_if_lt (tgt := 9) hx hb dX11_number_4 (by decide) (fun c4_1 => ?_) (fun c4_1 => ?_)
  · skip
    refine lv_aload_n hx hb dX11_number_9 rfl (lv_at hl 0 rfl) ?_
    refine zVI [] [] (kX11_sign (o) (v) (R) (show m_he v ≤ 60 from by omega) (show m_ty v ≤ 60 from by omega)) hx hb hml hown hts (cwV 0 hts gX11_number_X11_sign rfl rfl rfl (by decide +kernel) ⟨(Nat.le_of_ble_eq_true rfl), (Nat.le_of_ble_eq_true rfl)⟩) hK hP hD hS hA (va_recv hK hP (ci := 10) (q0 := 0) rfl rfl) rfl hl.1 rfl (Nat.le_of_ble_eq_true rfl) dX11_number_10 ⟨(Nat.le_of_ble_eq_true rfl), (Nat.le_of_ble_eq_true rfl)⟩ (fun r_10 _ H locs hr_10 hP hD hS => ?_)
    subst hr_10
    have hP : va_P D vwCl (MW ct o v R) H := hP
    have hD : va_D A (MW ct o v R) := hD
    refine lv_bipush (v := nI (48)) hx hb dX11_number_13 (by decide) ?_
    refine lv_bipush (v := nI (57)) hx hb dX11_number_15 (by decide) ?_
    refine zSI [.int ((sg (m_in v) (m_ty v) (m_he v))), .int (nI (48)), .int (nI (57))] [] (kX11_in (MW ct o v R) ((sg (m_in v) (m_ty v) (m_he v))) (nI (48)) (nI (57))) hx hb hml hown hts (va_cwS 3 hts gX11_number_X11_in rfl rfl rfl (by decide +kernel) ⟨(Nat.le_of_ble_eq_true rfl), (Nat.le_of_ble_eq_true rfl)⟩) hK hP hD hS hA rfl hl.1 rfl (Nat.le_of_ble_eq_true rfl) dX11_number_17 ⟨(Nat.le_of_ble_eq_true rfl), (Nat.le_of_ble_eq_true rfl)⟩ (fun r_17 _ H locs hr_17 hP hD hS => ?_)
    subst hr_17
    have hP : va_P D vwCl (MW ct o v R) H := hP
    have hD : va_D A (MW ct o v R) := hD
    refine zB_if_ne (tgt := 33) hx hb dX11_number_20 (by decide) (fun c20_2 => ?_) (fun c20_2 => ?_)
    · skip
      have hlt3 := sg_lt c20_2
      refine lv_iconst (v := nI (0)) hx hb dX11_number_33 (by decide) ?_
      refine lv_istore_n (lv' := [(2, .int (nI (0))), (0, .ref (o 0)), (1, .int (nI (2)))]) hx hb dX11_number_34 rfl hl (by decide) rfl (fun ls hl => ?_)
      refine lv_iconst (v := nI (0)) hx hb dX11_number_35 (by decide) ?_
      refine lv_istore_n (lv' := [(3, .int (nI (0))), (2, .int (nI (0))), (0, .ref (o 0)), (1, .int (nI (2)))]) hx hb dX11_number_36 rfl hl (by decide) rfl (fun ls hl => ?_)
      refine lv_iload_n hx hb dX11_number_37 rfl (lv_at hl 0 rfl) ?_
      refine lv_iload_n hx hb dX11_number_38 rfl (lv_at hl 3 rfl) ?_
      refine lv_icmp_ge (tgt := 85) hx hb dX11_number_39 (by decide) (fun c9 => absurd c9 (by decide)) (fun c9 => ?_)
      refine lv_aload_n hx hb dX11_number_42 rfl (lv_at hl 2 rfl) ?_
      refine zVI [] [] (kX11_sign (o) (v) (R) (show m_he v ≤ 60 from by omega) (show m_ty v ≤ 60 from by omega)) hx hb hml hown hts (cwV 0 hts gX11_number_X11_sign rfl rfl rfl (by decide +kernel) ⟨(Nat.le_of_ble_eq_true rfl), (Nat.le_of_ble_eq_true rfl)⟩) hK hP hD hS hA (va_recv hK hP (ci := 10) (q0 := 0) rfl rfl) rfl hl.1 rfl (Nat.le_of_ble_eq_true rfl) dX11_number_43 ⟨(Nat.le_of_ble_eq_true rfl), (Nat.le_of_ble_eq_true rfl)⟩ (fun r_43 _ H locs hr_43 hP hD hS => ?_)
      subst hr_43
      have hP : va_P D vwCl (MW ct o v R) H := hP
      have hD : va_D A (MW ct o v R) := hD
      refine lv_bipush (v := nI (48)) hx hb dX11_number_46 (by decide) ?_
      refine lv_bipush (v := nI (57)) hx hb dX11_number_48 (by decide) ?_
      refine zSI [.int ((sg (m_in v) (m_ty v) (m_he v))), .int (nI (48)), .int (nI (57))] [] (kX11_in (MW ct o v R) ((sg (m_in v) (m_ty v) (m_he v))) (nI (48)) (nI (57))) hx hb hml hown hts (va_cwS 3 hts gX11_number_X11_in rfl rfl rfl (by decide +kernel) ⟨(Nat.le_of_ble_eq_true rfl), (Nat.le_of_ble_eq_true rfl)⟩) hK hP hD hS hA rfl hl.1 rfl (Nat.le_of_ble_eq_true rfl) dX11_number_50 ⟨(Nat.le_of_ble_eq_true rfl), (Nat.le_of_ble_eq_true rfl)⟩ (fun r_50 _ H locs hr_50 hP hD hS => ?_)
      subst hr_50
      have hP : va_P D vwCl (MW ct o v R) H := hP
      have hD : va_D A (MW ct o v R) := hD
      refine zB_if_eq (tgt := 85) hx hb dX11_number_53 (by decide) (fun c53_5 => ?_) (fun c53_5 => ?_)
      · skip
        exact absurd c20_2 c53_5
      · skip
        have hlt6 := sg_lt c53_5
        refine lv_bipush (v := nI (10)) hx hb dX11_number_56 (by decide) ?_
        refine lv_iload_n hx hb dX11_number_58 rfl (lv_at hl 1 rfl) ?_
        refine zNmul hx hb dX11_number_59 ?_
        refine lv_aload_n hx hb dX11_number_60 rfl (lv_at hl 2 rfl) ?_
        refine zVI [] [.int (nI ((10 * 0)))] (kX11_sign (o) (v) (R) (show m_he v ≤ 60 from by omega) (show m_ty v ≤ 60 from by omega)) hx hb hml hown hts (cwV 0 hts gX11_number_X11_sign rfl rfl rfl (by decide +kernel) ⟨(Nat.le_of_ble_eq_true rfl), (Nat.le_of_ble_eq_true rfl)⟩) hK hP hD hS hA (va_recv hK hP (ci := 10) (q0 := 0) rfl rfl) rfl hl.1 rfl (Nat.le_of_ble_eq_true rfl) dX11_number_61 ⟨(Nat.le_of_ble_eq_true rfl), (Nat.le_of_ble_eq_true rfl)⟩ (fun r_61 _ H locs hr_61 hP hD hS => ?_)
        subst hr_61
        have hP : va_P D vwCl (MW ct o v R) H := hP
        have hD : va_D A (MW ct o v R) := hD
        refine lv_iadd hx hb dX11_number_64 ?_
        refine lv_bipush (v := nI (48)) hx hb dX11_number_65 (by decide) ?_
        refine lv_isub hx hb dX11_number_67 ?_
        refine lv_istore_n (lv' := [(2, .int (((nI ((10 * 0)) + (sg (m_in v) (m_ty v) (m_he v))) - nI (48)))), (3, .int (nI (0))), (0, .ref (o 0)), (1, .int (nI (2)))]) hx hb dX11_number_68 rfl hl (by decide) rfl (fun ls hl => ?_)
        refine lv_aload_n hx hb dX11_number_69 rfl (lv_at hl 2 rfl) ?_
        refine lv_dup hx hb dX11_number_70 rfl ?_
        refine va_get (ci := 10) (v := .int (nI (m_he v))) hx hb hts h_X11 hown hK hP 0 rfl rfl 14 (by decide) f195 (fun _ h9 => h9) rfl dX11_number_71 ?_
        refine lv_iconst (v := nI (1)) hx hb dX11_number_74 (by decide) ?_
        refine zNadd hx hb dX11_number_75 ?_
        refine va_put (ci := 10) (v := .int (nI ((m_he v + 1)))) (ty := .int) hx hb hts h_X11 tyX11 tyX11_ok nmX11 hown hK hP hD hS 0 rfl rfl 14 (by decide) f195 (fun _ h9 => h9) rfl (by decide +kernel) rfl rfl (Nat.le_of_ble_eq_true rfl) dX11_number_76 (fun H locs hP hD hS => ?_)
        have hP : va_P D vwCl (MW ct o (m_g v, m_fl v, m_ch v, m_sv v, m_why v, m_det v, m_li v, m_ld v, m_wt v, m_wm v, m_ln v, m_lz v, m_in v, m_ty v, (m_he v + 1), m_wa v, m_fa v, m_cm v, m_cz v) R) H := hP
        have hD : va_D A (MW ct o (m_g v, m_fl v, m_ch v, m_sv v, m_why v, m_det v, m_li v, m_ld v, m_wt v, m_wm v, m_ln v, m_lz v, m_in v, m_ty v, (m_he v + 1), m_wa v, m_fa v, m_cm v, m_cz v) R) := hD
        refine lv_iinc (v := nI (1)) (lv' := [(3, .int (nI (1))), (2, .int (((nI ((10 * 0)) + (sg (m_in v) (m_ty v) (m_he v))) - nI (48)))), (0, .ref (o 0)), (1, .int (nI (2)))]) hx hb dX11_number_79 hl (k := 1) rfl (zInc _) (by decide) rfl (fun ls hl => ?_)
        refine lv_goto (tgt := 37) hx hb dX11_number_82 (by decide) ?_
        refine lv_iload_n hx hb dX11_number_37 rfl (lv_at hl 0 rfl) ?_
        refine lv_iload_n hx hb dX11_number_38 rfl (lv_at hl 3 rfl) ?_
        refine lv_icmp_ge (tgt := 85) hx hb dX11_number_39 (by decide) (fun c9 => absurd c9 (by decide)) (fun c9 => ?_)
        refine lv_aload_n hx hb dX11_number_42 rfl (lv_at hl 2 rfl) ?_
        refine zVI [] [] (kX11_sign (o) ((m_g v, m_fl v, m_ch v, m_sv v, m_why v, m_det v, m_li v, m_ld v, m_wt v, m_wm v, m_ln v, m_lz v, m_in v, m_ty v, (m_he v + 1), m_wa v, m_fa v, m_cm v, m_cz v)) (R) (show (m_he v + 1) ≤ 60 from by omega) (show m_ty v ≤ 60 from by omega)) hx hb hml hown hts (cwV 0 hts gX11_number_X11_sign rfl rfl rfl (by decide +kernel) ⟨(Nat.le_of_ble_eq_true rfl), (Nat.le_of_ble_eq_true rfl)⟩) hK hP hD hS hA (va_recv hK hP (ci := 10) (q0 := 0) rfl rfl) rfl hl.1 rfl (Nat.le_of_ble_eq_true rfl) dX11_number_43 ⟨(Nat.le_of_ble_eq_true rfl), (Nat.le_of_ble_eq_true rfl)⟩ (fun r_43 _ H locs hr_43 hP hD hS => ?_)
        subst hr_43
        have hP : va_P D vwCl (MW ct o (m_g v, m_fl v, m_ch v, m_sv v, m_why v, m_det v, m_li v, m_ld v, m_wt v, m_wm v, m_ln v, m_lz v, m_in v, m_ty v, (m_he v + 1), m_wa v, m_fa v, m_cm v, m_cz v) R) H := hP
        have hD : va_D A (MW ct o (m_g v, m_fl v, m_ch v, m_sv v, m_why v, m_det v, m_li v, m_ld v, m_wt v, m_wm v, m_ln v, m_lz v, m_in v, m_ty v, (m_he v + 1), m_wa v, m_fa v, m_cm v, m_cz v) R) := hD
        refine lv_bipush (v := nI (48)) hx hb dX11_number_46 (by decide) ?_
        refine lv_bipush (v := nI (57)) hx hb dX11_number_48 (by decide) ?_
        refine zSI [.int ((sg (m_in v) (m_ty v) ((m_he v + 1)))), .int (nI (48)), .int (nI (57))] [] (kX11_in (MW ct o (m_g v, m_fl v, m_ch v, m_sv v, m_why v, m_det v, m_li v, m_ld v, m_wt v, m_wm v, m_ln v, m_lz v, m_in v, m_ty v, (m_he v + 1), m_wa v, m_fa v, m_cm v, m_cz v) R) ((sg (m_in v) (m_ty v) ((m_he v + 1)))) (nI (48)) (nI (57))) hx hb hml hown hts (va_cwS 3 hts gX11_number_X11_in rfl rfl rfl (by decide +kernel) ⟨(Nat.le_of_ble_eq_true rfl), (Nat.le_of_ble_eq_true rfl)⟩) hK hP hD hS hA rfl hl.1 rfl (Nat.le_of_ble_eq_true rfl) dX11_number_50 ⟨(Nat.le_of_ble_eq_true rfl), (Nat.le_of_ble_eq_true rfl)⟩ (fun r_50 _ H locs hr_50 hP hD hS => ?_)
        subst hr_50
        have hP : va_P D vwCl (MW ct o (m_g v, m_fl v, m_ch v, m_sv v, m_why v, m_det v, m_li v, m_ld v, m_wt v, m_wm v, m_ln v, m_lz v, m_in v, m_ty v, (m_he v + 1), m_wa v, m_fa v, m_cm v, m_cz v) R) H := hP
        have hD : va_D A (MW ct o (m_g v, m_fl v, m_ch v, m_sv v, m_why v, m_det v, m_li v, m_ld v, m_wt v, m_wm v, m_ln v, m_lz v, m_in v, m_ty v, (m_he v + 1), m_wa v, m_fa v, m_cm v, m_cz v) R) := hD
        refine zB_if_eq (tgt := 85) hx hb dX11_number_53 (by decide) (fun c53_8 => ?_) (fun c53_8 => ?_)
        · skip
          refine lv_iload_n hx hb dX11_number_85 rfl (lv_at hl 1 rfl) ?_
          have e9 : F_num2 v = (((nI ((10 * 0)) + (sg (m_in v) (m_ty v) (m_he v))) - nI (48)), (m_g v, m_fl v, m_ch v, m_sv v, m_why v, m_det v, m_li v, m_ld v, m_wt v, m_wm v, m_ln v, m_lz v, m_in v, m_ty v, (m_he v + 1), m_wa v, m_fa v, m_cm v, m_cz v)) := (by simp only [F_num2, mHW, dgP, sgH, c4_1, c20_2, c53_5, c53_8, p_in, p_worn, p_wi, p_creak, p_le0, p_lt1, p_rng, pmT, pmC, p_eq0, not_true_eq_false, not_false_eq_true, if_true, if_false, and_true, true_and, and_false, false_and, or_true, true_or, or_false, false_or, and_self, or_self, iff_true, true_iff, iff_false, false_iff, decide_eq_true_eq, decide_true, decide_false, Int32.add_zero, Nat.add_zero, ne_eq, Bool.false_eq_true, eq_self])
          exact zIret () hx hb hr hlocks hK (by show va_P D vwCl (MW ct o (F_num2 v).2 R) H; rw [e9]; exact hP) (by show va_D A (MW ct o (F_num2 v).2 R); rw [e9]; exact hD) hS dX11_number_86 (show ((nI ((10 * 0)) + (sg (m_in v) (m_ty v) (m_he v))) - nI (48)) = (F_num2 v).1 from (by rw [e9]))
        · skip
          have hlt9 := sg_lt c53_8
          refine lv_bipush (v := nI (10)) hx hb dX11_number_56 (by decide) ?_
          refine lv_iload_n hx hb dX11_number_58 rfl (lv_at hl 1 rfl) ?_
          refine lv_imul hx hb dX11_number_59 ?_
          refine lv_aload_n hx hb dX11_number_60 rfl (lv_at hl 2 rfl) ?_
          refine zVI [] [.int ((nI (10) * ((nI ((10 * 0)) + (sg (m_in v) (m_ty v) (m_he v))) - nI (48))))] (kX11_sign (o) ((m_g v, m_fl v, m_ch v, m_sv v, m_why v, m_det v, m_li v, m_ld v, m_wt v, m_wm v, m_ln v, m_lz v, m_in v, m_ty v, (m_he v + 1), m_wa v, m_fa v, m_cm v, m_cz v)) (R) (show (m_he v + 1) ≤ 60 from by omega) (show m_ty v ≤ 60 from by omega)) hx hb hml hown hts (cwV 0 hts gX11_number_X11_sign rfl rfl rfl (by decide +kernel) ⟨(Nat.le_of_ble_eq_true rfl), (Nat.le_of_ble_eq_true rfl)⟩) hK hP hD hS hA (va_recv hK hP (ci := 10) (q0 := 0) rfl rfl) rfl hl.1 rfl (Nat.le_of_ble_eq_true rfl) dX11_number_61 ⟨(Nat.le_of_ble_eq_true rfl), (Nat.le_of_ble_eq_true rfl)⟩ (fun r_61 _ H locs hr_61 hP hD hS => ?_)
          subst hr_61
          have hP : va_P D vwCl (MW ct o (m_g v, m_fl v, m_ch v, m_sv v, m_why v, m_det v, m_li v, m_ld v, m_wt v, m_wm v, m_ln v, m_lz v, m_in v, m_ty v, (m_he v + 1), m_wa v, m_fa v, m_cm v, m_cz v) R) H := hP
          have hD : va_D A (MW ct o (m_g v, m_fl v, m_ch v, m_sv v, m_why v, m_det v, m_li v, m_ld v, m_wt v, m_wm v, m_ln v, m_lz v, m_in v, m_ty v, (m_he v + 1), m_wa v, m_fa v, m_cm v, m_cz v) R) := hD
          refine lv_iadd hx hb dX11_number_64 ?_
          refine lv_bipush (v := nI (48)) hx hb dX11_number_65 (by decide) ?_
          refine lv_isub hx hb dX11_number_67 ?_
          refine lv_istore_n (lv' := [(2, .int ((((nI (10) * ((nI ((10 * 0)) + (sg (m_in v) (m_ty v) (m_he v))) - nI (48))) + (sg (m_in v) (m_ty v) ((m_he v + 1)))) - nI (48)))), (3, .int (nI (1))), (0, .ref (o 0)), (1, .int (nI (2)))]) hx hb dX11_number_68 rfl hl (by decide) rfl (fun ls hl => ?_)
          refine lv_aload_n hx hb dX11_number_69 rfl (lv_at hl 2 rfl) ?_
          refine lv_dup hx hb dX11_number_70 rfl ?_
          refine va_get (ci := 10) (v := .int (nI ((m_he v + 1)))) hx hb hts h_X11 hown hK hP 0 rfl rfl 14 (by decide) f195 (fun _ h9 => h9) rfl dX11_number_71 ?_
          refine lv_iconst (v := nI (1)) hx hb dX11_number_74 (by decide) ?_
          refine zNadd hx hb dX11_number_75 ?_
          refine va_put (ci := 10) (v := .int (nI (((m_he v + 1) + 1)))) (ty := .int) hx hb hts h_X11 tyX11 tyX11_ok nmX11 hown hK hP hD hS 0 rfl rfl 14 (by decide) f195 (fun _ h9 => h9) rfl (by decide +kernel) rfl rfl (Nat.le_of_ble_eq_true rfl) dX11_number_76 (fun H locs hP hD hS => ?_)
          have hP : va_P D vwCl (MW ct o (m_g v, m_fl v, m_ch v, m_sv v, m_why v, m_det v, m_li v, m_ld v, m_wt v, m_wm v, m_ln v, m_lz v, m_in v, m_ty v, ((m_he v + 1) + 1), m_wa v, m_fa v, m_cm v, m_cz v) R) H := hP
          have hD : va_D A (MW ct o (m_g v, m_fl v, m_ch v, m_sv v, m_why v, m_det v, m_li v, m_ld v, m_wt v, m_wm v, m_ln v, m_lz v, m_in v, m_ty v, ((m_he v + 1) + 1), m_wa v, m_fa v, m_cm v, m_cz v) R) := hD
          refine lv_iinc (v := nI (2)) (lv' := [(3, .int (nI (2))), (2, .int ((((nI (10) * ((nI ((10 * 0)) + (sg (m_in v) (m_ty v) (m_he v))) - nI (48))) + (sg (m_in v) (m_ty v) ((m_he v + 1)))) - nI (48)))), (0, .ref (o 0)), (1, .int (nI (2)))]) hx hb dX11_number_79 hl (k := 1) rfl (zInc _) (by decide) rfl (fun ls hl => ?_)
          refine lv_goto (tgt := 37) hx hb dX11_number_82 (by decide) ?_
          refine lv_iload_n hx hb dX11_number_37 rfl (lv_at hl 0 rfl) ?_
          refine lv_iload_n hx hb dX11_number_38 rfl (lv_at hl 3 rfl) ?_
          refine lv_icmp_ge (tgt := 85) hx hb dX11_number_39 (by decide) (fun c9 => ?_) (fun c9 => absurd (by decide) c9)
          refine lv_iload_n hx hb dX11_number_85 rfl (lv_at hl 1 rfl) ?_
          have e9 : F_num2 v = ((((nI (10) * ((nI ((10 * 0)) + (sg (m_in v) (m_ty v) (m_he v))) - nI (48))) + (sg (m_in v) (m_ty v) ((m_he v + 1)))) - nI (48)), (m_g v, m_fl v, m_ch v, m_sv v, m_why v, m_det v, m_li v, m_ld v, m_wt v, m_wm v, m_ln v, m_lz v, m_in v, m_ty v, ((m_he v + 1) + 1), m_wa v, m_fa v, m_cm v, m_cz v)) := (by simp only [F_num2, mHW, dgP, sgH, c4_1, c20_2, c53_5, c53_8, p_in, p_worn, p_wi, p_creak, p_le0, p_lt1, p_rng, pmT, pmC, p_eq0, not_true_eq_false, not_false_eq_true, if_true, if_false, and_true, true_and, and_false, false_and, or_true, true_or, or_false, false_or, and_self, or_self, iff_true, true_iff, iff_false, false_iff, decide_eq_true_eq, decide_true, decide_false, Int32.add_zero, Nat.add_zero, ne_eq, Bool.false_eq_true, eq_self])
          exact zIret () hx hb hr hlocks hK (by show va_P D vwCl (MW ct o (F_num2 v).2 R) H; rw [e9]; exact hP) (by show va_D A (MW ct o (F_num2 v).2 R); rw [e9]; exact hD) hS dX11_number_86 (show (((nI (10) * ((nI ((10 * 0)) + (sg (m_in v) (m_ty v) (m_he v))) - nI (48))) + (sg (m_in v) (m_ty v) ((m_he v + 1)))) - nI (48)) = (F_num2 v).1 from (by rw [e9]))
    · skip
      refine lv_aload_n hx hb dX11_number_23 rfl (lv_at hl 0 rfl) ?_
      refine lv_aload_n hx hb dX11_number_24 rfl (lv_at hl 0 rfl) ?_
      refine va_get (ci := 10) (v := .int (nI (m_he v))) hx hb hts h_X11 hown hK hP 0 rfl rfl 14 (by decide) f195 (fun _ h9 => h9) rfl dX11_number_25 ?_
      refine va_put (ci := 10) (v := .int (nI (m_he v))) (ty := .int) hx hb hts h_X11 tyX11 tyX11_ok nmX11 hown hK hP hD hS 0 rfl rfl 15 (by decide) f198 (fun _ h9 => h9) rfl (by decide +kernel) rfl rfl (Nat.le_of_ble_eq_true rfl) dX11_number_28 (fun H locs hP hD hS => ?_)
      have hP : va_P D vwCl (MW ct o (m_g v, m_fl v, m_ch v, m_sv v, m_why v, m_det v, m_li v, m_ld v, m_wt v, m_wm v, m_ln v, m_lz v, m_in v, m_ty v, m_he v, nI (m_he v), m_fa v, m_cm v, m_cz v) R) H := hP
      have hD : va_D A (MW ct o (m_g v, m_fl v, m_ch v, m_sv v, m_why v, m_det v, m_li v, m_ld v, m_wt v, m_wm v, m_ln v, m_lz v, m_in v, m_ty v, m_he v, nI (m_he v), m_fa v, m_cm v, m_cz v) R) := hD
      refine lv_iconst (v := nI (0)) hx hb dX11_number_31 (by decide) ?_
      have e9 : F_num2 v = (nI (0), (m_g v, m_fl v, m_ch v, m_sv v, m_why v, m_det v, m_li v, m_ld v, m_wt v, m_wm v, m_ln v, m_lz v, m_in v, m_ty v, m_he v, nI (m_he v), m_fa v, m_cm v, m_cz v)) := (by simp only [F_num2, mHW, dgP, sgH, c4_1, c20_2, p_in, p_worn, p_wi, p_creak, p_le0, p_lt1, p_rng, pmT, pmC, p_eq0, not_true_eq_false, not_false_eq_true, if_true, if_false, and_true, true_and, and_false, false_and, or_true, true_or, or_false, false_or, and_self, or_self, iff_true, true_iff, iff_false, false_iff, decide_eq_true_eq, decide_true, decide_false, Int32.add_zero, Nat.add_zero, ne_eq, Bool.false_eq_true, eq_self])
      exact zIret () hx hb hr hlocks hK (by show va_P D vwCl (MW ct o (F_num2 v).2 R) H; rw [e9]; exact hP) (by show va_D A (MW ct o (F_num2 v).2 R); rw [e9]; exact hD) hS dX11_number_32 (show nI (0) = (F_num2 v).1 from (by rw [e9]))
  · skip
    refine lv_iconst (v := nI (0)) hx hb dX11_number_7 (by decide) ?_
    have e9 : F_num2 v = (nI (0), v) := (by simp only [F_num2, mHW, dgP, sgH, c4_1, p_in, p_worn, p_wi, p_creak, p_le0, p_lt1, p_rng, pmT, pmC, p_eq0, not_true_eq_false, not_false_eq_true, if_true, if_false, and_true, true_and, and_false, false_and, or_true, true_or, or_false, false_or, and_self, or_self, iff_true, true_iff, iff_false, false_iff, decide_eq_true_eq, decide_true, decide_false, Int32.add_zero, Nat.add_zero, ne_eq, Bool.false_eq_true, eq_self])
    exact zIret () hx hb hr hlocks hK (by show va_P D vwCl (MW ct o (F_num2 v).2 R) H; rw [e9]; exact hP) (by show va_D A (MW ct o (F_num2 v).2 R); rw [e9]; exact hD) hS dX11_number_8 (show nI (0) = (F_num2 v).1 from (by rw [e9]))
abbrev rmX11_behind_1 : Room := { frames := 2, cells := 0, slots := 0, locals := 45 }
set_option maxHeartbeats 4000000 in
set_option maxRecDepth 100000 in
theorem kX11_behind_1 {D : va_G} {ct : Nat → ClassId} {l : Launch} (o : Nat → Nat) (v : MS) (R : va_W)  (ho : okP v) : MI D ct l yX11_behind wsX11_behind rmX11_behind_1 (MW ct o v R) [.ref (o 0), .int (nI (1))] (fun r0 (_ : Unit) => r0 = (F_bh1 v).1) (fun _ : Unit => MW ct o (F_bh1 v).2 R) := by
  refine MIof (cc := cX11_behind) (maxL := 2) (ret := (some .int)) (by decide) rfl (Nat.le_of_ble_eq_true rfl) ?_
  intro p e s m args below meth c A H locs F hP hK hD hS hA ls hl
  obtain ⟨hx, hb, hr, hlocks, hml, hown, hts, hin⟩ := F
  have hl : lv_has ls 2 [(0, .ref (o 0)), (1, .int (nI (1)))] := hl
  refine lv_aload_n hx hb dX11_behind_0 rfl (lv_at hl 0 rfl) ?_
  refine lv_bipush (v := nI (32)) hx hb dX11_behind_1 (by decide) ?_
  refine zVV [.int (nI (32))] [] (kX11_needs (o) (v) (R) (nI (32)) (show okP v from ho)) hx hb hml hown hts (cwV 1 hts gX11_behind_X11_needs rfl rfl rfl (by decide +kernel) ⟨(Nat.le_of_ble_eq_true rfl), (Nat.le_of_ble_eq_true rfl)⟩) hK hP hD hS hA (va_recv hK hP (ci := 10) (q0 := 0) rfl rfl) rfl hl.1 rfl (Nat.le_of_ble_eq_true rfl) dX11_behind_3 ⟨(Nat.le_of_ble_eq_true rfl), (Nat.le_of_ble_eq_true rfl)⟩ (fun _ H locs hr_3 hP hD hS => ?_)
  have hP : va_P D vwCl (MW ct o (F_need v (nI (32))) R) H := hP
  have hD : va_D A (MW ct o (F_need v (nI (32))) R) := hD
  refine lv_aload_n hx hb dX11_behind_6 rfl (lv_at hl 0 rfl) ?_
  refine lv_iload_n hx hb dX11_behind_7 rfl (lv_at hl 1 rfl) ?_
  refine zVI [.int (nI (1))] [] (kX11_number_1 (o) ((F_need v (nI (32)))) (R) (show okP (F_need v (nI (32))) from (need_ok (by decide) ho))) hx hb hml hown hts (cwV 1 hts gX11_behind_X11_number rfl rfl rfl (by decide +kernel) ⟨(Nat.le_of_ble_eq_true rfl), (Nat.le_of_ble_eq_true rfl)⟩) hK hP hD hS hA (va_recv hK hP (ci := 10) (q0 := 0) rfl rfl) rfl hl.1 rfl (Nat.le_of_ble_eq_true rfl) dX11_behind_8 ⟨(Nat.le_of_ble_eq_true rfl), (Nat.le_of_ble_eq_true rfl)⟩ (fun r_8 _ H locs hr_8 hP hD hS => ?_)
  subst hr_8
  have hP : va_P D vwCl (MW ct o (F_num1 (F_need v (nI (32)))).2 R) H := hP
  have hD : va_D A (MW ct o (F_num1 (F_need v (nI (32)))).2 R) := hD
  have e9 : F_bh1 v = (((F_num1 (F_need v (nI (32)))).1), (F_num1 (F_need v (nI (32)))).2) := rfl
  exact zIret () hx hb hr hlocks hK (by show va_P D vwCl (MW ct o (F_bh1 v).2 R) H; rw [e9]; exact hP) (by show va_D A (MW ct o (F_bh1 v).2 R); rw [e9]; exact hD) hS dX11_behind_11 (show ((F_num1 (F_need v (nI (32)))).1) = (F_bh1 v).1 from (by rw [e9]))
abbrev rmX11_behind_2 : Room := { frames := 2, cells := 0, slots := 0, locals := 45 }
set_option maxHeartbeats 4000000 in
set_option maxRecDepth 100000 in
theorem kX11_behind_2 {D : va_G} {ct : Nat → ClassId} {l : Launch} (o : Nat → Nat) (v : MS) (R : va_W)  (ho : okP v) : MI D ct l yX11_behind wsX11_behind rmX11_behind_2 (MW ct o v R) [.ref (o 0), .int (nI (2))] (fun r0 (_ : Unit) => r0 = (F_bh2 v).1) (fun _ : Unit => MW ct o (F_bh2 v).2 R) := by
  refine MIof (cc := cX11_behind) (maxL := 2) (ret := (some .int)) (by decide) rfl (Nat.le_of_ble_eq_true rfl) ?_
  intro p e s m args below meth c A H locs F hP hK hD hS hA ls hl
  obtain ⟨hx, hb, hr, hlocks, hml, hown, hts, hin⟩ := F
  have hl : lv_has ls 2 [(0, .ref (o 0)), (1, .int (nI (2)))] := hl
  refine lv_aload_n hx hb dX11_behind_0 rfl (lv_at hl 0 rfl) ?_
  refine lv_bipush (v := nI (32)) hx hb dX11_behind_1 (by decide) ?_
  refine zVV [.int (nI (32))] [] (kX11_needs (o) (v) (R) (nI (32)) (show okP v from ho)) hx hb hml hown hts (cwV 1 hts gX11_behind_X11_needs rfl rfl rfl (by decide +kernel) ⟨(Nat.le_of_ble_eq_true rfl), (Nat.le_of_ble_eq_true rfl)⟩) hK hP hD hS hA (va_recv hK hP (ci := 10) (q0 := 0) rfl rfl) rfl hl.1 rfl (Nat.le_of_ble_eq_true rfl) dX11_behind_3 ⟨(Nat.le_of_ble_eq_true rfl), (Nat.le_of_ble_eq_true rfl)⟩ (fun _ H locs hr_3 hP hD hS => ?_)
  have hP : va_P D vwCl (MW ct o (F_need v (nI (32))) R) H := hP
  have hD : va_D A (MW ct o (F_need v (nI (32))) R) := hD
  refine lv_aload_n hx hb dX11_behind_6 rfl (lv_at hl 0 rfl) ?_
  refine lv_iload_n hx hb dX11_behind_7 rfl (lv_at hl 1 rfl) ?_
  refine zVI [.int (nI (2))] [] (kX11_number_2 (o) ((F_need v (nI (32)))) (R) (show okP (F_need v (nI (32))) from (need_ok (by decide) ho))) hx hb hml hown hts (cwV 1 hts gX11_behind_X11_number rfl rfl rfl (by decide +kernel) ⟨(Nat.le_of_ble_eq_true rfl), (Nat.le_of_ble_eq_true rfl)⟩) hK hP hD hS hA (va_recv hK hP (ci := 10) (q0 := 0) rfl rfl) rfl hl.1 rfl (Nat.le_of_ble_eq_true rfl) dX11_behind_8 ⟨(Nat.le_of_ble_eq_true rfl), (Nat.le_of_ble_eq_true rfl)⟩ (fun r_8 _ H locs hr_8 hP hD hS => ?_)
  subst hr_8
  have hP : va_P D vwCl (MW ct o (F_num2 (F_need v (nI (32)))).2 R) H := hP
  have hD : va_D A (MW ct o (F_num2 (F_need v (nI (32)))).2 R) := hD
  have e9 : F_bh2 v = (((F_num2 (F_need v (nI (32)))).1), (F_num2 (F_need v (nI (32)))).2) := rfl
  exact zIret () hx hb hr hlocks hK (by show va_P D vwCl (MW ct o (F_bh2 v).2 R) H; rw [e9]; exact hP) (by show va_D A (MW ct o (F_bh2 v).2 R); rw [e9]; exact hD) hS dX11_behind_11 (show ((F_num2 (F_need v (nI (32)))).1) = (F_bh2 v).1 from (by rw [e9]))
abbrev rmX11_word_p : Room := { frames := 3, cells := 0, slots := 0, locals := 64 }
set_option maxHeartbeats 4000000 in
set_option maxRecDepth 100000 in
theorem kX11_word_p {D : va_G} {ct : Nat → ClassId} {l : Launch} (o : Nat → Nat) (v : MS) (R : va_W)  (ho : okP v) : MI D ct l yX11_word wsX11_word rmX11_word_p (MW ct o v R) [.ref (o 0), .int (nI (112))] (fun r0 (_ : Unit) => r0 = nI (112)) (fun _ : Unit => MW ct o (W_p v) R) := by
  refine MIof (cc := cX11_word) (maxL := 3) (ret := (some .int)) (by decide) rfl (Nat.le_of_ble_eq_true rfl) ?_
  intro p e s m args below meth c A H locs F hP hK hD hS hA ls hl
  obtain ⟨hx, hb, hr, hlocks, hml, hown, hts, hin⟩ := F
  have hl : lv_has ls 3 [(0, .ref (o 0)), (1, .int (nI (112)))] := hl
  have hh0 : m_he v ≤ m_ty v := ho.1
  have ht0 : m_ty v ≤ 60 := ho.2
  refine lv_aload_n hx hb dX11_word_0 rfl (lv_at hl 0 rfl) ?_
  refine zVI [] [] (kX11_sign (o) (v) (R) (show m_he v ≤ 60 from by omega) (show m_ty v ≤ 60 from by omega)) hx hb hml hown hts (cwV 0 hts gX11_word_X11_sign rfl rfl rfl (by decide +kernel) ⟨(Nat.le_of_ble_eq_true rfl), (Nat.le_of_ble_eq_true rfl)⟩) hK hP hD hS hA (va_recv hK hP (ci := 10) (q0 := 0) rfl rfl) rfl hl.1 rfl (Nat.le_of_ble_eq_true rfl) dX11_word_1 ⟨(Nat.le_of_ble_eq_true rfl), (Nat.le_of_ble_eq_true rfl)⟩ (fun r_1 _ H locs hr_1 hP hD hS => ?_)
  subst hr_1
  have hP : va_P D vwCl (MW ct o v R) H := hP
  have hD : va_D A (MW ct o v R) := hD
  refine lv_istore_n (lv' := [(2, .int ((sg (m_in v) (m_ty v) (m_he v)))), (0, .ref (o 0)), (1, .int (nI (112)))]) hx hb dX11_word_4 rfl hl (by decide) rfl (fun ls hl => ?_)
  refine lv_iload_n hx hb dX11_word_5 rfl (lv_at hl 2 rfl) ?_
  refine lv_tableIn (off := 74) (tgt := 80) hx hb dX11_word_6 (by decide) (by decide) (by rfl) (by decide) ?_
  refine lv_aload_n hx hb dX11_word_80 rfl (lv_at hl 1 rfl) ?_
  refine lv_bipush (v := nI (114)) hx hb dX11_word_81 (by decide) ?_
  refine lv_bipush (v := nI (101)) hx hb dX11_word_83 (by decide) ?_
  refine lv_bipush (v := nI (109)) hx hb dX11_word_85 (by decide) ?_
  refine zVV [.int (nI (114)), .int (nI (101)), .int (nI (109))] [] (kX11_signs_3 (o) (v) (R) (114) (101) (109) (show okP v from ho) (show (114) < 2 ^ 31 from by omega) (show (101) < 2 ^ 31 from by omega) (show 0 < (109) from by omega) (show (109) < 2 ^ 31 from by omega)) hx hb hml hown hts (cwV 3 hts gX11_word_X11_signs rfl rfl rfl (by decide +kernel) ⟨(Nat.le_of_ble_eq_true rfl), (Nat.le_of_ble_eq_true rfl)⟩) hK hP hD hS hA (va_recv hK hP (ci := 10) (q0 := 0) rfl rfl) rfl hl.1 rfl (Nat.le_of_ble_eq_true rfl) dX11_word_87 ⟨(Nat.le_of_ble_eq_true rfl), (Nat.le_of_ble_eq_true rfl)⟩ (fun _ H locs hr_87 hP hD hS => ?_)
  have hP : va_P D vwCl (MW ct o (F_s3 v (nI ((114))) (nI ((101))) (nI ((109)))) R) H := hP
  have hD : va_D A (MW ct o (F_s3 v (nI ((114))) (nI ((101))) (nI ((109)))) R) := hD
  refine lv_aload_n hx hb dX11_word_90 rfl (lv_at hl 1 rfl) ?_
  refine lv_bipush (v := nI (105)) hx hb dX11_word_91 (by decide) ?_
  refine lv_bipush (v := nI (115)) hx hb dX11_word_93 (by decide) ?_
  refine lv_bipush (v := nI (101)) hx hb dX11_word_95 (by decide) ?_
  refine zVV [.int (nI (105)), .int (nI (115)), .int (nI (101))] [] (kX11_signs_3 (o) ((F_s3 v (nI ((114))) (nI ((101))) (nI ((109))))) (R) (105) (115) (101) (show okP (F_s3 v (nI ((114))) (nI ((101))) (nI ((109)))) from (s3_ok (by decide) (by decide) (by decide) ho)) (show (105) < 2 ^ 31 from by omega) (show (115) < 2 ^ 31 from by omega) (show 0 < (101) from by omega) (show (101) < 2 ^ 31 from by omega)) hx hb hml hown hts (cwV 3 hts gX11_word_X11_signs rfl rfl rfl (by decide +kernel) ⟨(Nat.le_of_ble_eq_true rfl), (Nat.le_of_ble_eq_true rfl)⟩) hK hP hD hS hA (va_recv hK hP (ci := 10) (q0 := 0) rfl rfl) rfl hl.1 rfl (Nat.le_of_ble_eq_true rfl) dX11_word_97 ⟨(Nat.le_of_ble_eq_true rfl), (Nat.le_of_ble_eq_true rfl)⟩ (fun _ H locs hr_97 hP hD hS => ?_)
  have hP : va_P D vwCl (MW ct o (F_s3 (F_s3 v (nI ((114))) (nI ((101))) (nI ((109)))) (nI ((105))) (nI ((115))) (nI ((101)))) R) H := hP
  have hD : va_D A (MW ct o (F_s3 (F_s3 v (nI ((114))) (nI ((101))) (nI ((109)))) (nI ((105))) (nI ((115))) (nI ((101)))) R) := hD
  refine lv_bipush (v := nI (112)) hx hb dX11_word_100 (by decide) ?_
  exact zIret () hx hb hr hlocks hK hP hD hS dX11_word_102 (show nI (112) = nI (112) from rfl)
abbrev rmX11_word_r : Room := { frames := 3, cells := 0, slots := 0, locals := 64 }
set_option maxHeartbeats 4000000 in
set_option maxRecDepth 100000 in
theorem kX11_word_r {D : va_G} {ct : Nat → ClassId} {l : Launch} (o : Nat → Nat) (v : MS) (R : va_W)  (ho : okP v) : MI D ct l yX11_word wsX11_word rmX11_word_r (MW ct o v R) [.ref (o 0), .int (nI (114))] (fun r0 (_ : Unit) => r0 = nI (114)) (fun _ : Unit => MW ct o (W_r v) R) := by
  refine MIof (cc := cX11_word) (maxL := 3) (ret := (some .int)) (by decide) rfl (Nat.le_of_ble_eq_true rfl) ?_
  intro p e s m args below meth c A H locs F hP hK hD hS hA ls hl
  obtain ⟨hx, hb, hr, hlocks, hml, hown, hts, hin⟩ := F
  have hl : lv_has ls 3 [(0, .ref (o 0)), (1, .int (nI (114)))] := hl
  have hh0 : m_he v ≤ m_ty v := ho.1
  have ht0 : m_ty v ≤ 60 := ho.2
  refine lv_aload_n hx hb dX11_word_0 rfl (lv_at hl 0 rfl) ?_
  refine zVI [] [] (kX11_sign (o) (v) (R) (show m_he v ≤ 60 from by omega) (show m_ty v ≤ 60 from by omega)) hx hb hml hown hts (cwV 0 hts gX11_word_X11_sign rfl rfl rfl (by decide +kernel) ⟨(Nat.le_of_ble_eq_true rfl), (Nat.le_of_ble_eq_true rfl)⟩) hK hP hD hS hA (va_recv hK hP (ci := 10) (q0 := 0) rfl rfl) rfl hl.1 rfl (Nat.le_of_ble_eq_true rfl) dX11_word_1 ⟨(Nat.le_of_ble_eq_true rfl), (Nat.le_of_ble_eq_true rfl)⟩ (fun r_1 _ H locs hr_1 hP hD hS => ?_)
  subst hr_1
  have hP : va_P D vwCl (MW ct o v R) H := hP
  have hD : va_D A (MW ct o v R) := hD
  refine lv_istore_n (lv' := [(2, .int ((sg (m_in v) (m_ty v) (m_he v)))), (0, .ref (o 0)), (1, .int (nI (114)))]) hx hb dX11_word_4 rfl hl (by decide) rfl (fun ls hl => ?_)
  refine lv_iload_n hx hb dX11_word_5 rfl (lv_at hl 2 rfl) ?_
  refine lv_tableIn (off := 97) (tgt := 103) hx hb dX11_word_6 (by decide) (by decide) (by rfl) (by decide) ?_
  refine lv_aload_n hx hb dX11_word_103 rfl (lv_at hl 1 rfl) ?_
  refine lv_bipush (v := nI (111)) hx hb dX11_word_104 (by decide) ?_
  refine lv_bipush (v := nI (97)) hx hb dX11_word_106 (by decide) ?_
  refine lv_bipush (v := nI (100)) hx hb dX11_word_108 (by decide) ?_
  refine zVV [.int (nI (111)), .int (nI (97)), .int (nI (100))] [] (kX11_signs_3 (o) (v) (R) (111) (97) (100) (show okP v from ho) (show (111) < 2 ^ 31 from by omega) (show (97) < 2 ^ 31 from by omega) (show 0 < (100) from by omega) (show (100) < 2 ^ 31 from by omega)) hx hb hml hown hts (cwV 3 hts gX11_word_X11_signs rfl rfl rfl (by decide +kernel) ⟨(Nat.le_of_ble_eq_true rfl), (Nat.le_of_ble_eq_true rfl)⟩) hK hP hD hS hA (va_recv hK hP (ci := 10) (q0 := 0) rfl rfl) rfl hl.1 rfl (Nat.le_of_ble_eq_true rfl) dX11_word_110 ⟨(Nat.le_of_ble_eq_true rfl), (Nat.le_of_ble_eq_true rfl)⟩ (fun _ H locs hr_110 hP hD hS => ?_)
  have hP : va_P D vwCl (MW ct o (F_s3 v (nI ((111))) (nI ((97))) (nI ((100)))) R) H := hP
  have hD : va_D A (MW ct o (F_s3 v (nI ((111))) (nI ((97))) (nI ((100)))) R) := hD
  refine lv_bipush (v := nI (114)) hx hb dX11_word_113 (by decide) ?_
  exact zIret () hx hb hr hlocks hK hP hD hS dX11_word_115 (show nI (114) = nI (114) from rfl)
abbrev rmX11_word_l : Room := { frames := 3, cells := 0, slots := 0, locals := 64 }
set_option maxHeartbeats 4000000 in
set_option maxRecDepth 100000 in
theorem kX11_word_l {D : va_G} {ct : Nat → ClassId} {l : Launch} (o : Nat → Nat) (v : MS) (R : va_W)  (ho : okP v) : MI D ct l yX11_word wsX11_word rmX11_word_l (MW ct o v R) [.ref (o 0), .int (nI (108))] (fun r0 (_ : Unit) => r0 = nI (108)) (fun _ : Unit => MW ct o (W_r v) R) := by
  refine MIof (cc := cX11_word) (maxL := 3) (ret := (some .int)) (by decide) rfl (Nat.le_of_ble_eq_true rfl) ?_
  intro p e s m args below meth c A H locs F hP hK hD hS hA ls hl
  obtain ⟨hx, hb, hr, hlocks, hml, hown, hts, hin⟩ := F
  have hl : lv_has ls 3 [(0, .ref (o 0)), (1, .int (nI (108)))] := hl
  have hh0 : m_he v ≤ m_ty v := ho.1
  have ht0 : m_ty v ≤ 60 := ho.2
  refine lv_aload_n hx hb dX11_word_0 rfl (lv_at hl 0 rfl) ?_
  refine zVI [] [] (kX11_sign (o) (v) (R) (show m_he v ≤ 60 from by omega) (show m_ty v ≤ 60 from by omega)) hx hb hml hown hts (cwV 0 hts gX11_word_X11_sign rfl rfl rfl (by decide +kernel) ⟨(Nat.le_of_ble_eq_true rfl), (Nat.le_of_ble_eq_true rfl)⟩) hK hP hD hS hA (va_recv hK hP (ci := 10) (q0 := 0) rfl rfl) rfl hl.1 rfl (Nat.le_of_ble_eq_true rfl) dX11_word_1 ⟨(Nat.le_of_ble_eq_true rfl), (Nat.le_of_ble_eq_true rfl)⟩ (fun r_1 _ H locs hr_1 hP hD hS => ?_)
  subst hr_1
  have hP : va_P D vwCl (MW ct o v R) H := hP
  have hD : va_D A (MW ct o v R) := hD
  refine lv_istore_n (lv' := [(2, .int ((sg (m_in v) (m_ty v) (m_he v)))), (0, .ref (o 0)), (1, .int (nI (108)))]) hx hb dX11_word_4 rfl hl (by decide) rfl (fun ls hl => ?_)
  refine lv_iload_n hx hb dX11_word_5 rfl (lv_at hl 2 rfl) ?_
  refine lv_tableIn (off := 110) (tgt := 116) hx hb dX11_word_6 (by decide) (by decide) (by rfl) (by decide) ?_
  refine lv_aload_n hx hb dX11_word_116 rfl (lv_at hl 1 rfl) ?_
  refine lv_bipush (v := nI (111)) hx hb dX11_word_117 (by decide) ?_
  refine lv_bipush (v := nI (97)) hx hb dX11_word_119 (by decide) ?_
  refine lv_bipush (v := nI (100)) hx hb dX11_word_121 (by decide) ?_
  refine zVV [.int (nI (111)), .int (nI (97)), .int (nI (100))] [] (kX11_signs_3 (o) (v) (R) (111) (97) (100) (show okP v from ho) (show (111) < 2 ^ 31 from by omega) (show (97) < 2 ^ 31 from by omega) (show 0 < (100) from by omega) (show (100) < 2 ^ 31 from by omega)) hx hb hml hown hts (cwV 3 hts gX11_word_X11_signs rfl rfl rfl (by decide +kernel) ⟨(Nat.le_of_ble_eq_true rfl), (Nat.le_of_ble_eq_true rfl)⟩) hK hP hD hS hA (va_recv hK hP (ci := 10) (q0 := 0) rfl rfl) rfl hl.1 rfl (Nat.le_of_ble_eq_true rfl) dX11_word_123 ⟨(Nat.le_of_ble_eq_true rfl), (Nat.le_of_ble_eq_true rfl)⟩ (fun _ H locs hr_123 hP hD hS => ?_)
  have hP : va_P D vwCl (MW ct o (F_s3 v (nI ((111))) (nI ((97))) (nI ((100)))) R) H := hP
  have hD : va_D A (MW ct o (F_s3 v (nI ((111))) (nI ((97))) (nI ((100)))) R) := hD
  refine lv_bipush (v := nI (108)) hx hb dX11_word_126 (by decide) ?_
  exact zIret () hx hb hr hlocks hK hP hD hS dX11_word_128 (show nI (108) = nI (108) from rfl)
abbrev rmX11_word_u : Room := { frames := 3, cells := 0, slots := 0, locals := 64 }
set_option maxHeartbeats 4000000 in
set_option maxRecDepth 100000 in
theorem kX11_word_u {D : va_G} {ct : Nat → ClassId} {l : Launch} (o : Nat → Nat) (v : MS) (R : va_W)  (ho : okP v) : MI D ct l yX11_word wsX11_word rmX11_word_u (MW ct o v R) [.ref (o 0), .int (nI (117))] (fun r0 (_ : Unit) => r0 = nI (117)) (fun _ : Unit => MW ct o (W_u v) R) := by
  refine MIof (cc := cX11_word) (maxL := 3) (ret := (some .int)) (by decide) rfl (Nat.le_of_ble_eq_true rfl) ?_
  intro p e s m args below meth c A H locs F hP hK hD hS hA ls hl
  obtain ⟨hx, hb, hr, hlocks, hml, hown, hts, hin⟩ := F
  have hl : lv_has ls 3 [(0, .ref (o 0)), (1, .int (nI (117)))] := hl
  have hh0 : m_he v ≤ m_ty v := ho.1
  have ht0 : m_ty v ≤ 60 := ho.2
  refine lv_aload_n hx hb dX11_word_0 rfl (lv_at hl 0 rfl) ?_
  refine zVI [] [] (kX11_sign (o) (v) (R) (show m_he v ≤ 60 from by omega) (show m_ty v ≤ 60 from by omega)) hx hb hml hown hts (cwV 0 hts gX11_word_X11_sign rfl rfl rfl (by decide +kernel) ⟨(Nat.le_of_ble_eq_true rfl), (Nat.le_of_ble_eq_true rfl)⟩) hK hP hD hS hA (va_recv hK hP (ci := 10) (q0 := 0) rfl rfl) rfl hl.1 rfl (Nat.le_of_ble_eq_true rfl) dX11_word_1 ⟨(Nat.le_of_ble_eq_true rfl), (Nat.le_of_ble_eq_true rfl)⟩ (fun r_1 _ H locs hr_1 hP hD hS => ?_)
  subst hr_1
  have hP : va_P D vwCl (MW ct o v R) H := hP
  have hD : va_D A (MW ct o v R) := hD
  refine lv_istore_n (lv' := [(2, .int ((sg (m_in v) (m_ty v) (m_he v)))), (0, .ref (o 0)), (1, .int (nI (117)))]) hx hb dX11_word_4 rfl hl (by decide) rfl (fun ls hl => ?_)
  refine lv_iload_n hx hb dX11_word_5 rfl (lv_at hl 2 rfl) ?_
  refine lv_tableIn (off := 123) (tgt := 129) hx hb dX11_word_6 (by decide) (by decide) (by rfl) (by decide) ?_
  refine lv_aload_n hx hb dX11_word_129 rfl (lv_at hl 1 rfl) ?_
  refine lv_bipush (v := nI (110)) hx hb dX11_word_130 (by decide) ?_
  refine lv_bipush (v := nI (108)) hx hb dX11_word_132 (by decide) ?_
  refine lv_bipush (v := nI (111)) hx hb dX11_word_134 (by decide) ?_
  refine zVV [.int (nI (110)), .int (nI (108)), .int (nI (111))] [] (kX11_signs_3 (o) (v) (R) (110) (108) (111) (show okP v from ho) (show (110) < 2 ^ 31 from by omega) (show (108) < 2 ^ 31 from by omega) (show 0 < (111) from by omega) (show (111) < 2 ^ 31 from by omega)) hx hb hml hown hts (cwV 3 hts gX11_word_X11_signs rfl rfl rfl (by decide +kernel) ⟨(Nat.le_of_ble_eq_true rfl), (Nat.le_of_ble_eq_true rfl)⟩) hK hP hD hS hA (va_recv hK hP (ci := 10) (q0 := 0) rfl rfl) rfl hl.1 rfl (Nat.le_of_ble_eq_true rfl) dX11_word_136 ⟨(Nat.le_of_ble_eq_true rfl), (Nat.le_of_ble_eq_true rfl)⟩ (fun _ H locs hr_136 hP hD hS => ?_)
  have hP : va_P D vwCl (MW ct o (F_s3 v (nI ((110))) (nI ((108))) (nI ((111)))) R) H := hP
  have hD : va_D A (MW ct o (F_s3 v (nI ((110))) (nI ((108))) (nI ((111)))) R) := hD
  refine lv_aload_n hx hb dX11_word_139 rfl (lv_at hl 1 rfl) ?_
  refine lv_bipush (v := nI (97)) hx hb dX11_word_140 (by decide) ?_
  refine lv_bipush (v := nI (100)) hx hb dX11_word_142 (by decide) ?_
  refine lv_iconst (v := nI (0)) hx hb dX11_word_144 (by decide) ?_
  refine zVV [.int (nI (97)), .int (nI (100)), .int (nI (0))] [] (kX11_signs_2 (o) ((F_s3 v (nI ((110))) (nI ((108))) (nI ((111))))) (R) (97) (100) (show okP (F_s3 v (nI ((110))) (nI ((108))) (nI ((111)))) from (s3_ok (by decide) (by decide) (by decide) ho)) (show (97) < 2 ^ 31 from by omega) (show (100) < 2 ^ 31 from by omega)) hx hb hml hown hts (cwV 3 hts gX11_word_X11_signs rfl rfl rfl (by decide +kernel) ⟨(Nat.le_of_ble_eq_true rfl), (Nat.le_of_ble_eq_true rfl)⟩) hK hP hD hS hA (va_recv hK hP (ci := 10) (q0 := 0) rfl rfl) rfl hl.1 rfl (Nat.le_of_ble_eq_true rfl) dX11_word_145 ⟨(Nat.le_of_ble_eq_true rfl), (Nat.le_of_ble_eq_true rfl)⟩ (fun _ H locs hr_145 hP hD hS => ?_)
  have hP : va_P D vwCl (MW ct o (F_s2 (F_s3 v (nI ((110))) (nI ((108))) (nI ((111)))) (nI ((97))) (nI ((100)))) R) H := hP
  have hD : va_D A (MW ct o (F_s2 (F_s3 v (nI ((110))) (nI ((108))) (nI ((111)))) (nI ((97))) (nI ((100)))) R) := hD
  refine lv_bipush (v := nI (117)) hx hb dX11_word_148 (by decide) ?_
  exact zIret () hx hb hr hlocks hK hP hD hS dX11_word_150 (show nI (117) = nI (117) from rfl)
abbrev rmX11_word_s : Room := { frames := 3, cells := 0, slots := 0, locals := 64 }
set_option maxHeartbeats 4000000 in
set_option maxRecDepth 100000 in
theorem kX11_word_s {D : va_G} {ct : Nat → ClassId} {l : Launch} (o : Nat → Nat) (v : MS) (R : va_W)  (ho : okP v) : MI D ct l yX11_word wsX11_word rmX11_word_s (MW ct o v R) [.ref (o 0), .int (nI (115))] (fun r0 (_ : Unit) => r0 = nI (115)) (fun _ : Unit => MW ct o (W_s v) R) := by
  refine MIof (cc := cX11_word) (maxL := 3) (ret := (some .int)) (by decide) rfl (Nat.le_of_ble_eq_true rfl) ?_
  intro p e s m args below meth c A H locs F hP hK hD hS hA ls hl
  obtain ⟨hx, hb, hr, hlocks, hml, hown, hts, hin⟩ := F
  have hl : lv_has ls 3 [(0, .ref (o 0)), (1, .int (nI (115)))] := hl
  have hh0 : m_he v ≤ m_ty v := ho.1
  have ht0 : m_ty v ≤ 60 := ho.2
  refine lv_aload_n hx hb dX11_word_0 rfl (lv_at hl 0 rfl) ?_
  refine zVI [] [] (kX11_sign (o) (v) (R) (show m_he v ≤ 60 from by omega) (show m_ty v ≤ 60 from by omega)) hx hb hml hown hts (cwV 0 hts gX11_word_X11_sign rfl rfl rfl (by decide +kernel) ⟨(Nat.le_of_ble_eq_true rfl), (Nat.le_of_ble_eq_true rfl)⟩) hK hP hD hS hA (va_recv hK hP (ci := 10) (q0 := 0) rfl rfl) rfl hl.1 rfl (Nat.le_of_ble_eq_true rfl) dX11_word_1 ⟨(Nat.le_of_ble_eq_true rfl), (Nat.le_of_ble_eq_true rfl)⟩ (fun r_1 _ H locs hr_1 hP hD hS => ?_)
  subst hr_1
  have hP : va_P D vwCl (MW ct o v R) H := hP
  have hD : va_D A (MW ct o v R) := hD
  refine lv_istore_n (lv' := [(2, .int ((sg (m_in v) (m_ty v) (m_he v)))), (0, .ref (o 0)), (1, .int (nI (115)))]) hx hb dX11_word_4 rfl hl (by decide) rfl (fun ls hl => ?_)
  refine lv_iload_n hx hb dX11_word_5 rfl (lv_at hl 2 rfl) ?_
  refine lv_tableIn (off := 145) (tgt := 151) hx hb dX11_word_6 (by decide) (by decide) (by rfl) (by decide) ?_
  refine lv_aload_n hx hb dX11_word_151 rfl (lv_at hl 1 rfl) ?_
  refine lv_bipush (v := nI (119)) hx hb dX11_word_152 (by decide) ?_
  refine lv_bipush (v := nI (97)) hx hb dX11_word_154 (by decide) ?_
  refine lv_bipush (v := nI (112)) hx hb dX11_word_156 (by decide) ?_
  refine zVV [.int (nI (119)), .int (nI (97)), .int (nI (112))] [] (kX11_signs_3 (o) (v) (R) (119) (97) (112) (show okP v from ho) (show (119) < 2 ^ 31 from by omega) (show (97) < 2 ^ 31 from by omega) (show 0 < (112) from by omega) (show (112) < 2 ^ 31 from by omega)) hx hb hml hown hts (cwV 3 hts gX11_word_X11_signs rfl rfl rfl (by decide +kernel) ⟨(Nat.le_of_ble_eq_true rfl), (Nat.le_of_ble_eq_true rfl)⟩) hK hP hD hS hA (va_recv hK hP (ci := 10) (q0 := 0) rfl rfl) rfl hl.1 rfl (Nat.le_of_ble_eq_true rfl) dX11_word_158 ⟨(Nat.le_of_ble_eq_true rfl), (Nat.le_of_ble_eq_true rfl)⟩ (fun _ H locs hr_158 hP hD hS => ?_)
  have hP : va_P D vwCl (MW ct o (F_s3 v (nI ((119))) (nI ((97))) (nI ((112)))) R) H := hP
  have hD : va_D A (MW ct o (F_s3 v (nI ((119))) (nI ((97))) (nI ((112)))) R) := hD
  refine lv_bipush (v := nI (115)) hx hb dX11_word_161 (by decide) ?_
  exact zIret () hx hb hr hlocks hK hP hD hS dX11_word_163 (show nI (115) = nI (115) from rfl)
abbrev rmX11_word_t : Room := { frames := 3, cells := 0, slots := 0, locals := 64 }
set_option maxHeartbeats 4000000 in
set_option maxRecDepth 100000 in
theorem kX11_word_t {D : va_G} {ct : Nat → ClassId} {l : Launch} (o : Nat → Nat) (v : MS) (R : va_W)  (ho : okP v) : MI D ct l yX11_word wsX11_word rmX11_word_t (MW ct o v R) [.ref (o 0), .int (nI (116))] (fun r0 (_ : Unit) => r0 = nI (116)) (fun _ : Unit => MW ct o (W_t v) R) := by
  refine MIof (cc := cX11_word) (maxL := 3) (ret := (some .int)) (by decide) rfl (Nat.le_of_ble_eq_true rfl) ?_
  intro p e s m args below meth c A H locs F hP hK hD hS hA ls hl
  obtain ⟨hx, hb, hr, hlocks, hml, hown, hts, hin⟩ := F
  have hl : lv_has ls 3 [(0, .ref (o 0)), (1, .int (nI (116)))] := hl
  have hh0 : m_he v ≤ m_ty v := ho.1
  have ht0 : m_ty v ≤ 60 := ho.2
  refine lv_aload_n hx hb dX11_word_0 rfl (lv_at hl 0 rfl) ?_
  refine zVI [] [] (kX11_sign (o) (v) (R) (show m_he v ≤ 60 from by omega) (show m_ty v ≤ 60 from by omega)) hx hb hml hown hts (cwV 0 hts gX11_word_X11_sign rfl rfl rfl (by decide +kernel) ⟨(Nat.le_of_ble_eq_true rfl), (Nat.le_of_ble_eq_true rfl)⟩) hK hP hD hS hA (va_recv hK hP (ci := 10) (q0 := 0) rfl rfl) rfl hl.1 rfl (Nat.le_of_ble_eq_true rfl) dX11_word_1 ⟨(Nat.le_of_ble_eq_true rfl), (Nat.le_of_ble_eq_true rfl)⟩ (fun r_1 _ H locs hr_1 hP hD hS => ?_)
  subst hr_1
  have hP : va_P D vwCl (MW ct o v R) H := hP
  have hD : va_D A (MW ct o v R) := hD
  refine lv_istore_n (lv' := [(2, .int ((sg (m_in v) (m_ty v) (m_he v)))), (0, .ref (o 0)), (1, .int (nI (116)))]) hx hb dX11_word_4 rfl hl (by decide) rfl (fun ls hl => ?_)
  refine lv_iload_n hx hb dX11_word_5 rfl (lv_at hl 2 rfl) ?_
  refine lv_tableIn (off := 158) (tgt := 164) hx hb dX11_word_6 (by decide) (by decide) (by rfl) (by decide) ?_
  refine lv_aload_n hx hb dX11_word_164 rfl (lv_at hl 1 rfl) ?_
  refine lv_bipush (v := nI (114)) hx hb dX11_word_165 (by decide) ?_
  refine lv_bipush (v := nI (105)) hx hb dX11_word_167 (by decide) ?_
  refine lv_bipush (v := nI (112)) hx hb dX11_word_169 (by decide) ?_
  refine zVV [.int (nI (114)), .int (nI (105)), .int (nI (112))] [] (kX11_signs_3 (o) (v) (R) (114) (105) (112) (show okP v from ho) (show (114) < 2 ^ 31 from by omega) (show (105) < 2 ^ 31 from by omega) (show 0 < (112) from by omega) (show (112) < 2 ^ 31 from by omega)) hx hb hml hown hts (cwV 3 hts gX11_word_X11_signs rfl rfl rfl (by decide +kernel) ⟨(Nat.le_of_ble_eq_true rfl), (Nat.le_of_ble_eq_true rfl)⟩) hK hP hD hS hA (va_recv hK hP (ci := 10) (q0 := 0) rfl rfl) rfl hl.1 rfl (Nat.le_of_ble_eq_true rfl) dX11_word_171 ⟨(Nat.le_of_ble_eq_true rfl), (Nat.le_of_ble_eq_true rfl)⟩ (fun _ H locs hr_171 hP hD hS => ?_)
  have hP : va_P D vwCl (MW ct o (F_s3 v (nI ((114))) (nI ((105))) (nI ((112)))) R) H := hP
  have hD : va_D A (MW ct o (F_s3 v (nI ((114))) (nI ((105))) (nI ((112)))) R) := hD
  refine lv_bipush (v := nI (116)) hx hb dX11_word_174 (by decide) ?_
  exact zIret () hx hb hr hlocks hK hP hD hS dX11_word_176 (show nI (116) = nI (116) from rfl)
abbrev rmX11_word_g : Room := { frames := 3, cells := 0, slots := 0, locals := 64 }
set_option maxHeartbeats 4000000 in
set_option maxRecDepth 100000 in
theorem kX11_word_g {D : va_G} {ct : Nat → ClassId} {l : Launch} (o : Nat → Nat) (v : MS) (R : va_W)  (ho : okP v) : MI D ct l yX11_word wsX11_word rmX11_word_g (MW ct o v R) [.ref (o 0), .int (nI (103))] (fun r0 (_ : Unit) => r0 = nI (103)) (fun _ : Unit => MW ct o (W_g v) R) := by
  refine MIof (cc := cX11_word) (maxL := 3) (ret := (some .int)) (by decide) rfl (Nat.le_of_ble_eq_true rfl) ?_
  intro p e s m args below meth c A H locs F hP hK hD hS hA ls hl
  obtain ⟨hx, hb, hr, hlocks, hml, hown, hts, hin⟩ := F
  have hl : lv_has ls 3 [(0, .ref (o 0)), (1, .int (nI (103)))] := hl
  have hh0 : m_he v ≤ m_ty v := ho.1
  have ht0 : m_ty v ≤ 60 := ho.2
  refine lv_aload_n hx hb dX11_word_0 rfl (lv_at hl 0 rfl) ?_
  refine zVI [] [] (kX11_sign (o) (v) (R) (show m_he v ≤ 60 from by omega) (show m_ty v ≤ 60 from by omega)) hx hb hml hown hts (cwV 0 hts gX11_word_X11_sign rfl rfl rfl (by decide +kernel) ⟨(Nat.le_of_ble_eq_true rfl), (Nat.le_of_ble_eq_true rfl)⟩) hK hP hD hS hA (va_recv hK hP (ci := 10) (q0 := 0) rfl rfl) rfl hl.1 rfl (Nat.le_of_ble_eq_true rfl) dX11_word_1 ⟨(Nat.le_of_ble_eq_true rfl), (Nat.le_of_ble_eq_true rfl)⟩ (fun r_1 _ H locs hr_1 hP hD hS => ?_)
  subst hr_1
  have hP : va_P D vwCl (MW ct o v R) H := hP
  have hD : va_D A (MW ct o v R) := hD
  refine lv_istore_n (lv' := [(2, .int ((sg (m_in v) (m_ty v) (m_he v)))), (0, .ref (o 0)), (1, .int (nI (103)))]) hx hb dX11_word_4 rfl hl (by decide) rfl (fun ls hl => ?_)
  refine lv_iload_n hx hb dX11_word_5 rfl (lv_at hl 2 rfl) ?_
  refine lv_tableIn (off := 171) (tgt := 177) hx hb dX11_word_6 (by decide) (by decide) (by rfl) (by decide) ?_
  refine lv_aload_n hx hb dX11_word_177 rfl (lv_at hl 1 rfl) ?_
  refine lv_bipush (v := nI (114)) hx hb dX11_word_178 (by decide) ?_
  refine lv_bipush (v := nI (101)) hx hb dX11_word_180 (by decide) ?_
  refine lv_bipush (v := nI (97)) hx hb dX11_word_182 (by decide) ?_
  refine zVV [.int (nI (114)), .int (nI (101)), .int (nI (97))] [] (kX11_signs_3 (o) (v) (R) (114) (101) (97) (show okP v from ho) (show (114) < 2 ^ 31 from by omega) (show (101) < 2 ^ 31 from by omega) (show 0 < (97) from by omega) (show (97) < 2 ^ 31 from by omega)) hx hb hml hown hts (cwV 3 hts gX11_word_X11_signs rfl rfl rfl (by decide +kernel) ⟨(Nat.le_of_ble_eq_true rfl), (Nat.le_of_ble_eq_true rfl)⟩) hK hP hD hS hA (va_recv hK hP (ci := 10) (q0 := 0) rfl rfl) rfl hl.1 rfl (Nat.le_of_ble_eq_true rfl) dX11_word_184 ⟨(Nat.le_of_ble_eq_true rfl), (Nat.le_of_ble_eq_true rfl)⟩ (fun _ H locs hr_184 hP hD hS => ?_)
  have hP : va_P D vwCl (MW ct o (F_s3 v (nI ((114))) (nI ((101))) (nI ((97)))) R) H := hP
  have hD : va_D A (MW ct o (F_s3 v (nI ((114))) (nI ((101))) (nI ((97)))) R) := hD
  refine lv_aload_n hx hb dX11_word_187 rfl (lv_at hl 1 rfl) ?_
  refine lv_bipush (v := nI (115)) hx hb dX11_word_188 (by decide) ?_
  refine lv_bipush (v := nI (101)) hx hb dX11_word_190 (by decide) ?_
  refine lv_iconst (v := nI (0)) hx hb dX11_word_192 (by decide) ?_
  refine zVV [.int (nI (115)), .int (nI (101)), .int (nI (0))] [] (kX11_signs_2 (o) ((F_s3 v (nI ((114))) (nI ((101))) (nI ((97))))) (R) (115) (101) (show okP (F_s3 v (nI ((114))) (nI ((101))) (nI ((97)))) from (s3_ok (by decide) (by decide) (by decide) ho)) (show (115) < 2 ^ 31 from by omega) (show (101) < 2 ^ 31 from by omega)) hx hb hml hown hts (cwV 3 hts gX11_word_X11_signs rfl rfl rfl (by decide +kernel) ⟨(Nat.le_of_ble_eq_true rfl), (Nat.le_of_ble_eq_true rfl)⟩) hK hP hD hS hA (va_recv hK hP (ci := 10) (q0 := 0) rfl rfl) rfl hl.1 rfl (Nat.le_of_ble_eq_true rfl) dX11_word_193 ⟨(Nat.le_of_ble_eq_true rfl), (Nat.le_of_ble_eq_true rfl)⟩ (fun _ H locs hr_193 hP hD hS => ?_)
  have hP : va_P D vwCl (MW ct o (F_s2 (F_s3 v (nI ((114))) (nI ((101))) (nI ((97)))) (nI ((115))) (nI ((101)))) R) H := hP
  have hD : va_D A (MW ct o (F_s2 (F_s3 v (nI ((114))) (nI ((101))) (nI ((97)))) (nI ((115))) (nI ((101)))) R) := hD
  refine lv_bipush (v := nI (103)) hx hb dX11_word_196 (by decide) ?_
  exact zIret () hx hb hr hlocks hK hP hD hS dX11_word_198 (show nI (103) = nI (103) from rfl)
abbrev rmX11_word_a : Room := { frames := 3, cells := 0, slots := 0, locals := 64 }
set_option maxHeartbeats 4000000 in
set_option maxRecDepth 100000 in
theorem kX11_word_a {D : va_G} {ct : Nat → ClassId} {l : Launch} (o : Nat → Nat) (v : MS) (R : va_W)  (ho : okP v) (hnx : sg (m_in v) (m_ty v) (m_he v) = nI 97) : MI D ct l yX11_word wsX11_word rmX11_word_a (MW ct o v R) [.ref (o 0), .int (nI (99))] (fun r0 (_ : Unit) => r0 = nI (97)) (fun _ : Unit => MW ct o (W_a v) R) := by
  refine MIof (cc := cX11_word) (maxL := 3) (ret := (some .int)) (by decide) rfl (Nat.le_of_ble_eq_true rfl) ?_
  intro p e s m args below meth c A H locs F hP hK hD hS hA ls hl
  obtain ⟨hx, hb, hr, hlocks, hml, hown, hts, hin⟩ := F
  have hl : lv_has ls 3 [(0, .ref (o 0)), (1, .int (nI (99)))] := hl
  have hh0 : m_he v ≤ m_ty v := ho.1
  have ht0 : m_ty v ≤ 60 := ho.2
  refine lv_aload_n hx hb dX11_word_0 rfl (lv_at hl 0 rfl) ?_
  refine zVI [] [] (kX11_sign (o) (v) (R) (show m_he v ≤ 60 from by omega) (show m_ty v ≤ 60 from by omega)) hx hb hml hown hts (cwV 0 hts gX11_word_X11_sign rfl rfl rfl (by decide +kernel) ⟨(Nat.le_of_ble_eq_true rfl), (Nat.le_of_ble_eq_true rfl)⟩) hK hP hD hS hA (va_recv hK hP (ci := 10) (q0 := 0) rfl rfl) rfl hl.1 rfl (Nat.le_of_ble_eq_true rfl) dX11_word_1 ⟨(Nat.le_of_ble_eq_true rfl), (Nat.le_of_ble_eq_true rfl)⟩ (fun r_1 _ H locs hr_1 hP hD hS => ?_)
  subst hr_1
  have hP : va_P D vwCl (MW ct o v R) H := hP
  have hD : va_D A (MW ct o v R) := hD
  refine lv_istore_n (lv' := [(2, .int ((sg (m_in v) (m_ty v) (m_he v)))), (0, .ref (o 0)), (1, .int (nI (99)))]) hx hb dX11_word_4 rfl hl (by decide) rfl (fun ls hl => ?_)
  refine lv_iload_n hx hb dX11_word_5 rfl (lv_at hl 2 rfl) ?_
  refine lv_tableOut (tgt := 199) hx hb dX11_word_6 (by decide) (by decide) ?_
  refine lv_iload_n hx hb dX11_word_199 rfl (lv_at hl 0 rfl) ?_
  refine lv_bipush (v := nI (97)) hx hb dX11_word_200 (by decide) ?_
  refine lv_icmp_ne (tgt := 218) hx hb dX11_word_202 (by decide) (fun c202_2 => ?_) (fun c202_2 => ?_)
  · skip
    exact absurd hnx c202_2
  · skip
    refine lv_aload_n hx hb dX11_word_205 rfl (lv_at hl 1 rfl) ?_
    refine lv_bipush (v := nI (97)) hx hb dX11_word_206 (by decide) ?_
    refine lv_bipush (v := nI (114)) hx hb dX11_word_208 (by decide) ?_
    refine lv_bipush (v := nI (116)) hx hb dX11_word_210 (by decide) ?_
    refine zVV [.int (nI (97)), .int (nI (114)), .int (nI (116))] [] (kX11_signs_3 (o) (v) (R) (97) (114) (116) (show okP v from ho) (show (97) < 2 ^ 31 from by omega) (show (114) < 2 ^ 31 from by omega) (show 0 < (116) from by omega) (show (116) < 2 ^ 31 from by omega)) hx hb hml hown hts (cwV 3 hts gX11_word_X11_signs rfl rfl rfl (by decide +kernel) ⟨(Nat.le_of_ble_eq_true rfl), (Nat.le_of_ble_eq_true rfl)⟩) hK hP hD hS hA (va_recv hK hP (ci := 10) (q0 := 0) rfl rfl) rfl hl.1 rfl (Nat.le_of_ble_eq_true rfl) dX11_word_212 ⟨(Nat.le_of_ble_eq_true rfl), (Nat.le_of_ble_eq_true rfl)⟩ (fun _ H locs hr_212 hP hD hS => ?_)
    have hP : va_P D vwCl (MW ct o (F_s3 v (nI ((97))) (nI ((114))) (nI ((116)))) R) H := hP
    have hD : va_D A (MW ct o (F_s3 v (nI ((97))) (nI ((114))) (nI ((116)))) R) := hD
    refine lv_bipush (v := nI (97)) hx hb dX11_word_215 (by decide) ?_
    exact zIret () hx hb hr hlocks hK hP hD hS dX11_word_217 (show nI (97) = nI (97) from rfl)
abbrev rmX11_word_c : Room := { frames := 3, cells := 0, slots := 0, locals := 64 }
set_option maxHeartbeats 4000000 in
set_option maxRecDepth 100000 in
theorem kX11_word_c {D : va_G} {ct : Nat → ClassId} {l : Launch} (o : Nat → Nat) (v : MS) (R : va_W)  (ho : okP v) (hnx : ¬ sg (m_in v) (m_ty v) (m_he v) = nI 97) : MI D ct l yX11_word wsX11_word rmX11_word_c (MW ct o v R) [.ref (o 0), .int (nI (99))] (fun r0 (_ : Unit) => r0 = nI (99)) (fun _ : Unit => MW ct o (W_c v) R) := by
  refine MIof (cc := cX11_word) (maxL := 3) (ret := (some .int)) (by decide) rfl (Nat.le_of_ble_eq_true rfl) ?_
  intro p e s m args below meth c A H locs F hP hK hD hS hA ls hl
  obtain ⟨hx, hb, hr, hlocks, hml, hown, hts, hin⟩ := F
  have hl : lv_has ls 3 [(0, .ref (o 0)), (1, .int (nI (99)))] := hl
  have hh0 : m_he v ≤ m_ty v := ho.1
  have ht0 : m_ty v ≤ 60 := ho.2
  refine lv_aload_n hx hb dX11_word_0 rfl (lv_at hl 0 rfl) ?_
  refine zVI [] [] (kX11_sign (o) (v) (R) (show m_he v ≤ 60 from by omega) (show m_ty v ≤ 60 from by omega)) hx hb hml hown hts (cwV 0 hts gX11_word_X11_sign rfl rfl rfl (by decide +kernel) ⟨(Nat.le_of_ble_eq_true rfl), (Nat.le_of_ble_eq_true rfl)⟩) hK hP hD hS hA (va_recv hK hP (ci := 10) (q0 := 0) rfl rfl) rfl hl.1 rfl (Nat.le_of_ble_eq_true rfl) dX11_word_1 ⟨(Nat.le_of_ble_eq_true rfl), (Nat.le_of_ble_eq_true rfl)⟩ (fun r_1 _ H locs hr_1 hP hD hS => ?_)
  subst hr_1
  have hP : va_P D vwCl (MW ct o v R) H := hP
  have hD : va_D A (MW ct o v R) := hD
  refine lv_istore_n (lv' := [(2, .int ((sg (m_in v) (m_ty v) (m_he v)))), (0, .ref (o 0)), (1, .int (nI (99)))]) hx hb dX11_word_4 rfl hl (by decide) rfl (fun ls hl => ?_)
  refine lv_iload_n hx hb dX11_word_5 rfl (lv_at hl 2 rfl) ?_
  refine lv_tableOut (tgt := 199) hx hb dX11_word_6 (by decide) (by decide) ?_
  refine lv_iload_n hx hb dX11_word_199 rfl (lv_at hl 0 rfl) ?_
  refine lv_bipush (v := nI (97)) hx hb dX11_word_200 (by decide) ?_
  refine lv_icmp_ne (tgt := 218) hx hb dX11_word_202 (by decide) (fun c202_2 => ?_) (fun c202_2 => ?_)
  · skip
    refine lv_aload_n hx hb dX11_word_218 rfl (lv_at hl 1 rfl) ?_
    refine lv_bipush (v := nI (111)) hx hb dX11_word_219 (by decide) ?_
    refine lv_bipush (v := nI (110)) hx hb dX11_word_221 (by decide) ?_
    refine lv_bipush (v := nI (99)) hx hb dX11_word_223 (by decide) ?_
    refine zVV [.int (nI (111)), .int (nI (110)), .int (nI (99))] [] (kX11_signs_3 (o) (v) (R) (111) (110) (99) (show okP v from ho) (show (111) < 2 ^ 31 from by omega) (show (110) < 2 ^ 31 from by omega) (show 0 < (99) from by omega) (show (99) < 2 ^ 31 from by omega)) hx hb hml hown hts (cwV 3 hts gX11_word_X11_signs rfl rfl rfl (by decide +kernel) ⟨(Nat.le_of_ble_eq_true rfl), (Nat.le_of_ble_eq_true rfl)⟩) hK hP hD hS hA (va_recv hK hP (ci := 10) (q0 := 0) rfl rfl) rfl hl.1 rfl (Nat.le_of_ble_eq_true rfl) dX11_word_225 ⟨(Nat.le_of_ble_eq_true rfl), (Nat.le_of_ble_eq_true rfl)⟩ (fun _ H locs hr_225 hP hD hS => ?_)
    have hP : va_P D vwCl (MW ct o (F_s3 v (nI ((111))) (nI ((110))) (nI ((99)))) R) H := hP
    have hD : va_D A (MW ct o (F_s3 v (nI ((111))) (nI ((110))) (nI ((99)))) R) := hD
    refine lv_aload_n hx hb dX11_word_228 rfl (lv_at hl 1 rfl) ?_
    refine lv_bipush (v := nI (108)) hx hb dX11_word_229 (by decide) ?_
    refine lv_bipush (v := nI (117)) hx hb dX11_word_231 (by decide) ?_
    refine lv_bipush (v := nI (115)) hx hb dX11_word_233 (by decide) ?_
    refine zVV [.int (nI (108)), .int (nI (117)), .int (nI (115))] [] (kX11_signs_3 (o) ((F_s3 v (nI ((111))) (nI ((110))) (nI ((99))))) (R) (108) (117) (115) (show okP (F_s3 v (nI ((111))) (nI ((110))) (nI ((99)))) from (s3_ok (by decide) (by decide) (by decide) ho)) (show (108) < 2 ^ 31 from by omega) (show (117) < 2 ^ 31 from by omega) (show 0 < (115) from by omega) (show (115) < 2 ^ 31 from by omega)) hx hb hml hown hts (cwV 3 hts gX11_word_X11_signs rfl rfl rfl (by decide +kernel) ⟨(Nat.le_of_ble_eq_true rfl), (Nat.le_of_ble_eq_true rfl)⟩) hK hP hD hS hA (va_recv hK hP (ci := 10) (q0 := 0) rfl rfl) rfl hl.1 rfl (Nat.le_of_ble_eq_true rfl) dX11_word_235 ⟨(Nat.le_of_ble_eq_true rfl), (Nat.le_of_ble_eq_true rfl)⟩ (fun _ H locs hr_235 hP hD hS => ?_)
    have hP : va_P D vwCl (MW ct o (F_s3 (F_s3 v (nI ((111))) (nI ((110))) (nI ((99)))) (nI ((108))) (nI ((117))) (nI ((115)))) R) H := hP
    have hD : va_D A (MW ct o (F_s3 (F_s3 v (nI ((111))) (nI ((110))) (nI ((99)))) (nI ((108))) (nI ((117))) (nI ((115)))) R) := hD
    refine lv_aload_n hx hb dX11_word_238 rfl (lv_at hl 1 rfl) ?_
    refine lv_bipush (v := nI (105)) hx hb dX11_word_239 (by decide) ?_
    refine lv_bipush (v := nI (111)) hx hb dX11_word_241 (by decide) ?_
    refine lv_bipush (v := nI (110)) hx hb dX11_word_243 (by decide) ?_
    refine zVV [.int (nI (105)), .int (nI (111)), .int (nI (110))] [] (kX11_signs_3 (o) ((F_s3 (F_s3 v (nI ((111))) (nI ((110))) (nI ((99)))) (nI ((108))) (nI ((117))) (nI ((115))))) (R) (105) (111) (110) (show okP (F_s3 (F_s3 v (nI ((111))) (nI ((110))) (nI ((99)))) (nI ((108))) (nI ((117))) (nI ((115)))) from (s3_ok (by decide) (by decide) (by decide) (s3_ok (by decide) (by decide) (by decide) ho))) (show (105) < 2 ^ 31 from by omega) (show (111) < 2 ^ 31 from by omega) (show 0 < (110) from by omega) (show (110) < 2 ^ 31 from by omega)) hx hb hml hown hts (cwV 3 hts gX11_word_X11_signs rfl rfl rfl (by decide +kernel) ⟨(Nat.le_of_ble_eq_true rfl), (Nat.le_of_ble_eq_true rfl)⟩) hK hP hD hS hA (va_recv hK hP (ci := 10) (q0 := 0) rfl rfl) rfl hl.1 rfl (Nat.le_of_ble_eq_true rfl) dX11_word_245 ⟨(Nat.le_of_ble_eq_true rfl), (Nat.le_of_ble_eq_true rfl)⟩ (fun _ H locs hr_245 hP hD hS => ?_)
    have hP : va_P D vwCl (MW ct o (F_s3 (F_s3 (F_s3 v (nI ((111))) (nI ((110))) (nI ((99)))) (nI ((108))) (nI ((117))) (nI ((115)))) (nI ((105))) (nI ((111))) (nI ((110)))) R) H := hP
    have hD : va_D A (MW ct o (F_s3 (F_s3 (F_s3 v (nI ((111))) (nI ((110))) (nI ((99)))) (nI ((108))) (nI ((117))) (nI ((115)))) (nI ((105))) (nI ((111))) (nI ((110)))) R) := hD
    refine lv_bipush (v := nI (99)) hx hb dX11_word_248 (by decide) ?_
    exact zIret () hx hb hr hlocks hK hP hD hS dX11_word_250 (show nI (99) = nI (99) from rfl)
  · skip
    exact absurd c202_2 hnx
abbrev rmX11_command : Room := { frames := 4, cells := 0, slots := 0, locals := 86 }
theorem in_X11_command_X11 : ∀ w ∈ u_ws RX11 TX11 19, w ∈ wsX11_command := by decide +kernel
set_option maxHeartbeats 4000000 in
set_option maxRecDepth 100000 in
theorem cmdw_112 {D : va_G} {ct : Nat → ClassId} {l : Launch} (o : Nat → Nat) (v : MS) (R : va_W)  (ho : okP v) (hcz : m_cz v ≤ 60) (hfst : sg (m_in v) (m_ty v) (m_he v) = nI 112) {p : Program} {e : Env} {s : State} {m : MethodId} {args : Array Value} {below : List Frame} {meth : Method} {c : Code} {A : Nat → Prop} {H : Heap} {locs : List Loc} {ls : Array Slot} (F : zF p yX11_command wsX11_command cX11_command 4 none s m args meth c) (hP : va_P D vwCl (MW ct o (m_g v, m_fl v, m_ch v, m_sv v, m_why v, m_det v, m_li v, m_ld v, m_wt v, m_wm v, m_ln v, m_lz v, m_in v, m_ty v, m_he v, m_wa v, m_fa v, (zr4 (m_cm v) (4 * m_cz v) 4), (m_cz v + 1)) R) H) (hK : zK D ct s) (hD : va_D A (MW ct o (m_g v, m_fl v, m_ch v, m_sv v, m_why v, m_det v, m_li v, m_ld v, m_wt v, m_wm v, m_ln v, m_lz v, m_in v, m_ty v, m_he v, m_wa v, m_fa v, (zr4 (m_cm v) (4 * m_cz v) 4), (m_cz v + 1)) R)) (hS : va_S A s.heap H locs) (hA : ∀ q, s.heap.size ≤ q → A q) (hl : lv_has ls 4 [(0, .ref (o 0)), (1, .int (nI ((4 * m_cz v)))), (2, .int ((sg (m_in v) (m_ty v) (m_he v)))), (3, .int (nI (4)))]) : W p l e rmX11_command s m args below meth c H locs 0 0 (MQ below (va_Qv (fun _ : Unit => True) (zB D ct A (fun _ : Unit => MW ct o (F_cmd v) R)) A) args s rmX11_command.cells rmX11_command.slots A) (F0 m 101 ls []) := by
  obtain ⟨hx, hb, hr, hlocks, hml, hown, hts, hin⟩ := F
  have hh0 : m_he v ≤ m_ty v := ho.1
  have ht0 : m_ty v ≤ 60 := ho.2
  have h_X11 := in_X11_command_X11
  have f31 := hts (.fieldLink RX11 31 "CartArgumentsModel" "commands" "[I") (by decide +kernel)
  have f195 := hts (.fieldLink RX11 195 "CartArgumentsModel" "here" "I") (by decide +kernel)
  have f198 := hts (.fieldLink RX11 198 "CartArgumentsModel" "wrongAt" "I") (by decide +kernel)
  have f215 := hts (.fieldLink RX11 215 "CartArgumentsModel" "commandMany" "I") (by decide +kernel)
  have hl : lv_has ls 4 [(0, .ref (o 0)), (1, .int (nI ((4 * m_cz v)))), (2, .int (nI (112))), (3, .int (nI (4)))] := (by have hl9 := hl; rw [show sg (m_in v) (m_ty v) (m_he v) = nI (112) from hfst] at hl9; exact hl9)
  have hok1 : okP (c_1 v) := ⟨sg_ne hfst (by decide), ho.2⟩
  have hh1 : m_he v + 1 ≤ m_ty v := hok1.1
  refine lv_aload_n hx hb dX11_command_101 rfl (lv_at hl 0 rfl) ?_
  refine lv_dup hx hb dX11_command_102 rfl ?_
  refine va_get (ci := 10) (v := .int (nI (m_he v))) hx hb hts h_X11 hown hK hP 0 rfl rfl 14 (by decide) f195 (fun _ h9 => h9) rfl dX11_command_103 ?_
  refine lv_iconst (v := nI (1)) hx hb dX11_command_106 (by decide) ?_
  refine zNadd hx hb dX11_command_107 ?_
  refine va_put (ci := 10) (v := .int (nI ((m_he v + 1)))) (ty := .int) hx hb hts h_X11 tyX11 tyX11_ok nmX11 hown hK hP hD hS 0 rfl rfl 14 (by decide) f195 (fun _ h9 => h9) rfl (by decide +kernel) rfl rfl (Nat.le_of_ble_eq_true rfl) dX11_command_108 (fun H locs hP hD hS => ?_)
  have hP : va_P D vwCl (MW ct o (m_g v, m_fl v, m_ch v, m_sv v, m_why v, m_det v, m_li v, m_ld v, m_wt v, m_wm v, m_ln v, m_lz v, m_in v, m_ty v, (m_he v + 1), m_wa v, m_fa v, (zr4 (m_cm v) (4 * m_cz v) 4), (m_cz v + 1)) R) H := hP
  have hD : va_D A (MW ct o (m_g v, m_fl v, m_ch v, m_sv v, m_why v, m_det v, m_li v, m_ld v, m_wt v, m_wm v, m_ln v, m_lz v, m_in v, m_ty v, (m_he v + 1), m_wa v, m_fa v, (zr4 (m_cm v) (4 * m_cz v) 4), (m_cz v + 1)) R) := hD
  have hP : va_P D vwCl (MW ct o (c_1 v) R) H := hP
  have hD : va_D A (MW ct o (c_1 v) R) := hD
  refine lv_aload_n hx hb dX11_command_111 rfl (lv_at hl 0 rfl) ?_
  refine lv_iload_n hx hb dX11_command_112 rfl (lv_at hl 2 rfl) ?_
  refine zVI [.int (nI (112))] [] (kX11_word_p (o) ((c_1 v)) (R) (show okP (c_1 v) from hok1)) hx hb hml hown hts (cwV 1 hts gX11_command_X11_word rfl rfl rfl (by decide +kernel) ⟨(Nat.le_of_ble_eq_true rfl), (Nat.le_of_ble_eq_true rfl)⟩) hK hP hD hS hA (va_recv hK hP (ci := 10) (q0 := 0) rfl rfl) rfl hl.1 rfl (Nat.le_of_ble_eq_true rfl) dX11_command_113 ⟨(Nat.le_of_ble_eq_true rfl), (Nat.le_of_ble_eq_true rfl)⟩ (fun r_113 _ H locs hr_113 hP hD hS => ?_)
  subst hr_113
  have hP : va_P D vwCl (MW ct o (W_p (c_1 v)) R) H := hP
  have hD : va_D A (MW ct o (W_p (c_1 v)) R) := hD
  obtain ⟨w0, hw0⟩ : ∃ w9, w9 = (W_p (c_1 v)) := ⟨_, rfl⟩
  rw [← hw0] at hP hD
  have hok09 : okP w0 := by rw [hw0]; exact (s3_ok (by decide) (by decide) (by decide) (s3_ok (by decide) (by decide) (by decide) hok1))
  have hP : va_P D vwCl (MW ct o w0 R) H := hP
  have hD : va_D A (MW ct o w0 R) := hD
  refine lv_istore_n (lv' := [(3, .int (nI (112))), (0, .ref (o 0)), (1, .int (nI ((4 * m_cz v)))), (2, .int (nI (112)))]) hx hb dX11_command_116 rfl hl (by decide) rfl (fun ls hl => ?_)
  refine lv_aload_n hx hb dX11_command_117 rfl (lv_at hl 1 rfl) ?_
  refine va_get (ci := 10) (v := .ref (o 6)) hx hb hts h_X11 hown hK hP 0 rfl rfl 17 (by decide) f31 (fun _ h9 => h9) rfl dX11_command_118 ?_
  refine lv_iload_n hx hb dX11_command_121 rfl (lv_at hl 2 rfl) ?_
  refine lv_iload_n hx hb dX11_command_122 rfl (lv_at hl 0 rfl) ?_
  refine zIast (n := 244) (f := m_cm w0) (i := (4 * m_cz v)) hx hb hK hP hD hS 6 rfl (by omega) (by decide) dX11_command_123 (fun H locs hP hD hS => ?_)
  have hP : va_P D vwCl (MW ct o (m_g w0, m_fl w0, m_ch w0, m_sv w0, m_why w0, m_det w0, m_li w0, m_ld w0, m_wt w0, m_wm w0, m_ln w0, m_lz w0, m_in w0, m_ty w0, m_he w0, m_wa w0, m_fa w0, (upd (m_cm w0) ((4 * m_cz v)) (nI (112))), m_cz w0) R) H := hP
  have hD : va_D A (MW ct o (m_g w0, m_fl w0, m_ch w0, m_sv w0, m_why w0, m_det w0, m_li w0, m_ld w0, m_wt w0, m_wm w0, m_ln w0, m_lz w0, m_in w0, m_ty w0, m_he w0, m_wa w0, m_fa w0, (upd (m_cm w0) ((4 * m_cz v)) (nI (112))), m_cz w0) R) := hD
  have hP : va_P D vwCl (MW ct o (setC w0 ((4 * m_cz v)) (nI (112))) R) H := hP
  have hD : va_D A (MW ct o (setC w0 ((4 * m_cz v)) (nI (112))) R) := hD
  refine lv_aload_n hx hb dX11_command_124 rfl (lv_at hl 1 rfl) ?_
  refine va_get (ci := 10) (v := .ref (o 6)) hx hb hts h_X11 hown hK hP 0 rfl rfl 17 (by decide) f31 (fun _ h9 => h9) rfl dX11_command_125 ?_
  refine lv_iload_n hx hb dX11_command_128 rfl (lv_at hl 2 rfl) ?_
  refine lv_iconst (v := nI (1)) hx hb dX11_command_129 (by decide) ?_
  refine zNadd hx hb dX11_command_130 ?_
  refine lv_aload_n hx hb dX11_command_131 rfl (lv_at hl 1 rfl) ?_
  refine lv_iload_n hx hb dX11_command_132 rfl (lv_at hl 0 rfl) ?_
  refine lv_bipush (v := nI (99)) hx hb dX11_command_133 (by decide) ?_
  refine lv_icmp_eq (tgt := 162) hx hb dX11_command_135 (by decide) (fun c9 => absurd c9 (by decide)) (fun c9 => ?_)
  refine lv_iload_n hx hb dX11_command_138 rfl (lv_at hl 0 rfl) ?_
  refine lv_bipush (v := nI (97)) hx hb dX11_command_139 (by decide) ?_
  refine lv_icmp_eq (tgt := 162) hx hb dX11_command_141 (by decide) (fun c9 => absurd c9 (by decide)) (fun c9 => ?_)
  refine lv_iload_n hx hb dX11_command_144 rfl (lv_at hl 0 rfl) ?_
  refine lv_bipush (v := nI (114)) hx hb dX11_command_145 (by decide) ?_
  refine lv_icmp_eq (tgt := 162) hx hb dX11_command_147 (by decide) (fun c9 => absurd c9 (by decide)) (fun c9 => ?_)
  refine lv_iload_n hx hb dX11_command_150 rfl (lv_at hl 0 rfl) ?_
  refine lv_bipush (v := nI (108)) hx hb dX11_command_151 (by decide) ?_
  refine lv_icmp_eq (tgt := 162) hx hb dX11_command_153 (by decide) (fun c9 => absurd c9 (by decide)) (fun c9 => ?_)
  refine lv_iload_n hx hb dX11_command_156 rfl (lv_at hl 0 rfl) ?_
  refine lv_bipush (v := nI (117)) hx hb dX11_command_157 (by decide) ?_
  refine lv_icmp_ne (tgt := 166) hx hb dX11_command_159 (by decide) (fun c9 => ?_) (fun c9 => absurd c9 (by decide))
  refine lv_iconst (v := nI (1)) hx hb dX11_command_166 (by decide) ?_
  refine zVI [.int (nI (1))] [.int (nI (((4 * m_cz v) + 1))), .ref (o 6)] (kX11_behind_1 (o) ((setC w0 ((4 * m_cz v)) (nI (112)))) (R) (show okP (setC w0 ((4 * m_cz v)) (nI (112))) from (setC_ok hok09))) hx hb hml hown hts (cwV 1 hts gX11_command_X11_behind rfl rfl rfl (by decide +kernel) ⟨(Nat.le_of_ble_eq_true rfl), (Nat.le_of_ble_eq_true rfl)⟩) hK hP hD hS hA (va_recv hK hP (ci := 10) (q0 := 0) rfl rfl) rfl hl.1 rfl (Nat.le_of_ble_eq_true rfl) dX11_command_167 ⟨(Nat.le_of_ble_eq_true rfl), (Nat.le_of_ble_eq_true rfl)⟩ (fun r_167 _ H locs hr_167 hP hD hS => ?_)
  subst hr_167
  have hP : va_P D vwCl (MW ct o (F_bh1 (setC w0 ((4 * m_cz v)) (nI (112)))).2 R) H := hP
  have hD : va_D A (MW ct o (F_bh1 (setC w0 ((4 * m_cz v)) (nI (112)))).2 R) := hD
  obtain ⟨q1, hq1⟩ : ∃ q9, q9 = (F_bh1 (setC w0 ((4 * m_cz v)) (nI (112)))) := ⟨_, rfl⟩
  rw [← hq1] at hP hD ⊢
  have hok19 : okP (setN (((4 * m_cz v) + 1)) q1) := setN_ok (by rw [hq1]; exact (num1_ok (need_ok (by decide) (setC_ok hok09))))
  refine zIast (n := 244) (f := m_cm q1.2) (i := ((4 * m_cz v) + 1)) hx hb hK hP hD hS 6 rfl (by omega) (by decide) dX11_command_170 (fun H locs hP hD hS => ?_)
  have hP : va_P D vwCl (MW ct o (m_g q1.2, m_fl q1.2, m_ch q1.2, m_sv q1.2, m_why q1.2, m_det q1.2, m_li q1.2, m_ld q1.2, m_wt q1.2, m_wm q1.2, m_ln q1.2, m_lz q1.2, m_in q1.2, m_ty q1.2, m_he q1.2, m_wa q1.2, m_fa q1.2, (upd (m_cm q1.2) (((4 * m_cz v) + 1)) (q1.1)), m_cz q1.2) R) H := hP
  have hD : va_D A (MW ct o (m_g q1.2, m_fl q1.2, m_ch q1.2, m_sv q1.2, m_why q1.2, m_det q1.2, m_li q1.2, m_ld q1.2, m_wt q1.2, m_wm q1.2, m_ln q1.2, m_lz q1.2, m_in q1.2, m_ty q1.2, m_he q1.2, m_wa q1.2, m_fa q1.2, (upd (m_cm q1.2) (((4 * m_cz v) + 1)) (q1.1)), m_cz q1.2) R) := hD
  have hP : va_P D vwCl (MW ct o (setN (((4 * m_cz v) + 1)) q1) R) H := hP
  have hD : va_D A (MW ct o (setN (((4 * m_cz v) + 1)) q1) R) := hD
  refine lv_iload_n hx hb dX11_command_171 rfl (lv_at hl 0 rfl) ?_
  refine lv_tableIn (off := 126) (tgt := 298) hx hb dX11_command_172 (by decide) (by decide) (by rfl) (by decide) ?_
  have e9 : F_cmd v = (setN (((4 * m_cz v) + 1)) q1) := (by rw [hq1, hw0]; exact cmd_p hfst)
  exact zVret () hx hb hr hlocks hK (by show va_P D vwCl (MW ct o (F_cmd v) R) H; rw [e9]; exact hP) (by show va_D A (MW ct o (F_cmd v) R); rw [e9]; exact hD) hS dX11_command_298 trivial
set_option maxHeartbeats 4000000 in
set_option maxRecDepth 100000 in
theorem cmdw_99 {D : va_G} {ct : Nat → ClassId} {l : Launch} (o : Nat → Nat) (v : MS) (R : va_W)  (ho : okP v) (hcz : m_cz v ≤ 60) (g0 : ¬ sg (m_in v) (m_ty v) (m_he v) = nI 112) (hfst : sg (m_in v) (m_ty v) (m_he v) = nI 99) {p : Program} {e : Env} {s : State} {m : MethodId} {args : Array Value} {below : List Frame} {meth : Method} {c : Code} {A : Nat → Prop} {H : Heap} {locs : List Loc} {ls : Array Slot} (F : zF p yX11_command wsX11_command cX11_command 4 none s m args meth c) (hP : va_P D vwCl (MW ct o (m_g v, m_fl v, m_ch v, m_sv v, m_why v, m_det v, m_li v, m_ld v, m_wt v, m_wm v, m_ln v, m_lz v, m_in v, m_ty v, m_he v, m_wa v, m_fa v, (zr4 (m_cm v) (4 * m_cz v) 4), (m_cz v + 1)) R) H) (hK : zK D ct s) (hD : va_D A (MW ct o (m_g v, m_fl v, m_ch v, m_sv v, m_why v, m_det v, m_li v, m_ld v, m_wt v, m_wm v, m_ln v, m_lz v, m_in v, m_ty v, m_he v, m_wa v, m_fa v, (zr4 (m_cm v) (4 * m_cz v) 4), (m_cz v + 1)) R)) (hS : va_S A s.heap H locs) (hA : ∀ q, s.heap.size ≤ q → A q) (hl : lv_has ls 4 [(0, .ref (o 0)), (1, .int (nI ((4 * m_cz v)))), (2, .int ((sg (m_in v) (m_ty v) (m_he v)))), (3, .int (nI (4)))]) : W p l e rmX11_command s m args below meth c H locs 0 0 (MQ below (va_Qv (fun _ : Unit => True) (zB D ct A (fun _ : Unit => MW ct o (F_cmd v) R)) A) args s rmX11_command.cells rmX11_command.slots A) (F0 m 101 ls []) := by
  obtain ⟨hx, hb, hr, hlocks, hml, hown, hts, hin⟩ := F
  have hh0 : m_he v ≤ m_ty v := ho.1
  have ht0 : m_ty v ≤ 60 := ho.2
  have h_X11 := in_X11_command_X11
  have f31 := hts (.fieldLink RX11 31 "CartArgumentsModel" "commands" "[I") (by decide +kernel)
  have f195 := hts (.fieldLink RX11 195 "CartArgumentsModel" "here" "I") (by decide +kernel)
  have f198 := hts (.fieldLink RX11 198 "CartArgumentsModel" "wrongAt" "I") (by decide +kernel)
  have f215 := hts (.fieldLink RX11 215 "CartArgumentsModel" "commandMany" "I") (by decide +kernel)
  have hl : lv_has ls 4 [(0, .ref (o 0)), (1, .int (nI ((4 * m_cz v)))), (2, .int (nI (99))), (3, .int (nI (4)))] := (by have hl9 := hl; rw [show sg (m_in v) (m_ty v) (m_he v) = nI (99) from hfst] at hl9; exact hl9)
  have hok1 : okP (c_1 v) := ⟨sg_ne hfst (by decide), ho.2⟩
  have hh1 : m_he v + 1 ≤ m_ty v := hok1.1
  refine lv_aload_n hx hb dX11_command_101 rfl (lv_at hl 0 rfl) ?_
  refine lv_dup hx hb dX11_command_102 rfl ?_
  refine va_get (ci := 10) (v := .int (nI (m_he v))) hx hb hts h_X11 hown hK hP 0 rfl rfl 14 (by decide) f195 (fun _ h9 => h9) rfl dX11_command_103 ?_
  refine lv_iconst (v := nI (1)) hx hb dX11_command_106 (by decide) ?_
  refine zNadd hx hb dX11_command_107 ?_
  refine va_put (ci := 10) (v := .int (nI ((m_he v + 1)))) (ty := .int) hx hb hts h_X11 tyX11 tyX11_ok nmX11 hown hK hP hD hS 0 rfl rfl 14 (by decide) f195 (fun _ h9 => h9) rfl (by decide +kernel) rfl rfl (Nat.le_of_ble_eq_true rfl) dX11_command_108 (fun H locs hP hD hS => ?_)
  have hP : va_P D vwCl (MW ct o (m_g v, m_fl v, m_ch v, m_sv v, m_why v, m_det v, m_li v, m_ld v, m_wt v, m_wm v, m_ln v, m_lz v, m_in v, m_ty v, (m_he v + 1), m_wa v, m_fa v, (zr4 (m_cm v) (4 * m_cz v) 4), (m_cz v + 1)) R) H := hP
  have hD : va_D A (MW ct o (m_g v, m_fl v, m_ch v, m_sv v, m_why v, m_det v, m_li v, m_ld v, m_wt v, m_wm v, m_ln v, m_lz v, m_in v, m_ty v, (m_he v + 1), m_wa v, m_fa v, (zr4 (m_cm v) (4 * m_cz v) 4), (m_cz v + 1)) R) := hD
  have hP : va_P D vwCl (MW ct o (c_1 v) R) H := hP
  have hD : va_D A (MW ct o (c_1 v) R) := hD
  refine lv_aload_n hx hb dX11_command_111 rfl (lv_at hl 0 rfl) ?_
  refine lv_iload_n hx hb dX11_command_112 rfl (lv_at hl 2 rfl) ?_
  by_cases hb113 : sg (m_in v) (m_ty v) (m_he v + 1) = nI 97
  · skip
    refine zVI [.int (nI (99))] [] (kX11_word_a (o) ((c_1 v)) (R) (show okP (c_1 v) from hok1) (show sg ((m_in (c_1 v))) ((m_ty (c_1 v))) ((m_he (c_1 v))) = nI 97 from hb113)) hx hb hml hown hts (cwV 1 hts gX11_command_X11_word rfl rfl rfl (by decide +kernel) ⟨(Nat.le_of_ble_eq_true rfl), (Nat.le_of_ble_eq_true rfl)⟩) hK hP hD hS hA (va_recv hK hP (ci := 10) (q0 := 0) rfl rfl) rfl hl.1 rfl (Nat.le_of_ble_eq_true rfl) dX11_command_113 ⟨(Nat.le_of_ble_eq_true rfl), (Nat.le_of_ble_eq_true rfl)⟩ (fun r_113 _ H locs hr_113 hP hD hS => ?_)
    subst hr_113
    have hP : va_P D vwCl (MW ct o (W_a (c_1 v)) R) H := hP
    have hD : va_D A (MW ct o (W_a (c_1 v)) R) := hD
    obtain ⟨w0, hw0⟩ : ∃ w9, w9 = (W_a (c_1 v)) := ⟨_, rfl⟩
    rw [← hw0] at hP hD
    have hok09 : okP w0 := by rw [hw0]; exact (s3_ok (by decide) (by decide) (by decide) hok1)
    have hP : va_P D vwCl (MW ct o w0 R) H := hP
    have hD : va_D A (MW ct o w0 R) := hD
    refine lv_istore_n (lv' := [(3, .int (nI (97))), (0, .ref (o 0)), (1, .int (nI ((4 * m_cz v)))), (2, .int (nI (99)))]) hx hb dX11_command_116 rfl hl (by decide) rfl (fun ls hl => ?_)
    refine lv_aload_n hx hb dX11_command_117 rfl (lv_at hl 1 rfl) ?_
    refine va_get (ci := 10) (v := .ref (o 6)) hx hb hts h_X11 hown hK hP 0 rfl rfl 17 (by decide) f31 (fun _ h9 => h9) rfl dX11_command_118 ?_
    refine lv_iload_n hx hb dX11_command_121 rfl (lv_at hl 2 rfl) ?_
    refine lv_iload_n hx hb dX11_command_122 rfl (lv_at hl 0 rfl) ?_
    refine zIast (n := 244) (f := m_cm w0) (i := (4 * m_cz v)) hx hb hK hP hD hS 6 rfl (by omega) (by decide) dX11_command_123 (fun H locs hP hD hS => ?_)
    have hP : va_P D vwCl (MW ct o (m_g w0, m_fl w0, m_ch w0, m_sv w0, m_why w0, m_det w0, m_li w0, m_ld w0, m_wt w0, m_wm w0, m_ln w0, m_lz w0, m_in w0, m_ty w0, m_he w0, m_wa w0, m_fa w0, (upd (m_cm w0) ((4 * m_cz v)) (nI (97))), m_cz w0) R) H := hP
    have hD : va_D A (MW ct o (m_g w0, m_fl w0, m_ch w0, m_sv w0, m_why w0, m_det w0, m_li w0, m_ld w0, m_wt w0, m_wm w0, m_ln w0, m_lz w0, m_in w0, m_ty w0, m_he w0, m_wa w0, m_fa w0, (upd (m_cm w0) ((4 * m_cz v)) (nI (97))), m_cz w0) R) := hD
    have hP : va_P D vwCl (MW ct o (setC w0 ((4 * m_cz v)) (nI (97))) R) H := hP
    have hD : va_D A (MW ct o (setC w0 ((4 * m_cz v)) (nI (97))) R) := hD
    refine lv_aload_n hx hb dX11_command_124 rfl (lv_at hl 1 rfl) ?_
    refine va_get (ci := 10) (v := .ref (o 6)) hx hb hts h_X11 hown hK hP 0 rfl rfl 17 (by decide) f31 (fun _ h9 => h9) rfl dX11_command_125 ?_
    refine lv_iload_n hx hb dX11_command_128 rfl (lv_at hl 2 rfl) ?_
    refine lv_iconst (v := nI (1)) hx hb dX11_command_129 (by decide) ?_
    refine zNadd hx hb dX11_command_130 ?_
    refine lv_aload_n hx hb dX11_command_131 rfl (lv_at hl 1 rfl) ?_
    refine lv_iload_n hx hb dX11_command_132 rfl (lv_at hl 0 rfl) ?_
    refine lv_bipush (v := nI (99)) hx hb dX11_command_133 (by decide) ?_
    refine lv_icmp_eq (tgt := 162) hx hb dX11_command_135 (by decide) (fun c9 => absurd c9 (by decide)) (fun c9 => ?_)
    refine lv_iload_n hx hb dX11_command_138 rfl (lv_at hl 0 rfl) ?_
    refine lv_bipush (v := nI (97)) hx hb dX11_command_139 (by decide) ?_
    refine lv_icmp_eq (tgt := 162) hx hb dX11_command_141 (by decide) (fun c9 => ?_) (fun c9 => absurd (by decide) c9)
    refine lv_iconst (v := nI (2)) hx hb dX11_command_162 (by decide) ?_
    refine lv_goto (tgt := 167) hx hb dX11_command_163 (by decide) ?_
    refine zVI [.int (nI (2))] [.int (nI (((4 * m_cz v) + 1))), .ref (o 6)] (kX11_behind_2 (o) ((setC w0 ((4 * m_cz v)) (nI (97)))) (R) (show okP (setC w0 ((4 * m_cz v)) (nI (97))) from (setC_ok hok09))) hx hb hml hown hts (cwV 1 hts gX11_command_X11_behind rfl rfl rfl (by decide +kernel) ⟨(Nat.le_of_ble_eq_true rfl), (Nat.le_of_ble_eq_true rfl)⟩) hK hP hD hS hA (va_recv hK hP (ci := 10) (q0 := 0) rfl rfl) rfl hl.1 rfl (Nat.le_of_ble_eq_true rfl) dX11_command_167 ⟨(Nat.le_of_ble_eq_true rfl), (Nat.le_of_ble_eq_true rfl)⟩ (fun r_167 _ H locs hr_167 hP hD hS => ?_)
    subst hr_167
    have hP : va_P D vwCl (MW ct o (F_bh2 (setC w0 ((4 * m_cz v)) (nI (97)))).2 R) H := hP
    have hD : va_D A (MW ct o (F_bh2 (setC w0 ((4 * m_cz v)) (nI (97)))).2 R) := hD
    obtain ⟨q1, hq1⟩ : ∃ q9, q9 = (F_bh2 (setC w0 ((4 * m_cz v)) (nI (97)))) := ⟨_, rfl⟩
    rw [← hq1] at hP hD ⊢
    have hok19 : okP (setN (((4 * m_cz v) + 1)) q1) := setN_ok (by rw [hq1]; exact (num2_ok (need_ok (by decide) (setC_ok hok09))))
    refine zIast (n := 244) (f := m_cm q1.2) (i := ((4 * m_cz v) + 1)) hx hb hK hP hD hS 6 rfl (by omega) (by decide) dX11_command_170 (fun H locs hP hD hS => ?_)
    have hP : va_P D vwCl (MW ct o (m_g q1.2, m_fl q1.2, m_ch q1.2, m_sv q1.2, m_why q1.2, m_det q1.2, m_li q1.2, m_ld q1.2, m_wt q1.2, m_wm q1.2, m_ln q1.2, m_lz q1.2, m_in q1.2, m_ty q1.2, m_he q1.2, m_wa q1.2, m_fa q1.2, (upd (m_cm q1.2) (((4 * m_cz v) + 1)) (q1.1)), m_cz q1.2) R) H := hP
    have hD : va_D A (MW ct o (m_g q1.2, m_fl q1.2, m_ch q1.2, m_sv q1.2, m_why q1.2, m_det q1.2, m_li q1.2, m_ld q1.2, m_wt q1.2, m_wm q1.2, m_ln q1.2, m_lz q1.2, m_in q1.2, m_ty q1.2, m_he q1.2, m_wa q1.2, m_fa q1.2, (upd (m_cm q1.2) (((4 * m_cz v) + 1)) (q1.1)), m_cz q1.2) R) := hD
    have hP : va_P D vwCl (MW ct o (setN (((4 * m_cz v) + 1)) q1) R) H := hP
    have hD : va_D A (MW ct o (setN (((4 * m_cz v) + 1)) q1) R) := hD
    refine lv_iload_n hx hb dX11_command_171 rfl (lv_at hl 0 rfl) ?_
    refine lv_tableOut (tgt := 298) hx hb dX11_command_172 (by decide) (by decide) ?_
    have e9 : F_cmd v = (setN (((4 * m_cz v) + 1)) q1) := (by rw [hq1, hw0]; exact cmd_a hfst hb113)
    exact zVret () hx hb hr hlocks hK (by show va_P D vwCl (MW ct o (F_cmd v) R) H; rw [e9]; exact hP) (by show va_D A (MW ct o (F_cmd v) R); rw [e9]; exact hD) hS dX11_command_298 trivial
  · skip
    refine zVI [.int (nI (99))] [] (kX11_word_c (o) ((c_1 v)) (R) (show okP (c_1 v) from hok1) (show ¬ sg ((m_in (c_1 v))) ((m_ty (c_1 v))) ((m_he (c_1 v))) = nI 97 from hb113)) hx hb hml hown hts (cwV 1 hts gX11_command_X11_word rfl rfl rfl (by decide +kernel) ⟨(Nat.le_of_ble_eq_true rfl), (Nat.le_of_ble_eq_true rfl)⟩) hK hP hD hS hA (va_recv hK hP (ci := 10) (q0 := 0) rfl rfl) rfl hl.1 rfl (Nat.le_of_ble_eq_true rfl) dX11_command_113 ⟨(Nat.le_of_ble_eq_true rfl), (Nat.le_of_ble_eq_true rfl)⟩ (fun r_113 _ H locs hr_113 hP hD hS => ?_)
    subst hr_113
    have hP : va_P D vwCl (MW ct o (W_c (c_1 v)) R) H := hP
    have hD : va_D A (MW ct o (W_c (c_1 v)) R) := hD
    obtain ⟨w0, hw0⟩ : ∃ w9, w9 = (W_c (c_1 v)) := ⟨_, rfl⟩
    rw [← hw0] at hP hD
    have hok09 : okP w0 := by rw [hw0]; exact (s3_ok (by decide) (by decide) (by decide) (s3_ok (by decide) (by decide) (by decide) (s3_ok (by decide) (by decide) (by decide) hok1)))
    have hP : va_P D vwCl (MW ct o w0 R) H := hP
    have hD : va_D A (MW ct o w0 R) := hD
    refine lv_istore_n (lv' := [(3, .int (nI (99))), (0, .ref (o 0)), (1, .int (nI ((4 * m_cz v)))), (2, .int (nI (99)))]) hx hb dX11_command_116 rfl hl (by decide) rfl (fun ls hl => ?_)
    refine lv_aload_n hx hb dX11_command_117 rfl (lv_at hl 1 rfl) ?_
    refine va_get (ci := 10) (v := .ref (o 6)) hx hb hts h_X11 hown hK hP 0 rfl rfl 17 (by decide) f31 (fun _ h9 => h9) rfl dX11_command_118 ?_
    refine lv_iload_n hx hb dX11_command_121 rfl (lv_at hl 2 rfl) ?_
    refine lv_iload_n hx hb dX11_command_122 rfl (lv_at hl 0 rfl) ?_
    refine zIast (n := 244) (f := m_cm w0) (i := (4 * m_cz v)) hx hb hK hP hD hS 6 rfl (by omega) (by decide) dX11_command_123 (fun H locs hP hD hS => ?_)
    have hP : va_P D vwCl (MW ct o (m_g w0, m_fl w0, m_ch w0, m_sv w0, m_why w0, m_det w0, m_li w0, m_ld w0, m_wt w0, m_wm w0, m_ln w0, m_lz w0, m_in w0, m_ty w0, m_he w0, m_wa w0, m_fa w0, (upd (m_cm w0) ((4 * m_cz v)) (nI (99))), m_cz w0) R) H := hP
    have hD : va_D A (MW ct o (m_g w0, m_fl w0, m_ch w0, m_sv w0, m_why w0, m_det w0, m_li w0, m_ld w0, m_wt w0, m_wm w0, m_ln w0, m_lz w0, m_in w0, m_ty w0, m_he w0, m_wa w0, m_fa w0, (upd (m_cm w0) ((4 * m_cz v)) (nI (99))), m_cz w0) R) := hD
    have hP : va_P D vwCl (MW ct o (setC w0 ((4 * m_cz v)) (nI (99))) R) H := hP
    have hD : va_D A (MW ct o (setC w0 ((4 * m_cz v)) (nI (99))) R) := hD
    refine lv_aload_n hx hb dX11_command_124 rfl (lv_at hl 1 rfl) ?_
    refine va_get (ci := 10) (v := .ref (o 6)) hx hb hts h_X11 hown hK hP 0 rfl rfl 17 (by decide) f31 (fun _ h9 => h9) rfl dX11_command_125 ?_
    refine lv_iload_n hx hb dX11_command_128 rfl (lv_at hl 2 rfl) ?_
    refine lv_iconst (v := nI (1)) hx hb dX11_command_129 (by decide) ?_
    refine zNadd hx hb dX11_command_130 ?_
    refine lv_aload_n hx hb dX11_command_131 rfl (lv_at hl 1 rfl) ?_
    refine lv_iload_n hx hb dX11_command_132 rfl (lv_at hl 0 rfl) ?_
    refine lv_bipush (v := nI (99)) hx hb dX11_command_133 (by decide) ?_
    refine lv_icmp_eq (tgt := 162) hx hb dX11_command_135 (by decide) (fun c9 => ?_) (fun c9 => absurd (by decide) c9)
    refine lv_iconst (v := nI (2)) hx hb dX11_command_162 (by decide) ?_
    refine lv_goto (tgt := 167) hx hb dX11_command_163 (by decide) ?_
    refine zVI [.int (nI (2))] [.int (nI (((4 * m_cz v) + 1))), .ref (o 6)] (kX11_behind_2 (o) ((setC w0 ((4 * m_cz v)) (nI (99)))) (R) (show okP (setC w0 ((4 * m_cz v)) (nI (99))) from (setC_ok hok09))) hx hb hml hown hts (cwV 1 hts gX11_command_X11_behind rfl rfl rfl (by decide +kernel) ⟨(Nat.le_of_ble_eq_true rfl), (Nat.le_of_ble_eq_true rfl)⟩) hK hP hD hS hA (va_recv hK hP (ci := 10) (q0 := 0) rfl rfl) rfl hl.1 rfl (Nat.le_of_ble_eq_true rfl) dX11_command_167 ⟨(Nat.le_of_ble_eq_true rfl), (Nat.le_of_ble_eq_true rfl)⟩ (fun r_167 _ H locs hr_167 hP hD hS => ?_)
    subst hr_167
    have hP : va_P D vwCl (MW ct o (F_bh2 (setC w0 ((4 * m_cz v)) (nI (99)))).2 R) H := hP
    have hD : va_D A (MW ct o (F_bh2 (setC w0 ((4 * m_cz v)) (nI (99)))).2 R) := hD
    obtain ⟨q1, hq1⟩ : ∃ q9, q9 = (F_bh2 (setC w0 ((4 * m_cz v)) (nI (99)))) := ⟨_, rfl⟩
    rw [← hq1] at hP hD ⊢
    have hok19 : okP (setN (((4 * m_cz v) + 1)) q1) := setN_ok (by rw [hq1]; exact (num2_ok (need_ok (by decide) (setC_ok hok09))))
    refine zIast (n := 244) (f := m_cm q1.2) (i := ((4 * m_cz v) + 1)) hx hb hK hP hD hS 6 rfl (by omega) (by decide) dX11_command_170 (fun H locs hP hD hS => ?_)
    have hP : va_P D vwCl (MW ct o (m_g q1.2, m_fl q1.2, m_ch q1.2, m_sv q1.2, m_why q1.2, m_det q1.2, m_li q1.2, m_ld q1.2, m_wt q1.2, m_wm q1.2, m_ln q1.2, m_lz q1.2, m_in q1.2, m_ty q1.2, m_he q1.2, m_wa q1.2, m_fa q1.2, (upd (m_cm q1.2) (((4 * m_cz v) + 1)) (q1.1)), m_cz q1.2) R) H := hP
    have hD : va_D A (MW ct o (m_g q1.2, m_fl q1.2, m_ch q1.2, m_sv q1.2, m_why q1.2, m_det q1.2, m_li q1.2, m_ld q1.2, m_wt q1.2, m_wm q1.2, m_ln q1.2, m_lz q1.2, m_in q1.2, m_ty q1.2, m_he q1.2, m_wa q1.2, m_fa q1.2, (upd (m_cm q1.2) (((4 * m_cz v) + 1)) (q1.1)), m_cz q1.2) R) := hD
    have hP : va_P D vwCl (MW ct o (setN (((4 * m_cz v) + 1)) q1) R) H := hP
    have hD : va_D A (MW ct o (setN (((4 * m_cz v) + 1)) q1) R) := hD
    refine lv_iload_n hx hb dX11_command_171 rfl (lv_at hl 0 rfl) ?_
    refine lv_tableOut (tgt := 298) hx hb dX11_command_172 (by decide) (by decide) ?_
    have e9 : F_cmd v = (setN (((4 * m_cz v) + 1)) q1) := (by rw [hq1, hw0]; exact cmd_c hfst hb113)
    exact zVret () hx hb hr hlocks hK (by show va_P D vwCl (MW ct o (F_cmd v) R) H; rw [e9]; exact hP) (by show va_D A (MW ct o (F_cmd v) R); rw [e9]; exact hD) hS dX11_command_298 trivial
set_option maxHeartbeats 4000000 in
set_option maxRecDepth 100000 in
theorem cmdw_114 {D : va_G} {ct : Nat → ClassId} {l : Launch} (o : Nat → Nat) (v : MS) (R : va_W)  (ho : okP v) (hcz : m_cz v ≤ 60) (g0 : ¬ sg (m_in v) (m_ty v) (m_he v) = nI 112) (g1 : ¬ sg (m_in v) (m_ty v) (m_he v) = nI 99) (hfst : sg (m_in v) (m_ty v) (m_he v) = nI 114) {p : Program} {e : Env} {s : State} {m : MethodId} {args : Array Value} {below : List Frame} {meth : Method} {c : Code} {A : Nat → Prop} {H : Heap} {locs : List Loc} {ls : Array Slot} (F : zF p yX11_command wsX11_command cX11_command 4 none s m args meth c) (hP : va_P D vwCl (MW ct o (m_g v, m_fl v, m_ch v, m_sv v, m_why v, m_det v, m_li v, m_ld v, m_wt v, m_wm v, m_ln v, m_lz v, m_in v, m_ty v, m_he v, m_wa v, m_fa v, (zr4 (m_cm v) (4 * m_cz v) 4), (m_cz v + 1)) R) H) (hK : zK D ct s) (hD : va_D A (MW ct o (m_g v, m_fl v, m_ch v, m_sv v, m_why v, m_det v, m_li v, m_ld v, m_wt v, m_wm v, m_ln v, m_lz v, m_in v, m_ty v, m_he v, m_wa v, m_fa v, (zr4 (m_cm v) (4 * m_cz v) 4), (m_cz v + 1)) R)) (hS : va_S A s.heap H locs) (hA : ∀ q, s.heap.size ≤ q → A q) (hl : lv_has ls 4 [(0, .ref (o 0)), (1, .int (nI ((4 * m_cz v)))), (2, .int ((sg (m_in v) (m_ty v) (m_he v)))), (3, .int (nI (4)))]) : W p l e rmX11_command s m args below meth c H locs 0 0 (MQ below (va_Qv (fun _ : Unit => True) (zB D ct A (fun _ : Unit => MW ct o (F_cmd v) R)) A) args s rmX11_command.cells rmX11_command.slots A) (F0 m 101 ls []) := by
  obtain ⟨hx, hb, hr, hlocks, hml, hown, hts, hin⟩ := F
  have hh0 : m_he v ≤ m_ty v := ho.1
  have ht0 : m_ty v ≤ 60 := ho.2
  have h_X11 := in_X11_command_X11
  have f31 := hts (.fieldLink RX11 31 "CartArgumentsModel" "commands" "[I") (by decide +kernel)
  have f195 := hts (.fieldLink RX11 195 "CartArgumentsModel" "here" "I") (by decide +kernel)
  have f198 := hts (.fieldLink RX11 198 "CartArgumentsModel" "wrongAt" "I") (by decide +kernel)
  have f215 := hts (.fieldLink RX11 215 "CartArgumentsModel" "commandMany" "I") (by decide +kernel)
  have hl : lv_has ls 4 [(0, .ref (o 0)), (1, .int (nI ((4 * m_cz v)))), (2, .int (nI (114))), (3, .int (nI (4)))] := (by have hl9 := hl; rw [show sg (m_in v) (m_ty v) (m_he v) = nI (114) from hfst] at hl9; exact hl9)
  have hok1 : okP (c_1 v) := ⟨sg_ne hfst (by decide), ho.2⟩
  have hh1 : m_he v + 1 ≤ m_ty v := hok1.1
  refine lv_aload_n hx hb dX11_command_101 rfl (lv_at hl 0 rfl) ?_
  refine lv_dup hx hb dX11_command_102 rfl ?_
  refine va_get (ci := 10) (v := .int (nI (m_he v))) hx hb hts h_X11 hown hK hP 0 rfl rfl 14 (by decide) f195 (fun _ h9 => h9) rfl dX11_command_103 ?_
  refine lv_iconst (v := nI (1)) hx hb dX11_command_106 (by decide) ?_
  refine zNadd hx hb dX11_command_107 ?_
  refine va_put (ci := 10) (v := .int (nI ((m_he v + 1)))) (ty := .int) hx hb hts h_X11 tyX11 tyX11_ok nmX11 hown hK hP hD hS 0 rfl rfl 14 (by decide) f195 (fun _ h9 => h9) rfl (by decide +kernel) rfl rfl (Nat.le_of_ble_eq_true rfl) dX11_command_108 (fun H locs hP hD hS => ?_)
  have hP : va_P D vwCl (MW ct o (m_g v, m_fl v, m_ch v, m_sv v, m_why v, m_det v, m_li v, m_ld v, m_wt v, m_wm v, m_ln v, m_lz v, m_in v, m_ty v, (m_he v + 1), m_wa v, m_fa v, (zr4 (m_cm v) (4 * m_cz v) 4), (m_cz v + 1)) R) H := hP
  have hD : va_D A (MW ct o (m_g v, m_fl v, m_ch v, m_sv v, m_why v, m_det v, m_li v, m_ld v, m_wt v, m_wm v, m_ln v, m_lz v, m_in v, m_ty v, (m_he v + 1), m_wa v, m_fa v, (zr4 (m_cm v) (4 * m_cz v) 4), (m_cz v + 1)) R) := hD
  have hP : va_P D vwCl (MW ct o (c_1 v) R) H := hP
  have hD : va_D A (MW ct o (c_1 v) R) := hD
  refine lv_aload_n hx hb dX11_command_111 rfl (lv_at hl 0 rfl) ?_
  refine lv_iload_n hx hb dX11_command_112 rfl (lv_at hl 2 rfl) ?_
  refine zVI [.int (nI (114))] [] (kX11_word_r (o) ((c_1 v)) (R) (show okP (c_1 v) from hok1)) hx hb hml hown hts (cwV 1 hts gX11_command_X11_word rfl rfl rfl (by decide +kernel) ⟨(Nat.le_of_ble_eq_true rfl), (Nat.le_of_ble_eq_true rfl)⟩) hK hP hD hS hA (va_recv hK hP (ci := 10) (q0 := 0) rfl rfl) rfl hl.1 rfl (Nat.le_of_ble_eq_true rfl) dX11_command_113 ⟨(Nat.le_of_ble_eq_true rfl), (Nat.le_of_ble_eq_true rfl)⟩ (fun r_113 _ H locs hr_113 hP hD hS => ?_)
  subst hr_113
  have hP : va_P D vwCl (MW ct o (W_r (c_1 v)) R) H := hP
  have hD : va_D A (MW ct o (W_r (c_1 v)) R) := hD
  obtain ⟨w0, hw0⟩ : ∃ w9, w9 = (W_r (c_1 v)) := ⟨_, rfl⟩
  rw [← hw0] at hP hD
  have hok09 : okP w0 := by rw [hw0]; exact (s3_ok (by decide) (by decide) (by decide) hok1)
  have hP : va_P D vwCl (MW ct o w0 R) H := hP
  have hD : va_D A (MW ct o w0 R) := hD
  refine lv_istore_n (lv' := [(3, .int (nI (114))), (0, .ref (o 0)), (1, .int (nI ((4 * m_cz v)))), (2, .int (nI (114)))]) hx hb dX11_command_116 rfl hl (by decide) rfl (fun ls hl => ?_)
  refine lv_aload_n hx hb dX11_command_117 rfl (lv_at hl 1 rfl) ?_
  refine va_get (ci := 10) (v := .ref (o 6)) hx hb hts h_X11 hown hK hP 0 rfl rfl 17 (by decide) f31 (fun _ h9 => h9) rfl dX11_command_118 ?_
  refine lv_iload_n hx hb dX11_command_121 rfl (lv_at hl 2 rfl) ?_
  refine lv_iload_n hx hb dX11_command_122 rfl (lv_at hl 0 rfl) ?_
  refine zIast (n := 244) (f := m_cm w0) (i := (4 * m_cz v)) hx hb hK hP hD hS 6 rfl (by omega) (by decide) dX11_command_123 (fun H locs hP hD hS => ?_)
  have hP : va_P D vwCl (MW ct o (m_g w0, m_fl w0, m_ch w0, m_sv w0, m_why w0, m_det w0, m_li w0, m_ld w0, m_wt w0, m_wm w0, m_ln w0, m_lz w0, m_in w0, m_ty w0, m_he w0, m_wa w0, m_fa w0, (upd (m_cm w0) ((4 * m_cz v)) (nI (114))), m_cz w0) R) H := hP
  have hD : va_D A (MW ct o (m_g w0, m_fl w0, m_ch w0, m_sv w0, m_why w0, m_det w0, m_li w0, m_ld w0, m_wt w0, m_wm w0, m_ln w0, m_lz w0, m_in w0, m_ty w0, m_he w0, m_wa w0, m_fa w0, (upd (m_cm w0) ((4 * m_cz v)) (nI (114))), m_cz w0) R) := hD
  have hP : va_P D vwCl (MW ct o (setC w0 ((4 * m_cz v)) (nI (114))) R) H := hP
  have hD : va_D A (MW ct o (setC w0 ((4 * m_cz v)) (nI (114))) R) := hD
  refine lv_aload_n hx hb dX11_command_124 rfl (lv_at hl 1 rfl) ?_
  refine va_get (ci := 10) (v := .ref (o 6)) hx hb hts h_X11 hown hK hP 0 rfl rfl 17 (by decide) f31 (fun _ h9 => h9) rfl dX11_command_125 ?_
  refine lv_iload_n hx hb dX11_command_128 rfl (lv_at hl 2 rfl) ?_
  refine lv_iconst (v := nI (1)) hx hb dX11_command_129 (by decide) ?_
  refine zNadd hx hb dX11_command_130 ?_
  refine lv_aload_n hx hb dX11_command_131 rfl (lv_at hl 1 rfl) ?_
  refine lv_iload_n hx hb dX11_command_132 rfl (lv_at hl 0 rfl) ?_
  refine lv_bipush (v := nI (99)) hx hb dX11_command_133 (by decide) ?_
  refine lv_icmp_eq (tgt := 162) hx hb dX11_command_135 (by decide) (fun c9 => absurd c9 (by decide)) (fun c9 => ?_)
  refine lv_iload_n hx hb dX11_command_138 rfl (lv_at hl 0 rfl) ?_
  refine lv_bipush (v := nI (97)) hx hb dX11_command_139 (by decide) ?_
  refine lv_icmp_eq (tgt := 162) hx hb dX11_command_141 (by decide) (fun c9 => absurd c9 (by decide)) (fun c9 => ?_)
  refine lv_iload_n hx hb dX11_command_144 rfl (lv_at hl 0 rfl) ?_
  refine lv_bipush (v := nI (114)) hx hb dX11_command_145 (by decide) ?_
  refine lv_icmp_eq (tgt := 162) hx hb dX11_command_147 (by decide) (fun c9 => ?_) (fun c9 => absurd (by decide) c9)
  refine lv_iconst (v := nI (2)) hx hb dX11_command_162 (by decide) ?_
  refine lv_goto (tgt := 167) hx hb dX11_command_163 (by decide) ?_
  refine zVI [.int (nI (2))] [.int (nI (((4 * m_cz v) + 1))), .ref (o 6)] (kX11_behind_2 (o) ((setC w0 ((4 * m_cz v)) (nI (114)))) (R) (show okP (setC w0 ((4 * m_cz v)) (nI (114))) from (setC_ok hok09))) hx hb hml hown hts (cwV 1 hts gX11_command_X11_behind rfl rfl rfl (by decide +kernel) ⟨(Nat.le_of_ble_eq_true rfl), (Nat.le_of_ble_eq_true rfl)⟩) hK hP hD hS hA (va_recv hK hP (ci := 10) (q0 := 0) rfl rfl) rfl hl.1 rfl (Nat.le_of_ble_eq_true rfl) dX11_command_167 ⟨(Nat.le_of_ble_eq_true rfl), (Nat.le_of_ble_eq_true rfl)⟩ (fun r_167 _ H locs hr_167 hP hD hS => ?_)
  subst hr_167
  have hP : va_P D vwCl (MW ct o (F_bh2 (setC w0 ((4 * m_cz v)) (nI (114)))).2 R) H := hP
  have hD : va_D A (MW ct o (F_bh2 (setC w0 ((4 * m_cz v)) (nI (114)))).2 R) := hD
  obtain ⟨q1, hq1⟩ : ∃ q9, q9 = (F_bh2 (setC w0 ((4 * m_cz v)) (nI (114)))) := ⟨_, rfl⟩
  rw [← hq1] at hP hD ⊢
  have hok19 : okP (setN (((4 * m_cz v) + 1)) q1) := setN_ok (by rw [hq1]; exact (num2_ok (need_ok (by decide) (setC_ok hok09))))
  refine zIast (n := 244) (f := m_cm q1.2) (i := ((4 * m_cz v) + 1)) hx hb hK hP hD hS 6 rfl (by omega) (by decide) dX11_command_170 (fun H locs hP hD hS => ?_)
  have hP : va_P D vwCl (MW ct o (m_g q1.2, m_fl q1.2, m_ch q1.2, m_sv q1.2, m_why q1.2, m_det q1.2, m_li q1.2, m_ld q1.2, m_wt q1.2, m_wm q1.2, m_ln q1.2, m_lz q1.2, m_in q1.2, m_ty q1.2, m_he q1.2, m_wa q1.2, m_fa q1.2, (upd (m_cm q1.2) (((4 * m_cz v) + 1)) (q1.1)), m_cz q1.2) R) H := hP
  have hD : va_D A (MW ct o (m_g q1.2, m_fl q1.2, m_ch q1.2, m_sv q1.2, m_why q1.2, m_det q1.2, m_li q1.2, m_ld q1.2, m_wt q1.2, m_wm q1.2, m_ln q1.2, m_lz q1.2, m_in q1.2, m_ty q1.2, m_he q1.2, m_wa q1.2, m_fa q1.2, (upd (m_cm q1.2) (((4 * m_cz v) + 1)) (q1.1)), m_cz q1.2) R) := hD
  have hP : va_P D vwCl (MW ct o (setN (((4 * m_cz v) + 1)) q1) R) H := hP
  have hD : va_D A (MW ct o (setN (((4 * m_cz v) + 1)) q1) R) := hD
  refine lv_iload_n hx hb dX11_command_171 rfl (lv_at hl 0 rfl) ?_
  refine lv_tableIn (off := 52) (tgt := 224) hx hb dX11_command_172 (by decide) (by decide) (by rfl) (by decide) ?_
  refine lv_aload_n hx hb dX11_command_224 rfl (lv_at hl 1 rfl) ?_
  refine va_get (ci := 10) (v := .ref (o 6)) hx hb hts h_X11 hown hK hP 0 rfl rfl 17 (by decide) f31 (fun _ h9 => h9) rfl dX11_command_225 ?_
  refine lv_iload_n hx hb dX11_command_228 rfl (lv_at hl 2 rfl) ?_
  refine lv_iconst (v := nI (2)) hx hb dX11_command_229 (by decide) ?_
  refine zNadd hx hb dX11_command_230 ?_
  refine lv_aload_n hx hb dX11_command_231 rfl (lv_at hl 1 rfl) ?_
  refine lv_iconst (v := nI (1)) hx hb dX11_command_232 (by decide) ?_
  refine zVI [.int (nI (1))] [.int (nI (((4 * m_cz v) + 2))), .ref (o 6)] (kX11_behind_1 (o) ((setN (((4 * m_cz v) + 1)) q1)) (R) (show okP (setN (((4 * m_cz v) + 1)) q1) from hok19)) hx hb hml hown hts (cwV 1 hts gX11_command_X11_behind rfl rfl rfl (by decide +kernel) ⟨(Nat.le_of_ble_eq_true rfl), (Nat.le_of_ble_eq_true rfl)⟩) hK hP hD hS hA (va_recv hK hP (ci := 10) (q0 := 0) rfl rfl) rfl hl.1 rfl (Nat.le_of_ble_eq_true rfl) dX11_command_233 ⟨(Nat.le_of_ble_eq_true rfl), (Nat.le_of_ble_eq_true rfl)⟩ (fun r_233 _ H locs hr_233 hP hD hS => ?_)
  subst hr_233
  have hP : va_P D vwCl (MW ct o (F_bh1 (setN (((4 * m_cz v) + 1)) q1)).2 R) H := hP
  have hD : va_D A (MW ct o (F_bh1 (setN (((4 * m_cz v) + 1)) q1)).2 R) := hD
  obtain ⟨q2, hq2⟩ : ∃ q9, q9 = (F_bh1 (setN (((4 * m_cz v) + 1)) q1)) := ⟨_, rfl⟩
  rw [← hq2] at hP hD ⊢
  have hok29 : okP (setN (((4 * m_cz v) + 2)) q2) := setN_ok (by rw [hq2]; exact (num1_ok (need_ok (by decide) hok19)))
  refine zIast (n := 244) (f := m_cm q2.2) (i := ((4 * m_cz v) + 2)) hx hb hK hP hD hS 6 rfl (by omega) (by decide) dX11_command_236 (fun H locs hP hD hS => ?_)
  have hP : va_P D vwCl (MW ct o (m_g q2.2, m_fl q2.2, m_ch q2.2, m_sv q2.2, m_why q2.2, m_det q2.2, m_li q2.2, m_ld q2.2, m_wt q2.2, m_wm q2.2, m_ln q2.2, m_lz q2.2, m_in q2.2, m_ty q2.2, m_he q2.2, m_wa q2.2, m_fa q2.2, (upd (m_cm q2.2) (((4 * m_cz v) + 2)) (q2.1)), m_cz q2.2) R) H := hP
  have hD : va_D A (MW ct o (m_g q2.2, m_fl q2.2, m_ch q2.2, m_sv q2.2, m_why q2.2, m_det q2.2, m_li q2.2, m_ld q2.2, m_wt q2.2, m_wm q2.2, m_ln q2.2, m_lz q2.2, m_in q2.2, m_ty q2.2, m_he q2.2, m_wa q2.2, m_fa q2.2, (upd (m_cm q2.2) (((4 * m_cz v) + 2)) (q2.1)), m_cz q2.2) R) := hD
  have hP : va_P D vwCl (MW ct o (setN (((4 * m_cz v) + 2)) q2) R) H := hP
  have hD : va_D A (MW ct o (setN (((4 * m_cz v) + 2)) q2) R) := hD
  refine lv_aload_n hx hb dX11_command_237 rfl (lv_at hl 1 rfl) ?_
  refine va_get (ci := 10) (v := .ref (o 6)) hx hb hts h_X11 hown hK hP 0 rfl rfl 17 (by decide) f31 (fun _ h9 => h9) rfl dX11_command_238 ?_
  refine lv_iload_n hx hb dX11_command_241 rfl (lv_at hl 2 rfl) ?_
  refine lv_iconst (v := nI (3)) hx hb dX11_command_242 (by decide) ?_
  refine zNadd hx hb dX11_command_243 ?_
  refine lv_aload_n hx hb dX11_command_244 rfl (lv_at hl 1 rfl) ?_
  refine lv_iconst (v := nI (1)) hx hb dX11_command_245 (by decide) ?_
  refine zVI [.int (nI (1))] [.int (nI (((4 * m_cz v) + 3))), .ref (o 6)] (kX11_behind_1 (o) ((setN (((4 * m_cz v) + 2)) q2)) (R) (show okP (setN (((4 * m_cz v) + 2)) q2) from hok29)) hx hb hml hown hts (cwV 1 hts gX11_command_X11_behind rfl rfl rfl (by decide +kernel) ⟨(Nat.le_of_ble_eq_true rfl), (Nat.le_of_ble_eq_true rfl)⟩) hK hP hD hS hA (va_recv hK hP (ci := 10) (q0 := 0) rfl rfl) rfl hl.1 rfl (Nat.le_of_ble_eq_true rfl) dX11_command_246 ⟨(Nat.le_of_ble_eq_true rfl), (Nat.le_of_ble_eq_true rfl)⟩ (fun r_246 _ H locs hr_246 hP hD hS => ?_)
  subst hr_246
  have hP : va_P D vwCl (MW ct o (F_bh1 (setN (((4 * m_cz v) + 2)) q2)).2 R) H := hP
  have hD : va_D A (MW ct o (F_bh1 (setN (((4 * m_cz v) + 2)) q2)).2 R) := hD
  obtain ⟨q3, hq3⟩ : ∃ q9, q9 = (F_bh1 (setN (((4 * m_cz v) + 2)) q2)) := ⟨_, rfl⟩
  rw [← hq3] at hP hD ⊢
  have hok39 : okP (setN (((4 * m_cz v) + 3)) q3) := setN_ok (by rw [hq3]; exact (num1_ok (need_ok (by decide) hok29)))
  refine zIast (n := 244) (f := m_cm q3.2) (i := ((4 * m_cz v) + 3)) hx hb hK hP hD hS 6 rfl (by omega) (by decide) dX11_command_249 (fun H locs hP hD hS => ?_)
  have hP : va_P D vwCl (MW ct o (m_g q3.2, m_fl q3.2, m_ch q3.2, m_sv q3.2, m_why q3.2, m_det q3.2, m_li q3.2, m_ld q3.2, m_wt q3.2, m_wm q3.2, m_ln q3.2, m_lz q3.2, m_in q3.2, m_ty q3.2, m_he q3.2, m_wa q3.2, m_fa q3.2, (upd (m_cm q3.2) (((4 * m_cz v) + 3)) (q3.1)), m_cz q3.2) R) H := hP
  have hD : va_D A (MW ct o (m_g q3.2, m_fl q3.2, m_ch q3.2, m_sv q3.2, m_why q3.2, m_det q3.2, m_li q3.2, m_ld q3.2, m_wt q3.2, m_wm q3.2, m_ln q3.2, m_lz q3.2, m_in q3.2, m_ty q3.2, m_he q3.2, m_wa q3.2, m_fa q3.2, (upd (m_cm q3.2) (((4 * m_cz v) + 3)) (q3.1)), m_cz q3.2) R) := hD
  have hP : va_P D vwCl (MW ct o (setN (((4 * m_cz v) + 3)) q3) R) H := hP
  have hD : va_D A (MW ct o (setN (((4 * m_cz v) + 3)) q3) R) := hD
  refine lv_goto (tgt := 298) hx hb dX11_command_250 (by decide) ?_
  have e9 : F_cmd v = (setN (((4 * m_cz v) + 3)) q3) := (by rw [hq3, hq2, hq1, hw0]; exact cmd_r hfst)
  exact zVret () hx hb hr hlocks hK (by show va_P D vwCl (MW ct o (F_cmd v) R) H; rw [e9]; exact hP) (by show va_D A (MW ct o (F_cmd v) R); rw [e9]; exact hD) hS dX11_command_298 trivial
set_option maxHeartbeats 4000000 in
set_option maxRecDepth 100000 in
theorem cmdw_108 {D : va_G} {ct : Nat → ClassId} {l : Launch} (o : Nat → Nat) (v : MS) (R : va_W)  (ho : okP v) (hcz : m_cz v ≤ 60) (g0 : ¬ sg (m_in v) (m_ty v) (m_he v) = nI 112) (g1 : ¬ sg (m_in v) (m_ty v) (m_he v) = nI 99) (g2 : ¬ sg (m_in v) (m_ty v) (m_he v) = nI 114) (hfst : sg (m_in v) (m_ty v) (m_he v) = nI 108) {p : Program} {e : Env} {s : State} {m : MethodId} {args : Array Value} {below : List Frame} {meth : Method} {c : Code} {A : Nat → Prop} {H : Heap} {locs : List Loc} {ls : Array Slot} (F : zF p yX11_command wsX11_command cX11_command 4 none s m args meth c) (hP : va_P D vwCl (MW ct o (m_g v, m_fl v, m_ch v, m_sv v, m_why v, m_det v, m_li v, m_ld v, m_wt v, m_wm v, m_ln v, m_lz v, m_in v, m_ty v, m_he v, m_wa v, m_fa v, (zr4 (m_cm v) (4 * m_cz v) 4), (m_cz v + 1)) R) H) (hK : zK D ct s) (hD : va_D A (MW ct o (m_g v, m_fl v, m_ch v, m_sv v, m_why v, m_det v, m_li v, m_ld v, m_wt v, m_wm v, m_ln v, m_lz v, m_in v, m_ty v, m_he v, m_wa v, m_fa v, (zr4 (m_cm v) (4 * m_cz v) 4), (m_cz v + 1)) R)) (hS : va_S A s.heap H locs) (hA : ∀ q, s.heap.size ≤ q → A q) (hl : lv_has ls 4 [(0, .ref (o 0)), (1, .int (nI ((4 * m_cz v)))), (2, .int ((sg (m_in v) (m_ty v) (m_he v)))), (3, .int (nI (4)))]) : W p l e rmX11_command s m args below meth c H locs 0 0 (MQ below (va_Qv (fun _ : Unit => True) (zB D ct A (fun _ : Unit => MW ct o (F_cmd v) R)) A) args s rmX11_command.cells rmX11_command.slots A) (F0 m 101 ls []) := by
  obtain ⟨hx, hb, hr, hlocks, hml, hown, hts, hin⟩ := F
  have hh0 : m_he v ≤ m_ty v := ho.1
  have ht0 : m_ty v ≤ 60 := ho.2
  have h_X11 := in_X11_command_X11
  have f31 := hts (.fieldLink RX11 31 "CartArgumentsModel" "commands" "[I") (by decide +kernel)
  have f195 := hts (.fieldLink RX11 195 "CartArgumentsModel" "here" "I") (by decide +kernel)
  have f198 := hts (.fieldLink RX11 198 "CartArgumentsModel" "wrongAt" "I") (by decide +kernel)
  have f215 := hts (.fieldLink RX11 215 "CartArgumentsModel" "commandMany" "I") (by decide +kernel)
  have hl : lv_has ls 4 [(0, .ref (o 0)), (1, .int (nI ((4 * m_cz v)))), (2, .int (nI (108))), (3, .int (nI (4)))] := (by have hl9 := hl; rw [show sg (m_in v) (m_ty v) (m_he v) = nI (108) from hfst] at hl9; exact hl9)
  have hok1 : okP (c_1 v) := ⟨sg_ne hfst (by decide), ho.2⟩
  have hh1 : m_he v + 1 ≤ m_ty v := hok1.1
  refine lv_aload_n hx hb dX11_command_101 rfl (lv_at hl 0 rfl) ?_
  refine lv_dup hx hb dX11_command_102 rfl ?_
  refine va_get (ci := 10) (v := .int (nI (m_he v))) hx hb hts h_X11 hown hK hP 0 rfl rfl 14 (by decide) f195 (fun _ h9 => h9) rfl dX11_command_103 ?_
  refine lv_iconst (v := nI (1)) hx hb dX11_command_106 (by decide) ?_
  refine zNadd hx hb dX11_command_107 ?_
  refine va_put (ci := 10) (v := .int (nI ((m_he v + 1)))) (ty := .int) hx hb hts h_X11 tyX11 tyX11_ok nmX11 hown hK hP hD hS 0 rfl rfl 14 (by decide) f195 (fun _ h9 => h9) rfl (by decide +kernel) rfl rfl (Nat.le_of_ble_eq_true rfl) dX11_command_108 (fun H locs hP hD hS => ?_)
  have hP : va_P D vwCl (MW ct o (m_g v, m_fl v, m_ch v, m_sv v, m_why v, m_det v, m_li v, m_ld v, m_wt v, m_wm v, m_ln v, m_lz v, m_in v, m_ty v, (m_he v + 1), m_wa v, m_fa v, (zr4 (m_cm v) (4 * m_cz v) 4), (m_cz v + 1)) R) H := hP
  have hD : va_D A (MW ct o (m_g v, m_fl v, m_ch v, m_sv v, m_why v, m_det v, m_li v, m_ld v, m_wt v, m_wm v, m_ln v, m_lz v, m_in v, m_ty v, (m_he v + 1), m_wa v, m_fa v, (zr4 (m_cm v) (4 * m_cz v) 4), (m_cz v + 1)) R) := hD
  have hP : va_P D vwCl (MW ct o (c_1 v) R) H := hP
  have hD : va_D A (MW ct o (c_1 v) R) := hD
  refine lv_aload_n hx hb dX11_command_111 rfl (lv_at hl 0 rfl) ?_
  refine lv_iload_n hx hb dX11_command_112 rfl (lv_at hl 2 rfl) ?_
  refine zVI [.int (nI (108))] [] (kX11_word_l (o) ((c_1 v)) (R) (show okP (c_1 v) from hok1)) hx hb hml hown hts (cwV 1 hts gX11_command_X11_word rfl rfl rfl (by decide +kernel) ⟨(Nat.le_of_ble_eq_true rfl), (Nat.le_of_ble_eq_true rfl)⟩) hK hP hD hS hA (va_recv hK hP (ci := 10) (q0 := 0) rfl rfl) rfl hl.1 rfl (Nat.le_of_ble_eq_true rfl) dX11_command_113 ⟨(Nat.le_of_ble_eq_true rfl), (Nat.le_of_ble_eq_true rfl)⟩ (fun r_113 _ H locs hr_113 hP hD hS => ?_)
  subst hr_113
  have hP : va_P D vwCl (MW ct o (W_r (c_1 v)) R) H := hP
  have hD : va_D A (MW ct o (W_r (c_1 v)) R) := hD
  obtain ⟨w0, hw0⟩ : ∃ w9, w9 = (W_r (c_1 v)) := ⟨_, rfl⟩
  rw [← hw0] at hP hD
  have hok09 : okP w0 := by rw [hw0]; exact (s3_ok (by decide) (by decide) (by decide) hok1)
  have hP : va_P D vwCl (MW ct o w0 R) H := hP
  have hD : va_D A (MW ct o w0 R) := hD
  refine lv_istore_n (lv' := [(3, .int (nI (108))), (0, .ref (o 0)), (1, .int (nI ((4 * m_cz v)))), (2, .int (nI (108)))]) hx hb dX11_command_116 rfl hl (by decide) rfl (fun ls hl => ?_)
  refine lv_aload_n hx hb dX11_command_117 rfl (lv_at hl 1 rfl) ?_
  refine va_get (ci := 10) (v := .ref (o 6)) hx hb hts h_X11 hown hK hP 0 rfl rfl 17 (by decide) f31 (fun _ h9 => h9) rfl dX11_command_118 ?_
  refine lv_iload_n hx hb dX11_command_121 rfl (lv_at hl 2 rfl) ?_
  refine lv_iload_n hx hb dX11_command_122 rfl (lv_at hl 0 rfl) ?_
  refine zIast (n := 244) (f := m_cm w0) (i := (4 * m_cz v)) hx hb hK hP hD hS 6 rfl (by omega) (by decide) dX11_command_123 (fun H locs hP hD hS => ?_)
  have hP : va_P D vwCl (MW ct o (m_g w0, m_fl w0, m_ch w0, m_sv w0, m_why w0, m_det w0, m_li w0, m_ld w0, m_wt w0, m_wm w0, m_ln w0, m_lz w0, m_in w0, m_ty w0, m_he w0, m_wa w0, m_fa w0, (upd (m_cm w0) ((4 * m_cz v)) (nI (108))), m_cz w0) R) H := hP
  have hD : va_D A (MW ct o (m_g w0, m_fl w0, m_ch w0, m_sv w0, m_why w0, m_det w0, m_li w0, m_ld w0, m_wt w0, m_wm w0, m_ln w0, m_lz w0, m_in w0, m_ty w0, m_he w0, m_wa w0, m_fa w0, (upd (m_cm w0) ((4 * m_cz v)) (nI (108))), m_cz w0) R) := hD
  have hP : va_P D vwCl (MW ct o (setC w0 ((4 * m_cz v)) (nI (108))) R) H := hP
  have hD : va_D A (MW ct o (setC w0 ((4 * m_cz v)) (nI (108))) R) := hD
  refine lv_aload_n hx hb dX11_command_124 rfl (lv_at hl 1 rfl) ?_
  refine va_get (ci := 10) (v := .ref (o 6)) hx hb hts h_X11 hown hK hP 0 rfl rfl 17 (by decide) f31 (fun _ h9 => h9) rfl dX11_command_125 ?_
  refine lv_iload_n hx hb dX11_command_128 rfl (lv_at hl 2 rfl) ?_
  refine lv_iconst (v := nI (1)) hx hb dX11_command_129 (by decide) ?_
  refine zNadd hx hb dX11_command_130 ?_
  refine lv_aload_n hx hb dX11_command_131 rfl (lv_at hl 1 rfl) ?_
  refine lv_iload_n hx hb dX11_command_132 rfl (lv_at hl 0 rfl) ?_
  refine lv_bipush (v := nI (99)) hx hb dX11_command_133 (by decide) ?_
  refine lv_icmp_eq (tgt := 162) hx hb dX11_command_135 (by decide) (fun c9 => absurd c9 (by decide)) (fun c9 => ?_)
  refine lv_iload_n hx hb dX11_command_138 rfl (lv_at hl 0 rfl) ?_
  refine lv_bipush (v := nI (97)) hx hb dX11_command_139 (by decide) ?_
  refine lv_icmp_eq (tgt := 162) hx hb dX11_command_141 (by decide) (fun c9 => absurd c9 (by decide)) (fun c9 => ?_)
  refine lv_iload_n hx hb dX11_command_144 rfl (lv_at hl 0 rfl) ?_
  refine lv_bipush (v := nI (114)) hx hb dX11_command_145 (by decide) ?_
  refine lv_icmp_eq (tgt := 162) hx hb dX11_command_147 (by decide) (fun c9 => absurd c9 (by decide)) (fun c9 => ?_)
  refine lv_iload_n hx hb dX11_command_150 rfl (lv_at hl 0 rfl) ?_
  refine lv_bipush (v := nI (108)) hx hb dX11_command_151 (by decide) ?_
  refine lv_icmp_eq (tgt := 162) hx hb dX11_command_153 (by decide) (fun c9 => ?_) (fun c9 => absurd (by decide) c9)
  refine lv_iconst (v := nI (2)) hx hb dX11_command_162 (by decide) ?_
  refine lv_goto (tgt := 167) hx hb dX11_command_163 (by decide) ?_
  refine zVI [.int (nI (2))] [.int (nI (((4 * m_cz v) + 1))), .ref (o 6)] (kX11_behind_2 (o) ((setC w0 ((4 * m_cz v)) (nI (108)))) (R) (show okP (setC w0 ((4 * m_cz v)) (nI (108))) from (setC_ok hok09))) hx hb hml hown hts (cwV 1 hts gX11_command_X11_behind rfl rfl rfl (by decide +kernel) ⟨(Nat.le_of_ble_eq_true rfl), (Nat.le_of_ble_eq_true rfl)⟩) hK hP hD hS hA (va_recv hK hP (ci := 10) (q0 := 0) rfl rfl) rfl hl.1 rfl (Nat.le_of_ble_eq_true rfl) dX11_command_167 ⟨(Nat.le_of_ble_eq_true rfl), (Nat.le_of_ble_eq_true rfl)⟩ (fun r_167 _ H locs hr_167 hP hD hS => ?_)
  subst hr_167
  have hP : va_P D vwCl (MW ct o (F_bh2 (setC w0 ((4 * m_cz v)) (nI (108)))).2 R) H := hP
  have hD : va_D A (MW ct o (F_bh2 (setC w0 ((4 * m_cz v)) (nI (108)))).2 R) := hD
  obtain ⟨q1, hq1⟩ : ∃ q9, q9 = (F_bh2 (setC w0 ((4 * m_cz v)) (nI (108)))) := ⟨_, rfl⟩
  rw [← hq1] at hP hD ⊢
  have hok19 : okP (setN (((4 * m_cz v) + 1)) q1) := setN_ok (by rw [hq1]; exact (num2_ok (need_ok (by decide) (setC_ok hok09))))
  refine zIast (n := 244) (f := m_cm q1.2) (i := ((4 * m_cz v) + 1)) hx hb hK hP hD hS 6 rfl (by omega) (by decide) dX11_command_170 (fun H locs hP hD hS => ?_)
  have hP : va_P D vwCl (MW ct o (m_g q1.2, m_fl q1.2, m_ch q1.2, m_sv q1.2, m_why q1.2, m_det q1.2, m_li q1.2, m_ld q1.2, m_wt q1.2, m_wm q1.2, m_ln q1.2, m_lz q1.2, m_in q1.2, m_ty q1.2, m_he q1.2, m_wa q1.2, m_fa q1.2, (upd (m_cm q1.2) (((4 * m_cz v) + 1)) (q1.1)), m_cz q1.2) R) H := hP
  have hD : va_D A (MW ct o (m_g q1.2, m_fl q1.2, m_ch q1.2, m_sv q1.2, m_why q1.2, m_det q1.2, m_li q1.2, m_ld q1.2, m_wt q1.2, m_wm q1.2, m_ln q1.2, m_lz q1.2, m_in q1.2, m_ty q1.2, m_he q1.2, m_wa q1.2, m_fa q1.2, (upd (m_cm q1.2) (((4 * m_cz v) + 1)) (q1.1)), m_cz q1.2) R) := hD
  have hP : va_P D vwCl (MW ct o (setN (((4 * m_cz v) + 1)) q1) R) H := hP
  have hD : va_D A (MW ct o (setN (((4 * m_cz v) + 1)) q1) R) := hD
  refine lv_iload_n hx hb dX11_command_171 rfl (lv_at hl 0 rfl) ?_
  refine lv_tableIn (off := 81) (tgt := 253) hx hb dX11_command_172 (by decide) (by decide) (by rfl) (by decide) ?_
  refine lv_aload_n hx hb dX11_command_253 rfl (lv_at hl 1 rfl) ?_
  refine va_get (ci := 10) (v := .ref (o 6)) hx hb hts h_X11 hown hK hP 0 rfl rfl 17 (by decide) f31 (fun _ h9 => h9) rfl dX11_command_254 ?_
  refine lv_iload_n hx hb dX11_command_257 rfl (lv_at hl 2 rfl) ?_
  refine lv_iconst (v := nI (2)) hx hb dX11_command_258 (by decide) ?_
  refine zNadd hx hb dX11_command_259 ?_
  refine lv_aload_n hx hb dX11_command_260 rfl (lv_at hl 1 rfl) ?_
  refine lv_iconst (v := nI (1)) hx hb dX11_command_261 (by decide) ?_
  refine zVI [.int (nI (1))] [.int (nI (((4 * m_cz v) + 2))), .ref (o 6)] (kX11_behind_1 (o) ((setN (((4 * m_cz v) + 1)) q1)) (R) (show okP (setN (((4 * m_cz v) + 1)) q1) from hok19)) hx hb hml hown hts (cwV 1 hts gX11_command_X11_behind rfl rfl rfl (by decide +kernel) ⟨(Nat.le_of_ble_eq_true rfl), (Nat.le_of_ble_eq_true rfl)⟩) hK hP hD hS hA (va_recv hK hP (ci := 10) (q0 := 0) rfl rfl) rfl hl.1 rfl (Nat.le_of_ble_eq_true rfl) dX11_command_262 ⟨(Nat.le_of_ble_eq_true rfl), (Nat.le_of_ble_eq_true rfl)⟩ (fun r_262 _ H locs hr_262 hP hD hS => ?_)
  subst hr_262
  have hP : va_P D vwCl (MW ct o (F_bh1 (setN (((4 * m_cz v) + 1)) q1)).2 R) H := hP
  have hD : va_D A (MW ct o (F_bh1 (setN (((4 * m_cz v) + 1)) q1)).2 R) := hD
  obtain ⟨q2, hq2⟩ : ∃ q9, q9 = (F_bh1 (setN (((4 * m_cz v) + 1)) q1)) := ⟨_, rfl⟩
  rw [← hq2] at hP hD ⊢
  have hok29 : okP (setN (((4 * m_cz v) + 2)) q2) := setN_ok (by rw [hq2]; exact (num1_ok (need_ok (by decide) hok19)))
  refine zIast (n := 244) (f := m_cm q2.2) (i := ((4 * m_cz v) + 2)) hx hb hK hP hD hS 6 rfl (by omega) (by decide) dX11_command_265 (fun H locs hP hD hS => ?_)
  have hP : va_P D vwCl (MW ct o (m_g q2.2, m_fl q2.2, m_ch q2.2, m_sv q2.2, m_why q2.2, m_det q2.2, m_li q2.2, m_ld q2.2, m_wt q2.2, m_wm q2.2, m_ln q2.2, m_lz q2.2, m_in q2.2, m_ty q2.2, m_he q2.2, m_wa q2.2, m_fa q2.2, (upd (m_cm q2.2) (((4 * m_cz v) + 2)) (q2.1)), m_cz q2.2) R) H := hP
  have hD : va_D A (MW ct o (m_g q2.2, m_fl q2.2, m_ch q2.2, m_sv q2.2, m_why q2.2, m_det q2.2, m_li q2.2, m_ld q2.2, m_wt q2.2, m_wm q2.2, m_ln q2.2, m_lz q2.2, m_in q2.2, m_ty q2.2, m_he q2.2, m_wa q2.2, m_fa q2.2, (upd (m_cm q2.2) (((4 * m_cz v) + 2)) (q2.1)), m_cz q2.2) R) := hD
  have hP : va_P D vwCl (MW ct o (setN (((4 * m_cz v) + 2)) q2) R) H := hP
  have hD : va_D A (MW ct o (setN (((4 * m_cz v) + 2)) q2) R) := hD
  refine lv_aload_n hx hb dX11_command_266 rfl (lv_at hl 1 rfl) ?_
  refine va_get (ci := 10) (v := .ref (o 6)) hx hb hts h_X11 hown hK hP 0 rfl rfl 17 (by decide) f31 (fun _ h9 => h9) rfl dX11_command_267 ?_
  refine lv_iload_n hx hb dX11_command_270 rfl (lv_at hl 2 rfl) ?_
  refine lv_iconst (v := nI (3)) hx hb dX11_command_271 (by decide) ?_
  refine zNadd hx hb dX11_command_272 ?_
  refine lv_aload_n hx hb dX11_command_273 rfl (lv_at hl 1 rfl) ?_
  refine lv_iconst (v := nI (1)) hx hb dX11_command_274 (by decide) ?_
  refine zVI [.int (nI (1))] [.int (nI (((4 * m_cz v) + 3))), .ref (o 6)] (kX11_number_1 (o) ((setN (((4 * m_cz v) + 2)) q2)) (R) (show okP (setN (((4 * m_cz v) + 2)) q2) from hok29)) hx hb hml hown hts (cwV 1 hts gX11_command_X11_number rfl rfl rfl (by decide +kernel) ⟨(Nat.le_of_ble_eq_true rfl), (Nat.le_of_ble_eq_true rfl)⟩) hK hP hD hS hA (va_recv hK hP (ci := 10) (q0 := 0) rfl rfl) rfl hl.1 rfl (Nat.le_of_ble_eq_true rfl) dX11_command_275 ⟨(Nat.le_of_ble_eq_true rfl), (Nat.le_of_ble_eq_true rfl)⟩ (fun r_275 _ H locs hr_275 hP hD hS => ?_)
  subst hr_275
  have hP : va_P D vwCl (MW ct o (F_num1 (setN (((4 * m_cz v) + 2)) q2)).2 R) H := hP
  have hD : va_D A (MW ct o (F_num1 (setN (((4 * m_cz v) + 2)) q2)).2 R) := hD
  obtain ⟨q3, hq3⟩ : ∃ q9, q9 = (F_num1 (setN (((4 * m_cz v) + 2)) q2)) := ⟨_, rfl⟩
  rw [← hq3] at hP hD ⊢
  have hok39 : okP (setN (((4 * m_cz v) + 3)) q3) := setN_ok (by rw [hq3]; exact (num1_ok hok29))
  refine zIast (n := 244) (f := m_cm q3.2) (i := ((4 * m_cz v) + 3)) hx hb hK hP hD hS 6 rfl (by omega) (by decide) dX11_command_278 (fun H locs hP hD hS => ?_)
  have hP : va_P D vwCl (MW ct o (m_g q3.2, m_fl q3.2, m_ch q3.2, m_sv q3.2, m_why q3.2, m_det q3.2, m_li q3.2, m_ld q3.2, m_wt q3.2, m_wm q3.2, m_ln q3.2, m_lz q3.2, m_in q3.2, m_ty q3.2, m_he q3.2, m_wa q3.2, m_fa q3.2, (upd (m_cm q3.2) (((4 * m_cz v) + 3)) (q3.1)), m_cz q3.2) R) H := hP
  have hD : va_D A (MW ct o (m_g q3.2, m_fl q3.2, m_ch q3.2, m_sv q3.2, m_why q3.2, m_det q3.2, m_li q3.2, m_ld q3.2, m_wt q3.2, m_wm q3.2, m_ln q3.2, m_lz q3.2, m_in q3.2, m_ty q3.2, m_he q3.2, m_wa q3.2, m_fa q3.2, (upd (m_cm q3.2) (((4 * m_cz v) + 3)) (q3.1)), m_cz q3.2) R) := hD
  have hP : va_P D vwCl (MW ct o (setN (((4 * m_cz v) + 3)) q3) R) H := hP
  have hD : va_D A (MW ct o (setN (((4 * m_cz v) + 3)) q3) R) := hD
  refine lv_goto (tgt := 298) hx hb dX11_command_279 (by decide) ?_
  have e9 : F_cmd v = (setN (((4 * m_cz v) + 3)) q3) := (by rw [hq3, hq2, hq1, hw0]; exact cmd_l hfst)
  exact zVret () hx hb hr hlocks hK (by show va_P D vwCl (MW ct o (F_cmd v) R) H; rw [e9]; exact hP) (by show va_D A (MW ct o (F_cmd v) R); rw [e9]; exact hD) hS dX11_command_298 trivial
set_option maxHeartbeats 4000000 in
set_option maxRecDepth 100000 in
theorem cmdw_117 {D : va_G} {ct : Nat → ClassId} {l : Launch} (o : Nat → Nat) (v : MS) (R : va_W)  (ho : okP v) (hcz : m_cz v ≤ 60) (g0 : ¬ sg (m_in v) (m_ty v) (m_he v) = nI 112) (g1 : ¬ sg (m_in v) (m_ty v) (m_he v) = nI 99) (g2 : ¬ sg (m_in v) (m_ty v) (m_he v) = nI 114) (g3 : ¬ sg (m_in v) (m_ty v) (m_he v) = nI 108) (hfst : sg (m_in v) (m_ty v) (m_he v) = nI 117) {p : Program} {e : Env} {s : State} {m : MethodId} {args : Array Value} {below : List Frame} {meth : Method} {c : Code} {A : Nat → Prop} {H : Heap} {locs : List Loc} {ls : Array Slot} (F : zF p yX11_command wsX11_command cX11_command 4 none s m args meth c) (hP : va_P D vwCl (MW ct o (m_g v, m_fl v, m_ch v, m_sv v, m_why v, m_det v, m_li v, m_ld v, m_wt v, m_wm v, m_ln v, m_lz v, m_in v, m_ty v, m_he v, m_wa v, m_fa v, (zr4 (m_cm v) (4 * m_cz v) 4), (m_cz v + 1)) R) H) (hK : zK D ct s) (hD : va_D A (MW ct o (m_g v, m_fl v, m_ch v, m_sv v, m_why v, m_det v, m_li v, m_ld v, m_wt v, m_wm v, m_ln v, m_lz v, m_in v, m_ty v, m_he v, m_wa v, m_fa v, (zr4 (m_cm v) (4 * m_cz v) 4), (m_cz v + 1)) R)) (hS : va_S A s.heap H locs) (hA : ∀ q, s.heap.size ≤ q → A q) (hl : lv_has ls 4 [(0, .ref (o 0)), (1, .int (nI ((4 * m_cz v)))), (2, .int ((sg (m_in v) (m_ty v) (m_he v)))), (3, .int (nI (4)))]) : W p l e rmX11_command s m args below meth c H locs 0 0 (MQ below (va_Qv (fun _ : Unit => True) (zB D ct A (fun _ : Unit => MW ct o (F_cmd v) R)) A) args s rmX11_command.cells rmX11_command.slots A) (F0 m 101 ls []) := by
  obtain ⟨hx, hb, hr, hlocks, hml, hown, hts, hin⟩ := F
  have hh0 : m_he v ≤ m_ty v := ho.1
  have ht0 : m_ty v ≤ 60 := ho.2
  have h_X11 := in_X11_command_X11
  have f31 := hts (.fieldLink RX11 31 "CartArgumentsModel" "commands" "[I") (by decide +kernel)
  have f195 := hts (.fieldLink RX11 195 "CartArgumentsModel" "here" "I") (by decide +kernel)
  have f198 := hts (.fieldLink RX11 198 "CartArgumentsModel" "wrongAt" "I") (by decide +kernel)
  have f215 := hts (.fieldLink RX11 215 "CartArgumentsModel" "commandMany" "I") (by decide +kernel)
  have hl : lv_has ls 4 [(0, .ref (o 0)), (1, .int (nI ((4 * m_cz v)))), (2, .int (nI (117))), (3, .int (nI (4)))] := (by have hl9 := hl; rw [show sg (m_in v) (m_ty v) (m_he v) = nI (117) from hfst] at hl9; exact hl9)
  have hok1 : okP (c_1 v) := ⟨sg_ne hfst (by decide), ho.2⟩
  have hh1 : m_he v + 1 ≤ m_ty v := hok1.1
  refine lv_aload_n hx hb dX11_command_101 rfl (lv_at hl 0 rfl) ?_
  refine lv_dup hx hb dX11_command_102 rfl ?_
  refine va_get (ci := 10) (v := .int (nI (m_he v))) hx hb hts h_X11 hown hK hP 0 rfl rfl 14 (by decide) f195 (fun _ h9 => h9) rfl dX11_command_103 ?_
  refine lv_iconst (v := nI (1)) hx hb dX11_command_106 (by decide) ?_
  refine zNadd hx hb dX11_command_107 ?_
  refine va_put (ci := 10) (v := .int (nI ((m_he v + 1)))) (ty := .int) hx hb hts h_X11 tyX11 tyX11_ok nmX11 hown hK hP hD hS 0 rfl rfl 14 (by decide) f195 (fun _ h9 => h9) rfl (by decide +kernel) rfl rfl (Nat.le_of_ble_eq_true rfl) dX11_command_108 (fun H locs hP hD hS => ?_)
  have hP : va_P D vwCl (MW ct o (m_g v, m_fl v, m_ch v, m_sv v, m_why v, m_det v, m_li v, m_ld v, m_wt v, m_wm v, m_ln v, m_lz v, m_in v, m_ty v, (m_he v + 1), m_wa v, m_fa v, (zr4 (m_cm v) (4 * m_cz v) 4), (m_cz v + 1)) R) H := hP
  have hD : va_D A (MW ct o (m_g v, m_fl v, m_ch v, m_sv v, m_why v, m_det v, m_li v, m_ld v, m_wt v, m_wm v, m_ln v, m_lz v, m_in v, m_ty v, (m_he v + 1), m_wa v, m_fa v, (zr4 (m_cm v) (4 * m_cz v) 4), (m_cz v + 1)) R) := hD
  have hP : va_P D vwCl (MW ct o (c_1 v) R) H := hP
  have hD : va_D A (MW ct o (c_1 v) R) := hD
  refine lv_aload_n hx hb dX11_command_111 rfl (lv_at hl 0 rfl) ?_
  refine lv_iload_n hx hb dX11_command_112 rfl (lv_at hl 2 rfl) ?_
  refine zVI [.int (nI (117))] [] (kX11_word_u (o) ((c_1 v)) (R) (show okP (c_1 v) from hok1)) hx hb hml hown hts (cwV 1 hts gX11_command_X11_word rfl rfl rfl (by decide +kernel) ⟨(Nat.le_of_ble_eq_true rfl), (Nat.le_of_ble_eq_true rfl)⟩) hK hP hD hS hA (va_recv hK hP (ci := 10) (q0 := 0) rfl rfl) rfl hl.1 rfl (Nat.le_of_ble_eq_true rfl) dX11_command_113 ⟨(Nat.le_of_ble_eq_true rfl), (Nat.le_of_ble_eq_true rfl)⟩ (fun r_113 _ H locs hr_113 hP hD hS => ?_)
  subst hr_113
  have hP : va_P D vwCl (MW ct o (W_u (c_1 v)) R) H := hP
  have hD : va_D A (MW ct o (W_u (c_1 v)) R) := hD
  obtain ⟨w0, hw0⟩ : ∃ w9, w9 = (W_u (c_1 v)) := ⟨_, rfl⟩
  rw [← hw0] at hP hD
  have hok09 : okP w0 := by rw [hw0]; exact (s2_ok (by decide) (by decide) (s3_ok (by decide) (by decide) (by decide) hok1))
  have hP : va_P D vwCl (MW ct o w0 R) H := hP
  have hD : va_D A (MW ct o w0 R) := hD
  refine lv_istore_n (lv' := [(3, .int (nI (117))), (0, .ref (o 0)), (1, .int (nI ((4 * m_cz v)))), (2, .int (nI (117)))]) hx hb dX11_command_116 rfl hl (by decide) rfl (fun ls hl => ?_)
  refine lv_aload_n hx hb dX11_command_117 rfl (lv_at hl 1 rfl) ?_
  refine va_get (ci := 10) (v := .ref (o 6)) hx hb hts h_X11 hown hK hP 0 rfl rfl 17 (by decide) f31 (fun _ h9 => h9) rfl dX11_command_118 ?_
  refine lv_iload_n hx hb dX11_command_121 rfl (lv_at hl 2 rfl) ?_
  refine lv_iload_n hx hb dX11_command_122 rfl (lv_at hl 0 rfl) ?_
  refine zIast (n := 244) (f := m_cm w0) (i := (4 * m_cz v)) hx hb hK hP hD hS 6 rfl (by omega) (by decide) dX11_command_123 (fun H locs hP hD hS => ?_)
  have hP : va_P D vwCl (MW ct o (m_g w0, m_fl w0, m_ch w0, m_sv w0, m_why w0, m_det w0, m_li w0, m_ld w0, m_wt w0, m_wm w0, m_ln w0, m_lz w0, m_in w0, m_ty w0, m_he w0, m_wa w0, m_fa w0, (upd (m_cm w0) ((4 * m_cz v)) (nI (117))), m_cz w0) R) H := hP
  have hD : va_D A (MW ct o (m_g w0, m_fl w0, m_ch w0, m_sv w0, m_why w0, m_det w0, m_li w0, m_ld w0, m_wt w0, m_wm w0, m_ln w0, m_lz w0, m_in w0, m_ty w0, m_he w0, m_wa w0, m_fa w0, (upd (m_cm w0) ((4 * m_cz v)) (nI (117))), m_cz w0) R) := hD
  have hP : va_P D vwCl (MW ct o (setC w0 ((4 * m_cz v)) (nI (117))) R) H := hP
  have hD : va_D A (MW ct o (setC w0 ((4 * m_cz v)) (nI (117))) R) := hD
  refine lv_aload_n hx hb dX11_command_124 rfl (lv_at hl 1 rfl) ?_
  refine va_get (ci := 10) (v := .ref (o 6)) hx hb hts h_X11 hown hK hP 0 rfl rfl 17 (by decide) f31 (fun _ h9 => h9) rfl dX11_command_125 ?_
  refine lv_iload_n hx hb dX11_command_128 rfl (lv_at hl 2 rfl) ?_
  refine lv_iconst (v := nI (1)) hx hb dX11_command_129 (by decide) ?_
  refine zNadd hx hb dX11_command_130 ?_
  refine lv_aload_n hx hb dX11_command_131 rfl (lv_at hl 1 rfl) ?_
  refine lv_iload_n hx hb dX11_command_132 rfl (lv_at hl 0 rfl) ?_
  refine lv_bipush (v := nI (99)) hx hb dX11_command_133 (by decide) ?_
  refine lv_icmp_eq (tgt := 162) hx hb dX11_command_135 (by decide) (fun c9 => absurd c9 (by decide)) (fun c9 => ?_)
  refine lv_iload_n hx hb dX11_command_138 rfl (lv_at hl 0 rfl) ?_
  refine lv_bipush (v := nI (97)) hx hb dX11_command_139 (by decide) ?_
  refine lv_icmp_eq (tgt := 162) hx hb dX11_command_141 (by decide) (fun c9 => absurd c9 (by decide)) (fun c9 => ?_)
  refine lv_iload_n hx hb dX11_command_144 rfl (lv_at hl 0 rfl) ?_
  refine lv_bipush (v := nI (114)) hx hb dX11_command_145 (by decide) ?_
  refine lv_icmp_eq (tgt := 162) hx hb dX11_command_147 (by decide) (fun c9 => absurd c9 (by decide)) (fun c9 => ?_)
  refine lv_iload_n hx hb dX11_command_150 rfl (lv_at hl 0 rfl) ?_
  refine lv_bipush (v := nI (108)) hx hb dX11_command_151 (by decide) ?_
  refine lv_icmp_eq (tgt := 162) hx hb dX11_command_153 (by decide) (fun c9 => absurd c9 (by decide)) (fun c9 => ?_)
  refine lv_iload_n hx hb dX11_command_156 rfl (lv_at hl 0 rfl) ?_
  refine lv_bipush (v := nI (117)) hx hb dX11_command_157 (by decide) ?_
  refine lv_icmp_ne (tgt := 166) hx hb dX11_command_159 (by decide) (fun c9 => absurd (by decide) c9) (fun c9 => ?_)
  refine lv_iconst (v := nI (2)) hx hb dX11_command_162 (by decide) ?_
  refine lv_goto (tgt := 167) hx hb dX11_command_163 (by decide) ?_
  refine zVI [.int (nI (2))] [.int (nI (((4 * m_cz v) + 1))), .ref (o 6)] (kX11_behind_2 (o) ((setC w0 ((4 * m_cz v)) (nI (117)))) (R) (show okP (setC w0 ((4 * m_cz v)) (nI (117))) from (setC_ok hok09))) hx hb hml hown hts (cwV 1 hts gX11_command_X11_behind rfl rfl rfl (by decide +kernel) ⟨(Nat.le_of_ble_eq_true rfl), (Nat.le_of_ble_eq_true rfl)⟩) hK hP hD hS hA (va_recv hK hP (ci := 10) (q0 := 0) rfl rfl) rfl hl.1 rfl (Nat.le_of_ble_eq_true rfl) dX11_command_167 ⟨(Nat.le_of_ble_eq_true rfl), (Nat.le_of_ble_eq_true rfl)⟩ (fun r_167 _ H locs hr_167 hP hD hS => ?_)
  subst hr_167
  have hP : va_P D vwCl (MW ct o (F_bh2 (setC w0 ((4 * m_cz v)) (nI (117)))).2 R) H := hP
  have hD : va_D A (MW ct o (F_bh2 (setC w0 ((4 * m_cz v)) (nI (117)))).2 R) := hD
  obtain ⟨q1, hq1⟩ : ∃ q9, q9 = (F_bh2 (setC w0 ((4 * m_cz v)) (nI (117)))) := ⟨_, rfl⟩
  rw [← hq1] at hP hD ⊢
  have hok19 : okP (setN (((4 * m_cz v) + 1)) q1) := setN_ok (by rw [hq1]; exact (num2_ok (need_ok (by decide) (setC_ok hok09))))
  refine zIast (n := 244) (f := m_cm q1.2) (i := ((4 * m_cz v) + 1)) hx hb hK hP hD hS 6 rfl (by omega) (by decide) dX11_command_170 (fun H locs hP hD hS => ?_)
  have hP : va_P D vwCl (MW ct o (m_g q1.2, m_fl q1.2, m_ch q1.2, m_sv q1.2, m_why q1.2, m_det q1.2, m_li q1.2, m_ld q1.2, m_wt q1.2, m_wm q1.2, m_ln q1.2, m_lz q1.2, m_in q1.2, m_ty q1.2, m_he q1.2, m_wa q1.2, m_fa q1.2, (upd (m_cm q1.2) (((4 * m_cz v) + 1)) (q1.1)), m_cz q1.2) R) H := hP
  have hD : va_D A (MW ct o (m_g q1.2, m_fl q1.2, m_ch q1.2, m_sv q1.2, m_why q1.2, m_det q1.2, m_li q1.2, m_ld q1.2, m_wt q1.2, m_wm q1.2, m_ln q1.2, m_lz q1.2, m_in q1.2, m_ty q1.2, m_he q1.2, m_wa q1.2, m_fa q1.2, (upd (m_cm q1.2) (((4 * m_cz v) + 1)) (q1.1)), m_cz q1.2) R) := hD
  have hP : va_P D vwCl (MW ct o (setN (((4 * m_cz v) + 1)) q1) R) H := hP
  have hD : va_D A (MW ct o (setN (((4 * m_cz v) + 1)) q1) R) := hD
  refine lv_iload_n hx hb dX11_command_171 rfl (lv_at hl 0 rfl) ?_
  refine lv_tableOut (tgt := 298) hx hb dX11_command_172 (by decide) (by decide) ?_
  have e9 : F_cmd v = (setN (((4 * m_cz v) + 1)) q1) := (by rw [hq1, hw0]; exact cmd_u hfst)
  exact zVret () hx hb hr hlocks hK (by show va_P D vwCl (MW ct o (F_cmd v) R) H; rw [e9]; exact hP) (by show va_D A (MW ct o (F_cmd v) R); rw [e9]; exact hD) hS dX11_command_298 trivial
set_option maxHeartbeats 4000000 in
set_option maxRecDepth 100000 in
theorem cmdw_115 {D : va_G} {ct : Nat → ClassId} {l : Launch} (o : Nat → Nat) (v : MS) (R : va_W)  (ho : okP v) (hcz : m_cz v ≤ 60) (g0 : ¬ sg (m_in v) (m_ty v) (m_he v) = nI 112) (g1 : ¬ sg (m_in v) (m_ty v) (m_he v) = nI 99) (g2 : ¬ sg (m_in v) (m_ty v) (m_he v) = nI 114) (g3 : ¬ sg (m_in v) (m_ty v) (m_he v) = nI 108) (g4 : ¬ sg (m_in v) (m_ty v) (m_he v) = nI 117) (hfst : sg (m_in v) (m_ty v) (m_he v) = nI 115) {p : Program} {e : Env} {s : State} {m : MethodId} {args : Array Value} {below : List Frame} {meth : Method} {c : Code} {A : Nat → Prop} {H : Heap} {locs : List Loc} {ls : Array Slot} (F : zF p yX11_command wsX11_command cX11_command 4 none s m args meth c) (hP : va_P D vwCl (MW ct o (m_g v, m_fl v, m_ch v, m_sv v, m_why v, m_det v, m_li v, m_ld v, m_wt v, m_wm v, m_ln v, m_lz v, m_in v, m_ty v, m_he v, m_wa v, m_fa v, (zr4 (m_cm v) (4 * m_cz v) 4), (m_cz v + 1)) R) H) (hK : zK D ct s) (hD : va_D A (MW ct o (m_g v, m_fl v, m_ch v, m_sv v, m_why v, m_det v, m_li v, m_ld v, m_wt v, m_wm v, m_ln v, m_lz v, m_in v, m_ty v, m_he v, m_wa v, m_fa v, (zr4 (m_cm v) (4 * m_cz v) 4), (m_cz v + 1)) R)) (hS : va_S A s.heap H locs) (hA : ∀ q, s.heap.size ≤ q → A q) (hl : lv_has ls 4 [(0, .ref (o 0)), (1, .int (nI ((4 * m_cz v)))), (2, .int ((sg (m_in v) (m_ty v) (m_he v)))), (3, .int (nI (4)))]) : W p l e rmX11_command s m args below meth c H locs 0 0 (MQ below (va_Qv (fun _ : Unit => True) (zB D ct A (fun _ : Unit => MW ct o (F_cmd v) R)) A) args s rmX11_command.cells rmX11_command.slots A) (F0 m 101 ls []) := by
  obtain ⟨hx, hb, hr, hlocks, hml, hown, hts, hin⟩ := F
  have hh0 : m_he v ≤ m_ty v := ho.1
  have ht0 : m_ty v ≤ 60 := ho.2
  have h_X11 := in_X11_command_X11
  have f31 := hts (.fieldLink RX11 31 "CartArgumentsModel" "commands" "[I") (by decide +kernel)
  have f195 := hts (.fieldLink RX11 195 "CartArgumentsModel" "here" "I") (by decide +kernel)
  have f198 := hts (.fieldLink RX11 198 "CartArgumentsModel" "wrongAt" "I") (by decide +kernel)
  have f215 := hts (.fieldLink RX11 215 "CartArgumentsModel" "commandMany" "I") (by decide +kernel)
  have hl : lv_has ls 4 [(0, .ref (o 0)), (1, .int (nI ((4 * m_cz v)))), (2, .int (nI (115))), (3, .int (nI (4)))] := (by have hl9 := hl; rw [show sg (m_in v) (m_ty v) (m_he v) = nI (115) from hfst] at hl9; exact hl9)
  have hok1 : okP (c_1 v) := ⟨sg_ne hfst (by decide), ho.2⟩
  have hh1 : m_he v + 1 ≤ m_ty v := hok1.1
  refine lv_aload_n hx hb dX11_command_101 rfl (lv_at hl 0 rfl) ?_
  refine lv_dup hx hb dX11_command_102 rfl ?_
  refine va_get (ci := 10) (v := .int (nI (m_he v))) hx hb hts h_X11 hown hK hP 0 rfl rfl 14 (by decide) f195 (fun _ h9 => h9) rfl dX11_command_103 ?_
  refine lv_iconst (v := nI (1)) hx hb dX11_command_106 (by decide) ?_
  refine zNadd hx hb dX11_command_107 ?_
  refine va_put (ci := 10) (v := .int (nI ((m_he v + 1)))) (ty := .int) hx hb hts h_X11 tyX11 tyX11_ok nmX11 hown hK hP hD hS 0 rfl rfl 14 (by decide) f195 (fun _ h9 => h9) rfl (by decide +kernel) rfl rfl (Nat.le_of_ble_eq_true rfl) dX11_command_108 (fun H locs hP hD hS => ?_)
  have hP : va_P D vwCl (MW ct o (m_g v, m_fl v, m_ch v, m_sv v, m_why v, m_det v, m_li v, m_ld v, m_wt v, m_wm v, m_ln v, m_lz v, m_in v, m_ty v, (m_he v + 1), m_wa v, m_fa v, (zr4 (m_cm v) (4 * m_cz v) 4), (m_cz v + 1)) R) H := hP
  have hD : va_D A (MW ct o (m_g v, m_fl v, m_ch v, m_sv v, m_why v, m_det v, m_li v, m_ld v, m_wt v, m_wm v, m_ln v, m_lz v, m_in v, m_ty v, (m_he v + 1), m_wa v, m_fa v, (zr4 (m_cm v) (4 * m_cz v) 4), (m_cz v + 1)) R) := hD
  have hP : va_P D vwCl (MW ct o (c_1 v) R) H := hP
  have hD : va_D A (MW ct o (c_1 v) R) := hD
  refine lv_aload_n hx hb dX11_command_111 rfl (lv_at hl 0 rfl) ?_
  refine lv_iload_n hx hb dX11_command_112 rfl (lv_at hl 2 rfl) ?_
  refine zVI [.int (nI (115))] [] (kX11_word_s (o) ((c_1 v)) (R) (show okP (c_1 v) from hok1)) hx hb hml hown hts (cwV 1 hts gX11_command_X11_word rfl rfl rfl (by decide +kernel) ⟨(Nat.le_of_ble_eq_true rfl), (Nat.le_of_ble_eq_true rfl)⟩) hK hP hD hS hA (va_recv hK hP (ci := 10) (q0 := 0) rfl rfl) rfl hl.1 rfl (Nat.le_of_ble_eq_true rfl) dX11_command_113 ⟨(Nat.le_of_ble_eq_true rfl), (Nat.le_of_ble_eq_true rfl)⟩ (fun r_113 _ H locs hr_113 hP hD hS => ?_)
  subst hr_113
  have hP : va_P D vwCl (MW ct o (W_s (c_1 v)) R) H := hP
  have hD : va_D A (MW ct o (W_s (c_1 v)) R) := hD
  obtain ⟨w0, hw0⟩ : ∃ w9, w9 = (W_s (c_1 v)) := ⟨_, rfl⟩
  rw [← hw0] at hP hD
  have hok09 : okP w0 := by rw [hw0]; exact (s3_ok (by decide) (by decide) (by decide) hok1)
  have hP : va_P D vwCl (MW ct o w0 R) H := hP
  have hD : va_D A (MW ct o w0 R) := hD
  refine lv_istore_n (lv' := [(3, .int (nI (115))), (0, .ref (o 0)), (1, .int (nI ((4 * m_cz v)))), (2, .int (nI (115)))]) hx hb dX11_command_116 rfl hl (by decide) rfl (fun ls hl => ?_)
  refine lv_aload_n hx hb dX11_command_117 rfl (lv_at hl 1 rfl) ?_
  refine va_get (ci := 10) (v := .ref (o 6)) hx hb hts h_X11 hown hK hP 0 rfl rfl 17 (by decide) f31 (fun _ h9 => h9) rfl dX11_command_118 ?_
  refine lv_iload_n hx hb dX11_command_121 rfl (lv_at hl 2 rfl) ?_
  refine lv_iload_n hx hb dX11_command_122 rfl (lv_at hl 0 rfl) ?_
  refine zIast (n := 244) (f := m_cm w0) (i := (4 * m_cz v)) hx hb hK hP hD hS 6 rfl (by omega) (by decide) dX11_command_123 (fun H locs hP hD hS => ?_)
  have hP : va_P D vwCl (MW ct o (m_g w0, m_fl w0, m_ch w0, m_sv w0, m_why w0, m_det w0, m_li w0, m_ld w0, m_wt w0, m_wm w0, m_ln w0, m_lz w0, m_in w0, m_ty w0, m_he w0, m_wa w0, m_fa w0, (upd (m_cm w0) ((4 * m_cz v)) (nI (115))), m_cz w0) R) H := hP
  have hD : va_D A (MW ct o (m_g w0, m_fl w0, m_ch w0, m_sv w0, m_why w0, m_det w0, m_li w0, m_ld w0, m_wt w0, m_wm w0, m_ln w0, m_lz w0, m_in w0, m_ty w0, m_he w0, m_wa w0, m_fa w0, (upd (m_cm w0) ((4 * m_cz v)) (nI (115))), m_cz w0) R) := hD
  have hP : va_P D vwCl (MW ct o (setC w0 ((4 * m_cz v)) (nI (115))) R) H := hP
  have hD : va_D A (MW ct o (setC w0 ((4 * m_cz v)) (nI (115))) R) := hD
  refine lv_aload_n hx hb dX11_command_124 rfl (lv_at hl 1 rfl) ?_
  refine va_get (ci := 10) (v := .ref (o 6)) hx hb hts h_X11 hown hK hP 0 rfl rfl 17 (by decide) f31 (fun _ h9 => h9) rfl dX11_command_125 ?_
  refine lv_iload_n hx hb dX11_command_128 rfl (lv_at hl 2 rfl) ?_
  refine lv_iconst (v := nI (1)) hx hb dX11_command_129 (by decide) ?_
  refine zNadd hx hb dX11_command_130 ?_
  refine lv_aload_n hx hb dX11_command_131 rfl (lv_at hl 1 rfl) ?_
  refine lv_iload_n hx hb dX11_command_132 rfl (lv_at hl 0 rfl) ?_
  refine lv_bipush (v := nI (99)) hx hb dX11_command_133 (by decide) ?_
  refine lv_icmp_eq (tgt := 162) hx hb dX11_command_135 (by decide) (fun c9 => absurd c9 (by decide)) (fun c9 => ?_)
  refine lv_iload_n hx hb dX11_command_138 rfl (lv_at hl 0 rfl) ?_
  refine lv_bipush (v := nI (97)) hx hb dX11_command_139 (by decide) ?_
  refine lv_icmp_eq (tgt := 162) hx hb dX11_command_141 (by decide) (fun c9 => absurd c9 (by decide)) (fun c9 => ?_)
  refine lv_iload_n hx hb dX11_command_144 rfl (lv_at hl 0 rfl) ?_
  refine lv_bipush (v := nI (114)) hx hb dX11_command_145 (by decide) ?_
  refine lv_icmp_eq (tgt := 162) hx hb dX11_command_147 (by decide) (fun c9 => absurd c9 (by decide)) (fun c9 => ?_)
  refine lv_iload_n hx hb dX11_command_150 rfl (lv_at hl 0 rfl) ?_
  refine lv_bipush (v := nI (108)) hx hb dX11_command_151 (by decide) ?_
  refine lv_icmp_eq (tgt := 162) hx hb dX11_command_153 (by decide) (fun c9 => absurd c9 (by decide)) (fun c9 => ?_)
  refine lv_iload_n hx hb dX11_command_156 rfl (lv_at hl 0 rfl) ?_
  refine lv_bipush (v := nI (117)) hx hb dX11_command_157 (by decide) ?_
  refine lv_icmp_ne (tgt := 166) hx hb dX11_command_159 (by decide) (fun c9 => ?_) (fun c9 => absurd c9 (by decide))
  refine lv_iconst (v := nI (1)) hx hb dX11_command_166 (by decide) ?_
  refine zVI [.int (nI (1))] [.int (nI (((4 * m_cz v) + 1))), .ref (o 6)] (kX11_behind_1 (o) ((setC w0 ((4 * m_cz v)) (nI (115)))) (R) (show okP (setC w0 ((4 * m_cz v)) (nI (115))) from (setC_ok hok09))) hx hb hml hown hts (cwV 1 hts gX11_command_X11_behind rfl rfl rfl (by decide +kernel) ⟨(Nat.le_of_ble_eq_true rfl), (Nat.le_of_ble_eq_true rfl)⟩) hK hP hD hS hA (va_recv hK hP (ci := 10) (q0 := 0) rfl rfl) rfl hl.1 rfl (Nat.le_of_ble_eq_true rfl) dX11_command_167 ⟨(Nat.le_of_ble_eq_true rfl), (Nat.le_of_ble_eq_true rfl)⟩ (fun r_167 _ H locs hr_167 hP hD hS => ?_)
  subst hr_167
  have hP : va_P D vwCl (MW ct o (F_bh1 (setC w0 ((4 * m_cz v)) (nI (115)))).2 R) H := hP
  have hD : va_D A (MW ct o (F_bh1 (setC w0 ((4 * m_cz v)) (nI (115)))).2 R) := hD
  obtain ⟨q1, hq1⟩ : ∃ q9, q9 = (F_bh1 (setC w0 ((4 * m_cz v)) (nI (115)))) := ⟨_, rfl⟩
  rw [← hq1] at hP hD ⊢
  have hok19 : okP (setN (((4 * m_cz v) + 1)) q1) := setN_ok (by rw [hq1]; exact (num1_ok (need_ok (by decide) (setC_ok hok09))))
  refine zIast (n := 244) (f := m_cm q1.2) (i := ((4 * m_cz v) + 1)) hx hb hK hP hD hS 6 rfl (by omega) (by decide) dX11_command_170 (fun H locs hP hD hS => ?_)
  have hP : va_P D vwCl (MW ct o (m_g q1.2, m_fl q1.2, m_ch q1.2, m_sv q1.2, m_why q1.2, m_det q1.2, m_li q1.2, m_ld q1.2, m_wt q1.2, m_wm q1.2, m_ln q1.2, m_lz q1.2, m_in q1.2, m_ty q1.2, m_he q1.2, m_wa q1.2, m_fa q1.2, (upd (m_cm q1.2) (((4 * m_cz v) + 1)) (q1.1)), m_cz q1.2) R) H := hP
  have hD : va_D A (MW ct o (m_g q1.2, m_fl q1.2, m_ch q1.2, m_sv q1.2, m_why q1.2, m_det q1.2, m_li q1.2, m_ld q1.2, m_wt q1.2, m_wm q1.2, m_ln q1.2, m_lz q1.2, m_in q1.2, m_ty q1.2, m_he q1.2, m_wa q1.2, m_fa q1.2, (upd (m_cm q1.2) (((4 * m_cz v) + 1)) (q1.1)), m_cz q1.2) R) := hD
  have hP : va_P D vwCl (MW ct o (setN (((4 * m_cz v) + 1)) q1) R) H := hP
  have hD : va_D A (MW ct o (setN (((4 * m_cz v) + 1)) q1) R) := hD
  refine lv_iload_n hx hb dX11_command_171 rfl (lv_at hl 0 rfl) ?_
  refine lv_tableIn (off := 81) (tgt := 253) hx hb dX11_command_172 (by decide) (by decide) (by rfl) (by decide) ?_
  refine lv_aload_n hx hb dX11_command_253 rfl (lv_at hl 1 rfl) ?_
  refine va_get (ci := 10) (v := .ref (o 6)) hx hb hts h_X11 hown hK hP 0 rfl rfl 17 (by decide) f31 (fun _ h9 => h9) rfl dX11_command_254 ?_
  refine lv_iload_n hx hb dX11_command_257 rfl (lv_at hl 2 rfl) ?_
  refine lv_iconst (v := nI (2)) hx hb dX11_command_258 (by decide) ?_
  refine zNadd hx hb dX11_command_259 ?_
  refine lv_aload_n hx hb dX11_command_260 rfl (lv_at hl 1 rfl) ?_
  refine lv_iconst (v := nI (1)) hx hb dX11_command_261 (by decide) ?_
  refine zVI [.int (nI (1))] [.int (nI (((4 * m_cz v) + 2))), .ref (o 6)] (kX11_behind_1 (o) ((setN (((4 * m_cz v) + 1)) q1)) (R) (show okP (setN (((4 * m_cz v) + 1)) q1) from hok19)) hx hb hml hown hts (cwV 1 hts gX11_command_X11_behind rfl rfl rfl (by decide +kernel) ⟨(Nat.le_of_ble_eq_true rfl), (Nat.le_of_ble_eq_true rfl)⟩) hK hP hD hS hA (va_recv hK hP (ci := 10) (q0 := 0) rfl rfl) rfl hl.1 rfl (Nat.le_of_ble_eq_true rfl) dX11_command_262 ⟨(Nat.le_of_ble_eq_true rfl), (Nat.le_of_ble_eq_true rfl)⟩ (fun r_262 _ H locs hr_262 hP hD hS => ?_)
  subst hr_262
  have hP : va_P D vwCl (MW ct o (F_bh1 (setN (((4 * m_cz v) + 1)) q1)).2 R) H := hP
  have hD : va_D A (MW ct o (F_bh1 (setN (((4 * m_cz v) + 1)) q1)).2 R) := hD
  obtain ⟨q2, hq2⟩ : ∃ q9, q9 = (F_bh1 (setN (((4 * m_cz v) + 1)) q1)) := ⟨_, rfl⟩
  rw [← hq2] at hP hD ⊢
  have hok29 : okP (setN (((4 * m_cz v) + 2)) q2) := setN_ok (by rw [hq2]; exact (num1_ok (need_ok (by decide) hok19)))
  refine zIast (n := 244) (f := m_cm q2.2) (i := ((4 * m_cz v) + 2)) hx hb hK hP hD hS 6 rfl (by omega) (by decide) dX11_command_265 (fun H locs hP hD hS => ?_)
  have hP : va_P D vwCl (MW ct o (m_g q2.2, m_fl q2.2, m_ch q2.2, m_sv q2.2, m_why q2.2, m_det q2.2, m_li q2.2, m_ld q2.2, m_wt q2.2, m_wm q2.2, m_ln q2.2, m_lz q2.2, m_in q2.2, m_ty q2.2, m_he q2.2, m_wa q2.2, m_fa q2.2, (upd (m_cm q2.2) (((4 * m_cz v) + 2)) (q2.1)), m_cz q2.2) R) H := hP
  have hD : va_D A (MW ct o (m_g q2.2, m_fl q2.2, m_ch q2.2, m_sv q2.2, m_why q2.2, m_det q2.2, m_li q2.2, m_ld q2.2, m_wt q2.2, m_wm q2.2, m_ln q2.2, m_lz q2.2, m_in q2.2, m_ty q2.2, m_he q2.2, m_wa q2.2, m_fa q2.2, (upd (m_cm q2.2) (((4 * m_cz v) + 2)) (q2.1)), m_cz q2.2) R) := hD
  have hP : va_P D vwCl (MW ct o (setN (((4 * m_cz v) + 2)) q2) R) H := hP
  have hD : va_D A (MW ct o (setN (((4 * m_cz v) + 2)) q2) R) := hD
  refine lv_aload_n hx hb dX11_command_266 rfl (lv_at hl 1 rfl) ?_
  refine va_get (ci := 10) (v := .ref (o 6)) hx hb hts h_X11 hown hK hP 0 rfl rfl 17 (by decide) f31 (fun _ h9 => h9) rfl dX11_command_267 ?_
  refine lv_iload_n hx hb dX11_command_270 rfl (lv_at hl 2 rfl) ?_
  refine lv_iconst (v := nI (3)) hx hb dX11_command_271 (by decide) ?_
  refine zNadd hx hb dX11_command_272 ?_
  refine lv_aload_n hx hb dX11_command_273 rfl (lv_at hl 1 rfl) ?_
  refine lv_iconst (v := nI (1)) hx hb dX11_command_274 (by decide) ?_
  refine zVI [.int (nI (1))] [.int (nI (((4 * m_cz v) + 3))), .ref (o 6)] (kX11_number_1 (o) ((setN (((4 * m_cz v) + 2)) q2)) (R) (show okP (setN (((4 * m_cz v) + 2)) q2) from hok29)) hx hb hml hown hts (cwV 1 hts gX11_command_X11_number rfl rfl rfl (by decide +kernel) ⟨(Nat.le_of_ble_eq_true rfl), (Nat.le_of_ble_eq_true rfl)⟩) hK hP hD hS hA (va_recv hK hP (ci := 10) (q0 := 0) rfl rfl) rfl hl.1 rfl (Nat.le_of_ble_eq_true rfl) dX11_command_275 ⟨(Nat.le_of_ble_eq_true rfl), (Nat.le_of_ble_eq_true rfl)⟩ (fun r_275 _ H locs hr_275 hP hD hS => ?_)
  subst hr_275
  have hP : va_P D vwCl (MW ct o (F_num1 (setN (((4 * m_cz v) + 2)) q2)).2 R) H := hP
  have hD : va_D A (MW ct o (F_num1 (setN (((4 * m_cz v) + 2)) q2)).2 R) := hD
  obtain ⟨q3, hq3⟩ : ∃ q9, q9 = (F_num1 (setN (((4 * m_cz v) + 2)) q2)) := ⟨_, rfl⟩
  rw [← hq3] at hP hD ⊢
  have hok39 : okP (setN (((4 * m_cz v) + 3)) q3) := setN_ok (by rw [hq3]; exact (num1_ok hok29))
  refine zIast (n := 244) (f := m_cm q3.2) (i := ((4 * m_cz v) + 3)) hx hb hK hP hD hS 6 rfl (by omega) (by decide) dX11_command_278 (fun H locs hP hD hS => ?_)
  have hP : va_P D vwCl (MW ct o (m_g q3.2, m_fl q3.2, m_ch q3.2, m_sv q3.2, m_why q3.2, m_det q3.2, m_li q3.2, m_ld q3.2, m_wt q3.2, m_wm q3.2, m_ln q3.2, m_lz q3.2, m_in q3.2, m_ty q3.2, m_he q3.2, m_wa q3.2, m_fa q3.2, (upd (m_cm q3.2) (((4 * m_cz v) + 3)) (q3.1)), m_cz q3.2) R) H := hP
  have hD : va_D A (MW ct o (m_g q3.2, m_fl q3.2, m_ch q3.2, m_sv q3.2, m_why q3.2, m_det q3.2, m_li q3.2, m_ld q3.2, m_wt q3.2, m_wm q3.2, m_ln q3.2, m_lz q3.2, m_in q3.2, m_ty q3.2, m_he q3.2, m_wa q3.2, m_fa q3.2, (upd (m_cm q3.2) (((4 * m_cz v) + 3)) (q3.1)), m_cz q3.2) R) := hD
  have hP : va_P D vwCl (MW ct o (setN (((4 * m_cz v) + 3)) q3) R) H := hP
  have hD : va_D A (MW ct o (setN (((4 * m_cz v) + 3)) q3) R) := hD
  refine lv_goto (tgt := 298) hx hb dX11_command_279 (by decide) ?_
  have e9 : F_cmd v = (setN (((4 * m_cz v) + 3)) q3) := (by rw [hq3, hq2, hq1, hw0]; exact cmd_s hfst)
  exact zVret () hx hb hr hlocks hK (by show va_P D vwCl (MW ct o (F_cmd v) R) H; rw [e9]; exact hP) (by show va_D A (MW ct o (F_cmd v) R); rw [e9]; exact hD) hS dX11_command_298 trivial
set_option maxHeartbeats 4000000 in
set_option maxRecDepth 100000 in
theorem cmdw_116 {D : va_G} {ct : Nat → ClassId} {l : Launch} (o : Nat → Nat) (v : MS) (R : va_W)  (ho : okP v) (hcz : m_cz v ≤ 60) (g0 : ¬ sg (m_in v) (m_ty v) (m_he v) = nI 112) (g1 : ¬ sg (m_in v) (m_ty v) (m_he v) = nI 99) (g2 : ¬ sg (m_in v) (m_ty v) (m_he v) = nI 114) (g3 : ¬ sg (m_in v) (m_ty v) (m_he v) = nI 108) (g4 : ¬ sg (m_in v) (m_ty v) (m_he v) = nI 117) (g5 : ¬ sg (m_in v) (m_ty v) (m_he v) = nI 115) (hfst : sg (m_in v) (m_ty v) (m_he v) = nI 116) {p : Program} {e : Env} {s : State} {m : MethodId} {args : Array Value} {below : List Frame} {meth : Method} {c : Code} {A : Nat → Prop} {H : Heap} {locs : List Loc} {ls : Array Slot} (F : zF p yX11_command wsX11_command cX11_command 4 none s m args meth c) (hP : va_P D vwCl (MW ct o (m_g v, m_fl v, m_ch v, m_sv v, m_why v, m_det v, m_li v, m_ld v, m_wt v, m_wm v, m_ln v, m_lz v, m_in v, m_ty v, m_he v, m_wa v, m_fa v, (zr4 (m_cm v) (4 * m_cz v) 4), (m_cz v + 1)) R) H) (hK : zK D ct s) (hD : va_D A (MW ct o (m_g v, m_fl v, m_ch v, m_sv v, m_why v, m_det v, m_li v, m_ld v, m_wt v, m_wm v, m_ln v, m_lz v, m_in v, m_ty v, m_he v, m_wa v, m_fa v, (zr4 (m_cm v) (4 * m_cz v) 4), (m_cz v + 1)) R)) (hS : va_S A s.heap H locs) (hA : ∀ q, s.heap.size ≤ q → A q) (hl : lv_has ls 4 [(0, .ref (o 0)), (1, .int (nI ((4 * m_cz v)))), (2, .int ((sg (m_in v) (m_ty v) (m_he v)))), (3, .int (nI (4)))]) : W p l e rmX11_command s m args below meth c H locs 0 0 (MQ below (va_Qv (fun _ : Unit => True) (zB D ct A (fun _ : Unit => MW ct o (F_cmd v) R)) A) args s rmX11_command.cells rmX11_command.slots A) (F0 m 101 ls []) := by
  obtain ⟨hx, hb, hr, hlocks, hml, hown, hts, hin⟩ := F
  have hh0 : m_he v ≤ m_ty v := ho.1
  have ht0 : m_ty v ≤ 60 := ho.2
  have h_X11 := in_X11_command_X11
  have f31 := hts (.fieldLink RX11 31 "CartArgumentsModel" "commands" "[I") (by decide +kernel)
  have f195 := hts (.fieldLink RX11 195 "CartArgumentsModel" "here" "I") (by decide +kernel)
  have f198 := hts (.fieldLink RX11 198 "CartArgumentsModel" "wrongAt" "I") (by decide +kernel)
  have f215 := hts (.fieldLink RX11 215 "CartArgumentsModel" "commandMany" "I") (by decide +kernel)
  have hl : lv_has ls 4 [(0, .ref (o 0)), (1, .int (nI ((4 * m_cz v)))), (2, .int (nI (116))), (3, .int (nI (4)))] := (by have hl9 := hl; rw [show sg (m_in v) (m_ty v) (m_he v) = nI (116) from hfst] at hl9; exact hl9)
  have hok1 : okP (c_1 v) := ⟨sg_ne hfst (by decide), ho.2⟩
  have hh1 : m_he v + 1 ≤ m_ty v := hok1.1
  refine lv_aload_n hx hb dX11_command_101 rfl (lv_at hl 0 rfl) ?_
  refine lv_dup hx hb dX11_command_102 rfl ?_
  refine va_get (ci := 10) (v := .int (nI (m_he v))) hx hb hts h_X11 hown hK hP 0 rfl rfl 14 (by decide) f195 (fun _ h9 => h9) rfl dX11_command_103 ?_
  refine lv_iconst (v := nI (1)) hx hb dX11_command_106 (by decide) ?_
  refine zNadd hx hb dX11_command_107 ?_
  refine va_put (ci := 10) (v := .int (nI ((m_he v + 1)))) (ty := .int) hx hb hts h_X11 tyX11 tyX11_ok nmX11 hown hK hP hD hS 0 rfl rfl 14 (by decide) f195 (fun _ h9 => h9) rfl (by decide +kernel) rfl rfl (Nat.le_of_ble_eq_true rfl) dX11_command_108 (fun H locs hP hD hS => ?_)
  have hP : va_P D vwCl (MW ct o (m_g v, m_fl v, m_ch v, m_sv v, m_why v, m_det v, m_li v, m_ld v, m_wt v, m_wm v, m_ln v, m_lz v, m_in v, m_ty v, (m_he v + 1), m_wa v, m_fa v, (zr4 (m_cm v) (4 * m_cz v) 4), (m_cz v + 1)) R) H := hP
  have hD : va_D A (MW ct o (m_g v, m_fl v, m_ch v, m_sv v, m_why v, m_det v, m_li v, m_ld v, m_wt v, m_wm v, m_ln v, m_lz v, m_in v, m_ty v, (m_he v + 1), m_wa v, m_fa v, (zr4 (m_cm v) (4 * m_cz v) 4), (m_cz v + 1)) R) := hD
  have hP : va_P D vwCl (MW ct o (c_1 v) R) H := hP
  have hD : va_D A (MW ct o (c_1 v) R) := hD
  refine lv_aload_n hx hb dX11_command_111 rfl (lv_at hl 0 rfl) ?_
  refine lv_iload_n hx hb dX11_command_112 rfl (lv_at hl 2 rfl) ?_
  refine zVI [.int (nI (116))] [] (kX11_word_t (o) ((c_1 v)) (R) (show okP (c_1 v) from hok1)) hx hb hml hown hts (cwV 1 hts gX11_command_X11_word rfl rfl rfl (by decide +kernel) ⟨(Nat.le_of_ble_eq_true rfl), (Nat.le_of_ble_eq_true rfl)⟩) hK hP hD hS hA (va_recv hK hP (ci := 10) (q0 := 0) rfl rfl) rfl hl.1 rfl (Nat.le_of_ble_eq_true rfl) dX11_command_113 ⟨(Nat.le_of_ble_eq_true rfl), (Nat.le_of_ble_eq_true rfl)⟩ (fun r_113 _ H locs hr_113 hP hD hS => ?_)
  subst hr_113
  have hP : va_P D vwCl (MW ct o (W_t (c_1 v)) R) H := hP
  have hD : va_D A (MW ct o (W_t (c_1 v)) R) := hD
  obtain ⟨w0, hw0⟩ : ∃ w9, w9 = (W_t (c_1 v)) := ⟨_, rfl⟩
  rw [← hw0] at hP hD
  have hok09 : okP w0 := by rw [hw0]; exact (s3_ok (by decide) (by decide) (by decide) hok1)
  have hP : va_P D vwCl (MW ct o w0 R) H := hP
  have hD : va_D A (MW ct o w0 R) := hD
  refine lv_istore_n (lv' := [(3, .int (nI (116))), (0, .ref (o 0)), (1, .int (nI ((4 * m_cz v)))), (2, .int (nI (116)))]) hx hb dX11_command_116 rfl hl (by decide) rfl (fun ls hl => ?_)
  refine lv_aload_n hx hb dX11_command_117 rfl (lv_at hl 1 rfl) ?_
  refine va_get (ci := 10) (v := .ref (o 6)) hx hb hts h_X11 hown hK hP 0 rfl rfl 17 (by decide) f31 (fun _ h9 => h9) rfl dX11_command_118 ?_
  refine lv_iload_n hx hb dX11_command_121 rfl (lv_at hl 2 rfl) ?_
  refine lv_iload_n hx hb dX11_command_122 rfl (lv_at hl 0 rfl) ?_
  refine zIast (n := 244) (f := m_cm w0) (i := (4 * m_cz v)) hx hb hK hP hD hS 6 rfl (by omega) (by decide) dX11_command_123 (fun H locs hP hD hS => ?_)
  have hP : va_P D vwCl (MW ct o (m_g w0, m_fl w0, m_ch w0, m_sv w0, m_why w0, m_det w0, m_li w0, m_ld w0, m_wt w0, m_wm w0, m_ln w0, m_lz w0, m_in w0, m_ty w0, m_he w0, m_wa w0, m_fa w0, (upd (m_cm w0) ((4 * m_cz v)) (nI (116))), m_cz w0) R) H := hP
  have hD : va_D A (MW ct o (m_g w0, m_fl w0, m_ch w0, m_sv w0, m_why w0, m_det w0, m_li w0, m_ld w0, m_wt w0, m_wm w0, m_ln w0, m_lz w0, m_in w0, m_ty w0, m_he w0, m_wa w0, m_fa w0, (upd (m_cm w0) ((4 * m_cz v)) (nI (116))), m_cz w0) R) := hD
  have hP : va_P D vwCl (MW ct o (setC w0 ((4 * m_cz v)) (nI (116))) R) H := hP
  have hD : va_D A (MW ct o (setC w0 ((4 * m_cz v)) (nI (116))) R) := hD
  refine lv_aload_n hx hb dX11_command_124 rfl (lv_at hl 1 rfl) ?_
  refine va_get (ci := 10) (v := .ref (o 6)) hx hb hts h_X11 hown hK hP 0 rfl rfl 17 (by decide) f31 (fun _ h9 => h9) rfl dX11_command_125 ?_
  refine lv_iload_n hx hb dX11_command_128 rfl (lv_at hl 2 rfl) ?_
  refine lv_iconst (v := nI (1)) hx hb dX11_command_129 (by decide) ?_
  refine zNadd hx hb dX11_command_130 ?_
  refine lv_aload_n hx hb dX11_command_131 rfl (lv_at hl 1 rfl) ?_
  refine lv_iload_n hx hb dX11_command_132 rfl (lv_at hl 0 rfl) ?_
  refine lv_bipush (v := nI (99)) hx hb dX11_command_133 (by decide) ?_
  refine lv_icmp_eq (tgt := 162) hx hb dX11_command_135 (by decide) (fun c9 => absurd c9 (by decide)) (fun c9 => ?_)
  refine lv_iload_n hx hb dX11_command_138 rfl (lv_at hl 0 rfl) ?_
  refine lv_bipush (v := nI (97)) hx hb dX11_command_139 (by decide) ?_
  refine lv_icmp_eq (tgt := 162) hx hb dX11_command_141 (by decide) (fun c9 => absurd c9 (by decide)) (fun c9 => ?_)
  refine lv_iload_n hx hb dX11_command_144 rfl (lv_at hl 0 rfl) ?_
  refine lv_bipush (v := nI (114)) hx hb dX11_command_145 (by decide) ?_
  refine lv_icmp_eq (tgt := 162) hx hb dX11_command_147 (by decide) (fun c9 => absurd c9 (by decide)) (fun c9 => ?_)
  refine lv_iload_n hx hb dX11_command_150 rfl (lv_at hl 0 rfl) ?_
  refine lv_bipush (v := nI (108)) hx hb dX11_command_151 (by decide) ?_
  refine lv_icmp_eq (tgt := 162) hx hb dX11_command_153 (by decide) (fun c9 => absurd c9 (by decide)) (fun c9 => ?_)
  refine lv_iload_n hx hb dX11_command_156 rfl (lv_at hl 0 rfl) ?_
  refine lv_bipush (v := nI (117)) hx hb dX11_command_157 (by decide) ?_
  refine lv_icmp_ne (tgt := 166) hx hb dX11_command_159 (by decide) (fun c9 => ?_) (fun c9 => absurd c9 (by decide))
  refine lv_iconst (v := nI (1)) hx hb dX11_command_166 (by decide) ?_
  refine zVI [.int (nI (1))] [.int (nI (((4 * m_cz v) + 1))), .ref (o 6)] (kX11_behind_1 (o) ((setC w0 ((4 * m_cz v)) (nI (116)))) (R) (show okP (setC w0 ((4 * m_cz v)) (nI (116))) from (setC_ok hok09))) hx hb hml hown hts (cwV 1 hts gX11_command_X11_behind rfl rfl rfl (by decide +kernel) ⟨(Nat.le_of_ble_eq_true rfl), (Nat.le_of_ble_eq_true rfl)⟩) hK hP hD hS hA (va_recv hK hP (ci := 10) (q0 := 0) rfl rfl) rfl hl.1 rfl (Nat.le_of_ble_eq_true rfl) dX11_command_167 ⟨(Nat.le_of_ble_eq_true rfl), (Nat.le_of_ble_eq_true rfl)⟩ (fun r_167 _ H locs hr_167 hP hD hS => ?_)
  subst hr_167
  have hP : va_P D vwCl (MW ct o (F_bh1 (setC w0 ((4 * m_cz v)) (nI (116)))).2 R) H := hP
  have hD : va_D A (MW ct o (F_bh1 (setC w0 ((4 * m_cz v)) (nI (116)))).2 R) := hD
  obtain ⟨q1, hq1⟩ : ∃ q9, q9 = (F_bh1 (setC w0 ((4 * m_cz v)) (nI (116)))) := ⟨_, rfl⟩
  rw [← hq1] at hP hD ⊢
  have hok19 : okP (setN (((4 * m_cz v) + 1)) q1) := setN_ok (by rw [hq1]; exact (num1_ok (need_ok (by decide) (setC_ok hok09))))
  refine zIast (n := 244) (f := m_cm q1.2) (i := ((4 * m_cz v) + 1)) hx hb hK hP hD hS 6 rfl (by omega) (by decide) dX11_command_170 (fun H locs hP hD hS => ?_)
  have hP : va_P D vwCl (MW ct o (m_g q1.2, m_fl q1.2, m_ch q1.2, m_sv q1.2, m_why q1.2, m_det q1.2, m_li q1.2, m_ld q1.2, m_wt q1.2, m_wm q1.2, m_ln q1.2, m_lz q1.2, m_in q1.2, m_ty q1.2, m_he q1.2, m_wa q1.2, m_fa q1.2, (upd (m_cm q1.2) (((4 * m_cz v) + 1)) (q1.1)), m_cz q1.2) R) H := hP
  have hD : va_D A (MW ct o (m_g q1.2, m_fl q1.2, m_ch q1.2, m_sv q1.2, m_why q1.2, m_det q1.2, m_li q1.2, m_ld q1.2, m_wt q1.2, m_wm q1.2, m_ln q1.2, m_lz q1.2, m_in q1.2, m_ty q1.2, m_he q1.2, m_wa q1.2, m_fa q1.2, (upd (m_cm q1.2) (((4 * m_cz v) + 1)) (q1.1)), m_cz q1.2) R) := hD
  have hP : va_P D vwCl (MW ct o (setN (((4 * m_cz v) + 1)) q1) R) H := hP
  have hD : va_D A (MW ct o (setN (((4 * m_cz v) + 1)) q1) R) := hD
  refine lv_iload_n hx hb dX11_command_171 rfl (lv_at hl 0 rfl) ?_
  refine lv_tableIn (off := 110) (tgt := 282) hx hb dX11_command_172 (by decide) (by decide) (by rfl) (by decide) ?_
  refine lv_aload_n hx hb dX11_command_282 rfl (lv_at hl 1 rfl) ?_
  refine va_get (ci := 10) (v := .ref (o 6)) hx hb hts h_X11 hown hK hP 0 rfl rfl 17 (by decide) f31 (fun _ h9 => h9) rfl dX11_command_283 ?_
  refine lv_iload_n hx hb dX11_command_286 rfl (lv_at hl 2 rfl) ?_
  refine lv_iconst (v := nI (2)) hx hb dX11_command_287 (by decide) ?_
  refine zNadd hx hb dX11_command_288 ?_
  refine lv_aload_n hx hb dX11_command_289 rfl (lv_at hl 1 rfl) ?_
  refine lv_iconst (v := nI (1)) hx hb dX11_command_290 (by decide) ?_
  refine zVI [.int (nI (1))] [.int (nI (((4 * m_cz v) + 2))), .ref (o 6)] (kX11_behind_1 (o) ((setN (((4 * m_cz v) + 1)) q1)) (R) (show okP (setN (((4 * m_cz v) + 1)) q1) from hok19)) hx hb hml hown hts (cwV 1 hts gX11_command_X11_behind rfl rfl rfl (by decide +kernel) ⟨(Nat.le_of_ble_eq_true rfl), (Nat.le_of_ble_eq_true rfl)⟩) hK hP hD hS hA (va_recv hK hP (ci := 10) (q0 := 0) rfl rfl) rfl hl.1 rfl (Nat.le_of_ble_eq_true rfl) dX11_command_291 ⟨(Nat.le_of_ble_eq_true rfl), (Nat.le_of_ble_eq_true rfl)⟩ (fun r_291 _ H locs hr_291 hP hD hS => ?_)
  subst hr_291
  have hP : va_P D vwCl (MW ct o (F_bh1 (setN (((4 * m_cz v) + 1)) q1)).2 R) H := hP
  have hD : va_D A (MW ct o (F_bh1 (setN (((4 * m_cz v) + 1)) q1)).2 R) := hD
  obtain ⟨q2, hq2⟩ : ∃ q9, q9 = (F_bh1 (setN (((4 * m_cz v) + 1)) q1)) := ⟨_, rfl⟩
  rw [← hq2] at hP hD ⊢
  have hok29 : okP (setN (((4 * m_cz v) + 2)) q2) := setN_ok (by rw [hq2]; exact (num1_ok (need_ok (by decide) hok19)))
  refine zIast (n := 244) (f := m_cm q2.2) (i := ((4 * m_cz v) + 2)) hx hb hK hP hD hS 6 rfl (by omega) (by decide) dX11_command_294 (fun H locs hP hD hS => ?_)
  have hP : va_P D vwCl (MW ct o (m_g q2.2, m_fl q2.2, m_ch q2.2, m_sv q2.2, m_why q2.2, m_det q2.2, m_li q2.2, m_ld q2.2, m_wt q2.2, m_wm q2.2, m_ln q2.2, m_lz q2.2, m_in q2.2, m_ty q2.2, m_he q2.2, m_wa q2.2, m_fa q2.2, (upd (m_cm q2.2) (((4 * m_cz v) + 2)) (q2.1)), m_cz q2.2) R) H := hP
  have hD : va_D A (MW ct o (m_g q2.2, m_fl q2.2, m_ch q2.2, m_sv q2.2, m_why q2.2, m_det q2.2, m_li q2.2, m_ld q2.2, m_wt q2.2, m_wm q2.2, m_ln q2.2, m_lz q2.2, m_in q2.2, m_ty q2.2, m_he q2.2, m_wa q2.2, m_fa q2.2, (upd (m_cm q2.2) (((4 * m_cz v) + 2)) (q2.1)), m_cz q2.2) R) := hD
  have hP : va_P D vwCl (MW ct o (setN (((4 * m_cz v) + 2)) q2) R) H := hP
  have hD : va_D A (MW ct o (setN (((4 * m_cz v) + 2)) q2) R) := hD
  refine lv_goto (tgt := 298) hx hb dX11_command_295 (by decide) ?_
  have e9 : F_cmd v = (setN (((4 * m_cz v) + 2)) q2) := (by rw [hq2, hq1, hw0]; exact cmd_t hfst)
  exact zVret () hx hb hr hlocks hK (by show va_P D vwCl (MW ct o (F_cmd v) R) H; rw [e9]; exact hP) (by show va_D A (MW ct o (F_cmd v) R); rw [e9]; exact hD) hS dX11_command_298 trivial
set_option maxHeartbeats 4000000 in
set_option maxRecDepth 100000 in
theorem cmdw_103 {D : va_G} {ct : Nat → ClassId} {l : Launch} (o : Nat → Nat) (v : MS) (R : va_W)  (ho : okP v) (hcz : m_cz v ≤ 60) (g0 : ¬ sg (m_in v) (m_ty v) (m_he v) = nI 112) (g1 : ¬ sg (m_in v) (m_ty v) (m_he v) = nI 99) (g2 : ¬ sg (m_in v) (m_ty v) (m_he v) = nI 114) (g3 : ¬ sg (m_in v) (m_ty v) (m_he v) = nI 108) (g4 : ¬ sg (m_in v) (m_ty v) (m_he v) = nI 117) (g5 : ¬ sg (m_in v) (m_ty v) (m_he v) = nI 115) (g6 : ¬ sg (m_in v) (m_ty v) (m_he v) = nI 116) (hfst : sg (m_in v) (m_ty v) (m_he v) = nI 103) {p : Program} {e : Env} {s : State} {m : MethodId} {args : Array Value} {below : List Frame} {meth : Method} {c : Code} {A : Nat → Prop} {H : Heap} {locs : List Loc} {ls : Array Slot} (F : zF p yX11_command wsX11_command cX11_command 4 none s m args meth c) (hP : va_P D vwCl (MW ct o (m_g v, m_fl v, m_ch v, m_sv v, m_why v, m_det v, m_li v, m_ld v, m_wt v, m_wm v, m_ln v, m_lz v, m_in v, m_ty v, m_he v, m_wa v, m_fa v, (zr4 (m_cm v) (4 * m_cz v) 4), (m_cz v + 1)) R) H) (hK : zK D ct s) (hD : va_D A (MW ct o (m_g v, m_fl v, m_ch v, m_sv v, m_why v, m_det v, m_li v, m_ld v, m_wt v, m_wm v, m_ln v, m_lz v, m_in v, m_ty v, m_he v, m_wa v, m_fa v, (zr4 (m_cm v) (4 * m_cz v) 4), (m_cz v + 1)) R)) (hS : va_S A s.heap H locs) (hA : ∀ q, s.heap.size ≤ q → A q) (hl : lv_has ls 4 [(0, .ref (o 0)), (1, .int (nI ((4 * m_cz v)))), (2, .int ((sg (m_in v) (m_ty v) (m_he v)))), (3, .int (nI (4)))]) : W p l e rmX11_command s m args below meth c H locs 0 0 (MQ below (va_Qv (fun _ : Unit => True) (zB D ct A (fun _ : Unit => MW ct o (F_cmd v) R)) A) args s rmX11_command.cells rmX11_command.slots A) (F0 m 101 ls []) := by
  obtain ⟨hx, hb, hr, hlocks, hml, hown, hts, hin⟩ := F
  have hh0 : m_he v ≤ m_ty v := ho.1
  have ht0 : m_ty v ≤ 60 := ho.2
  have h_X11 := in_X11_command_X11
  have f31 := hts (.fieldLink RX11 31 "CartArgumentsModel" "commands" "[I") (by decide +kernel)
  have f195 := hts (.fieldLink RX11 195 "CartArgumentsModel" "here" "I") (by decide +kernel)
  have f198 := hts (.fieldLink RX11 198 "CartArgumentsModel" "wrongAt" "I") (by decide +kernel)
  have f215 := hts (.fieldLink RX11 215 "CartArgumentsModel" "commandMany" "I") (by decide +kernel)
  have hl : lv_has ls 4 [(0, .ref (o 0)), (1, .int (nI ((4 * m_cz v)))), (2, .int (nI (103))), (3, .int (nI (4)))] := (by have hl9 := hl; rw [show sg (m_in v) (m_ty v) (m_he v) = nI (103) from hfst] at hl9; exact hl9)
  have hok1 : okP (c_1 v) := ⟨sg_ne hfst (by decide), ho.2⟩
  have hh1 : m_he v + 1 ≤ m_ty v := hok1.1
  refine lv_aload_n hx hb dX11_command_101 rfl (lv_at hl 0 rfl) ?_
  refine lv_dup hx hb dX11_command_102 rfl ?_
  refine va_get (ci := 10) (v := .int (nI (m_he v))) hx hb hts h_X11 hown hK hP 0 rfl rfl 14 (by decide) f195 (fun _ h9 => h9) rfl dX11_command_103 ?_
  refine lv_iconst (v := nI (1)) hx hb dX11_command_106 (by decide) ?_
  refine zNadd hx hb dX11_command_107 ?_
  refine va_put (ci := 10) (v := .int (nI ((m_he v + 1)))) (ty := .int) hx hb hts h_X11 tyX11 tyX11_ok nmX11 hown hK hP hD hS 0 rfl rfl 14 (by decide) f195 (fun _ h9 => h9) rfl (by decide +kernel) rfl rfl (Nat.le_of_ble_eq_true rfl) dX11_command_108 (fun H locs hP hD hS => ?_)
  have hP : va_P D vwCl (MW ct o (m_g v, m_fl v, m_ch v, m_sv v, m_why v, m_det v, m_li v, m_ld v, m_wt v, m_wm v, m_ln v, m_lz v, m_in v, m_ty v, (m_he v + 1), m_wa v, m_fa v, (zr4 (m_cm v) (4 * m_cz v) 4), (m_cz v + 1)) R) H := hP
  have hD : va_D A (MW ct o (m_g v, m_fl v, m_ch v, m_sv v, m_why v, m_det v, m_li v, m_ld v, m_wt v, m_wm v, m_ln v, m_lz v, m_in v, m_ty v, (m_he v + 1), m_wa v, m_fa v, (zr4 (m_cm v) (4 * m_cz v) 4), (m_cz v + 1)) R) := hD
  have hP : va_P D vwCl (MW ct o (c_1 v) R) H := hP
  have hD : va_D A (MW ct o (c_1 v) R) := hD
  refine lv_aload_n hx hb dX11_command_111 rfl (lv_at hl 0 rfl) ?_
  refine lv_iload_n hx hb dX11_command_112 rfl (lv_at hl 2 rfl) ?_
  refine zVI [.int (nI (103))] [] (kX11_word_g (o) ((c_1 v)) (R) (show okP (c_1 v) from hok1)) hx hb hml hown hts (cwV 1 hts gX11_command_X11_word rfl rfl rfl (by decide +kernel) ⟨(Nat.le_of_ble_eq_true rfl), (Nat.le_of_ble_eq_true rfl)⟩) hK hP hD hS hA (va_recv hK hP (ci := 10) (q0 := 0) rfl rfl) rfl hl.1 rfl (Nat.le_of_ble_eq_true rfl) dX11_command_113 ⟨(Nat.le_of_ble_eq_true rfl), (Nat.le_of_ble_eq_true rfl)⟩ (fun r_113 _ H locs hr_113 hP hD hS => ?_)
  subst hr_113
  have hP : va_P D vwCl (MW ct o (W_g (c_1 v)) R) H := hP
  have hD : va_D A (MW ct o (W_g (c_1 v)) R) := hD
  obtain ⟨w0, hw0⟩ : ∃ w9, w9 = (W_g (c_1 v)) := ⟨_, rfl⟩
  rw [← hw0] at hP hD
  have hok09 : okP w0 := by rw [hw0]; exact (s2_ok (by decide) (by decide) (s3_ok (by decide) (by decide) (by decide) hok1))
  have hP : va_P D vwCl (MW ct o w0 R) H := hP
  have hD : va_D A (MW ct o w0 R) := hD
  refine lv_istore_n (lv' := [(3, .int (nI (103))), (0, .ref (o 0)), (1, .int (nI ((4 * m_cz v)))), (2, .int (nI (103)))]) hx hb dX11_command_116 rfl hl (by decide) rfl (fun ls hl => ?_)
  refine lv_aload_n hx hb dX11_command_117 rfl (lv_at hl 1 rfl) ?_
  refine va_get (ci := 10) (v := .ref (o 6)) hx hb hts h_X11 hown hK hP 0 rfl rfl 17 (by decide) f31 (fun _ h9 => h9) rfl dX11_command_118 ?_
  refine lv_iload_n hx hb dX11_command_121 rfl (lv_at hl 2 rfl) ?_
  refine lv_iload_n hx hb dX11_command_122 rfl (lv_at hl 0 rfl) ?_
  refine zIast (n := 244) (f := m_cm w0) (i := (4 * m_cz v)) hx hb hK hP hD hS 6 rfl (by omega) (by decide) dX11_command_123 (fun H locs hP hD hS => ?_)
  have hP : va_P D vwCl (MW ct o (m_g w0, m_fl w0, m_ch w0, m_sv w0, m_why w0, m_det w0, m_li w0, m_ld w0, m_wt w0, m_wm w0, m_ln w0, m_lz w0, m_in w0, m_ty w0, m_he w0, m_wa w0, m_fa w0, (upd (m_cm w0) ((4 * m_cz v)) (nI (103))), m_cz w0) R) H := hP
  have hD : va_D A (MW ct o (m_g w0, m_fl w0, m_ch w0, m_sv w0, m_why w0, m_det w0, m_li w0, m_ld w0, m_wt w0, m_wm w0, m_ln w0, m_lz w0, m_in w0, m_ty w0, m_he w0, m_wa w0, m_fa w0, (upd (m_cm w0) ((4 * m_cz v)) (nI (103))), m_cz w0) R) := hD
  have hP : va_P D vwCl (MW ct o (setC w0 ((4 * m_cz v)) (nI (103))) R) H := hP
  have hD : va_D A (MW ct o (setC w0 ((4 * m_cz v)) (nI (103))) R) := hD
  refine lv_aload_n hx hb dX11_command_124 rfl (lv_at hl 1 rfl) ?_
  refine va_get (ci := 10) (v := .ref (o 6)) hx hb hts h_X11 hown hK hP 0 rfl rfl 17 (by decide) f31 (fun _ h9 => h9) rfl dX11_command_125 ?_
  refine lv_iload_n hx hb dX11_command_128 rfl (lv_at hl 2 rfl) ?_
  refine lv_iconst (v := nI (1)) hx hb dX11_command_129 (by decide) ?_
  refine zNadd hx hb dX11_command_130 ?_
  refine lv_aload_n hx hb dX11_command_131 rfl (lv_at hl 1 rfl) ?_
  refine lv_iload_n hx hb dX11_command_132 rfl (lv_at hl 0 rfl) ?_
  refine lv_bipush (v := nI (99)) hx hb dX11_command_133 (by decide) ?_
  refine lv_icmp_eq (tgt := 162) hx hb dX11_command_135 (by decide) (fun c9 => absurd c9 (by decide)) (fun c9 => ?_)
  refine lv_iload_n hx hb dX11_command_138 rfl (lv_at hl 0 rfl) ?_
  refine lv_bipush (v := nI (97)) hx hb dX11_command_139 (by decide) ?_
  refine lv_icmp_eq (tgt := 162) hx hb dX11_command_141 (by decide) (fun c9 => absurd c9 (by decide)) (fun c9 => ?_)
  refine lv_iload_n hx hb dX11_command_144 rfl (lv_at hl 0 rfl) ?_
  refine lv_bipush (v := nI (114)) hx hb dX11_command_145 (by decide) ?_
  refine lv_icmp_eq (tgt := 162) hx hb dX11_command_147 (by decide) (fun c9 => absurd c9 (by decide)) (fun c9 => ?_)
  refine lv_iload_n hx hb dX11_command_150 rfl (lv_at hl 0 rfl) ?_
  refine lv_bipush (v := nI (108)) hx hb dX11_command_151 (by decide) ?_
  refine lv_icmp_eq (tgt := 162) hx hb dX11_command_153 (by decide) (fun c9 => absurd c9 (by decide)) (fun c9 => ?_)
  refine lv_iload_n hx hb dX11_command_156 rfl (lv_at hl 0 rfl) ?_
  refine lv_bipush (v := nI (117)) hx hb dX11_command_157 (by decide) ?_
  refine lv_icmp_ne (tgt := 166) hx hb dX11_command_159 (by decide) (fun c9 => ?_) (fun c9 => absurd c9 (by decide))
  refine lv_iconst (v := nI (1)) hx hb dX11_command_166 (by decide) ?_
  refine zVI [.int (nI (1))] [.int (nI (((4 * m_cz v) + 1))), .ref (o 6)] (kX11_behind_1 (o) ((setC w0 ((4 * m_cz v)) (nI (103)))) (R) (show okP (setC w0 ((4 * m_cz v)) (nI (103))) from (setC_ok hok09))) hx hb hml hown hts (cwV 1 hts gX11_command_X11_behind rfl rfl rfl (by decide +kernel) ⟨(Nat.le_of_ble_eq_true rfl), (Nat.le_of_ble_eq_true rfl)⟩) hK hP hD hS hA (va_recv hK hP (ci := 10) (q0 := 0) rfl rfl) rfl hl.1 rfl (Nat.le_of_ble_eq_true rfl) dX11_command_167 ⟨(Nat.le_of_ble_eq_true rfl), (Nat.le_of_ble_eq_true rfl)⟩ (fun r_167 _ H locs hr_167 hP hD hS => ?_)
  subst hr_167
  have hP : va_P D vwCl (MW ct o (F_bh1 (setC w0 ((4 * m_cz v)) (nI (103)))).2 R) H := hP
  have hD : va_D A (MW ct o (F_bh1 (setC w0 ((4 * m_cz v)) (nI (103)))).2 R) := hD
  obtain ⟨q1, hq1⟩ : ∃ q9, q9 = (F_bh1 (setC w0 ((4 * m_cz v)) (nI (103)))) := ⟨_, rfl⟩
  rw [← hq1] at hP hD ⊢
  have hok19 : okP (setN (((4 * m_cz v) + 1)) q1) := setN_ok (by rw [hq1]; exact (num1_ok (need_ok (by decide) (setC_ok hok09))))
  refine zIast (n := 244) (f := m_cm q1.2) (i := ((4 * m_cz v) + 1)) hx hb hK hP hD hS 6 rfl (by omega) (by decide) dX11_command_170 (fun H locs hP hD hS => ?_)
  have hP : va_P D vwCl (MW ct o (m_g q1.2, m_fl q1.2, m_ch q1.2, m_sv q1.2, m_why q1.2, m_det q1.2, m_li q1.2, m_ld q1.2, m_wt q1.2, m_wm q1.2, m_ln q1.2, m_lz q1.2, m_in q1.2, m_ty q1.2, m_he q1.2, m_wa q1.2, m_fa q1.2, (upd (m_cm q1.2) (((4 * m_cz v) + 1)) (q1.1)), m_cz q1.2) R) H := hP
  have hD : va_D A (MW ct o (m_g q1.2, m_fl q1.2, m_ch q1.2, m_sv q1.2, m_why q1.2, m_det q1.2, m_li q1.2, m_ld q1.2, m_wt q1.2, m_wm q1.2, m_ln q1.2, m_lz q1.2, m_in q1.2, m_ty q1.2, m_he q1.2, m_wa q1.2, m_fa q1.2, (upd (m_cm q1.2) (((4 * m_cz v) + 1)) (q1.1)), m_cz q1.2) R) := hD
  have hP : va_P D vwCl (MW ct o (setN (((4 * m_cz v) + 1)) q1) R) H := hP
  have hD : va_D A (MW ct o (setN (((4 * m_cz v) + 1)) q1) R) := hD
  refine lv_iload_n hx hb dX11_command_171 rfl (lv_at hl 0 rfl) ?_
  refine lv_tableOut (tgt := 298) hx hb dX11_command_172 (by decide) (by decide) ?_
  have e9 : F_cmd v = (setN (((4 * m_cz v) + 1)) q1) := (by rw [hq1, hw0]; exact cmd_g hfst)
  exact zVret () hx hb hr hlocks hK (by show va_P D vwCl (MW ct o (F_cmd v) R) H; rw [e9]; exact hP) (by show va_D A (MW ct o (F_cmd v) R); rw [e9]; exact hD) hS dX11_command_298 trivial
