/-! THE REFERENCE: lines -/
abbrev rmX11_writes : Room := { frames := 0, cells := 0, slots := 0, locals := 0 }
theorem in_X11_writes_X11 : ∀ w ∈ u_ws RX11 TX11 19, w ∈ wsX11_writes := by decide +kernel
set_option maxHeartbeats 4000000 in
set_option maxRecDepth 100000 in
theorem kX11_writes {D : va_G} {ct : Nat → ClassId} {l : Launch} (o : Nat → Nat) (v : MS) (R : va_W) (ch : Nat) (hc : ch < 65536) (hz : m_lz v < 60) : MV D ct l yX11_writes wsX11_writes rmX11_writes (MW ct o v R) [.ref (o 0), .int (nI (ch))] (fun _ : Unit => True) (fun _ : Unit => MW ct o (apL v [ch]) R) := by
  refine MVof (cc := cX11_writes) (maxL := 2) (ret := none) (by decide) rfl (Nat.le_of_ble_eq_true rfl) ?_
  intro p e s m args below meth c A H locs F hP hK hD hS hA ls hl
  obtain ⟨hx, hb, hr, hlocks, hml, hown, hts, hin⟩ := F
  have hl : lv_has ls 2 [(0, .ref (o 0)), (1, .int (nI (ch)))] := hl
  have h_X11 := in_X11_writes_X11
  have f20 := hts (.fieldLink RX11 20 "CartArgumentsModel" "line" "[C") (by decide +kernel)
  have f179 := hts (.fieldLink RX11 179 "CartArgumentsModel" "lineSize" "I") (by decide +kernel)
  refine lv_aload_n hx hb dX11_writes_0 rfl (lv_at hl 0 rfl) ?_
  refine va_get (ci := 10) (v := .ref (o 4)) hx hb hts h_X11 hown hK hP 0 rfl rfl 10 (by decide) f20 (fun _ h9 => h9) rfl dX11_writes_1 ?_
  refine lv_aload_n hx hb dX11_writes_4 rfl (lv_at hl 0 rfl) ?_
  refine va_get (ci := 10) (v := .int (nI (m_lz v))) hx hb hts h_X11 hown hK hP 0 rfl rfl 11 (by decide) f179 (fun _ h9 => h9) rfl dX11_writes_5 ?_
  refine lv_iload_n hx hb dX11_writes_8 rfl (lv_at hl 1 rfl) ?_
  refine lv_i2c (v := nI (ch)) hx hb dX11_writes_9 (i2cN hc) ?_
  refine zCast (n := 60) (f := m_ln v) (i := m_lz v) hx hb hK hP hD hS 4 rfl (by omega) (by decide) dX11_writes_10 (fun H locs hP hD hS => ?_)
  have hP : va_P D vwCl (MW ct o (m_g v, m_fl v, m_ch v, m_sv v, m_why v, m_det v, m_li v, m_ld v, m_wt v, m_wm v, (upd (m_ln v) (m_lz v) (vp_nar .char (nI (ch)))), m_lz v, m_in v, m_ty v, m_he v, m_wa v, m_fa v, m_cm v, m_cz v) R) H := hP
  have hD : va_D A (MW ct o (m_g v, m_fl v, m_ch v, m_sv v, m_why v, m_det v, m_li v, m_ld v, m_wt v, m_wm v, (upd (m_ln v) (m_lz v) (vp_nar .char (nI (ch)))), m_lz v, m_in v, m_ty v, m_he v, m_wa v, m_fa v, m_cm v, m_cz v) R) := hD
  refine lv_aload_n hx hb dX11_writes_11 rfl (lv_at hl 0 rfl) ?_
  refine lv_dup hx hb dX11_writes_12 rfl ?_
  refine va_get (ci := 10) (v := .int (nI (m_lz v))) hx hb hts h_X11 hown hK hP 0 rfl rfl 11 (by decide) f179 (fun _ h9 => h9) rfl dX11_writes_13 ?_
  refine lv_iconst (v := nI (1)) hx hb dX11_writes_16 (by decide) ?_
  refine zNadd hx hb dX11_writes_17 ?_
  refine va_put (ci := 10) (v := .int (nI ((m_lz v + 1)))) (ty := .int) hx hb hts h_X11 tyX11 tyX11_ok nmX11 hown hK hP hD hS 0 rfl rfl 11 (by decide) f179 (fun _ h9 => h9) rfl (by decide +kernel) rfl rfl (Nat.le_of_ble_eq_true rfl) dX11_writes_18 (fun H locs hP hD hS => ?_)
  have hP : va_P D vwCl (MW ct o (m_g v, m_fl v, m_ch v, m_sv v, m_why v, m_det v, m_li v, m_ld v, m_wt v, m_wm v, (upd (m_ln v) (m_lz v) (vp_nar .char (nI (ch)))), (m_lz v + 1), m_in v, m_ty v, m_he v, m_wa v, m_fa v, m_cm v, m_cz v) R) H := hP
  have hD : va_D A (MW ct o (m_g v, m_fl v, m_ch v, m_sv v, m_why v, m_det v, m_li v, m_ld v, m_wt v, m_wm v, (upd (m_ln v) (m_lz v) (vp_nar .char (nI (ch)))), (m_lz v + 1), m_in v, m_ty v, m_he v, m_wa v, m_fa v, m_cm v, m_cz v) R) := hD
  have e9 : apL v [ch] = (m_g v, m_fl v, m_ch v, m_sv v, m_why v, m_det v, m_li v, m_ld v, m_wt v, m_wm v, (upd (m_ln v) (m_lz v) (vp_nar .char (nI (ch)))), (m_lz v + 1), m_in v, m_ty v, m_he v, m_wa v, m_fa v, m_cm v, m_cz v) := (apL_1 hc)
  exact zVret () hx hb hr hlocks hK (by show va_P D vwCl (MW ct o (apL v [ch]) R) H; rw [e9]; exact hP) (by show va_D A (MW ct o (apL v [ch]) R); rw [e9]; exact hD) hS dX11_writes_21 trivial
abbrev rmX11_writesNumber_1 : Room := { frames := 1, cells := 0, slots := 0, locals := 21 }
set_option maxHeartbeats 4000000 in
set_option maxRecDepth 100000 in
theorem kX11_writesNumber_1 {D : va_G} {ct : Nat → ClassId} {l : Launch} (o : Nat → Nat) (v : MS) (R : va_W) (ch : Nat) (hc : ch ≤ 9) (hz : m_lz v + 1 ≤ 60) : MV D ct l yX11_writesNumber wsX11_writesNumber rmX11_writesNumber_1 (MW ct o v R) [.ref (o 0), .int (nI (ch))] (fun _ : Unit => True) (fun _ : Unit => MW ct o (apL v (dgL ch)) R) := by
  refine MVof (cc := cX11_writesNumber) (maxL := 2) (ret := none) (by decide) rfl (Nat.le_of_ble_eq_true rfl) ?_
  intro p e s m args below meth c A H locs F hP hK hD hS hA ls hl
  obtain ⟨hx, hb, hr, hlocks, hml, hown, hts, hin⟩ := F
  have hl : lv_has ls 2 [(0, .ref (o 0)), (1, .int (nI (ch)))] := hl
  refine lv_iload_n hx hb dX11_writesNumber_0 rfl (lv_at hl 1 rfl) ?_
  refine lv_bipush (v := nI (9)) hx hb dX11_writesNumber_1 (by decide) ?_
  refine zN_icmp_le (tgt := 14) hx hb (by omega) (by omega) dX11_writesNumber_3 (by decide) (fun c3_1 => ?_) (fun c3_1 => ?_)
  · skip
    refine lv_aload_n hx hb dX11_writesNumber_14 rfl (lv_at hl 0 rfl) ?_
    refine lv_bipush (v := nI (48)) hx hb dX11_writesNumber_15 (by decide) ?_
    refine lv_iload_n hx hb dX11_writesNumber_17 rfl (lv_at hl 1 rfl) ?_
    refine lv_bipush (v := nI (10)) hx hb dX11_writesNumber_18 (by decide) ?_
    refine lv_irem hx hb dX11_writesNumber_20 (by decide) ?_
    refine lv_iadd hx hb dX11_writesNumber_21 ?_
    refine zTop (y := nI (48 + ch % 10)) (rem48 (by omega)) ?_
    refine zVV [.int (nI (48 + ch % 10))] [] (kX11_writes (o) (v) (R) (48 + ch % 10) (show (48 + ch % 10) < 65536 from by omega) (show m_lz v < 60 from by omega)) hx hb hml hown hts (cwV 1 hts gX11_writesNumber_X11_writes rfl rfl rfl (by decide +kernel) ⟨(Nat.le_of_ble_eq_true rfl), (Nat.le_of_ble_eq_true rfl)⟩) hK hP hD hS hA (va_recv hK hP (ci := 10) (q0 := 0) rfl rfl) rfl hl.1 rfl (Nat.le_of_ble_eq_true rfl) dX11_writesNumber_22 ⟨(Nat.le_of_ble_eq_true rfl), (Nat.le_of_ble_eq_true rfl)⟩ (fun _ H locs hr_22 hP hD hS => ?_)
    have hP : va_P D vwCl (MW ct o (apL v [(48 + ch % 10)]) R) H := hP
    have hD : va_D A (MW ct o (apL v [(48 + ch % 10)]) R) := hD
    have e9 : apL v (dgL ch) = (apL v [(48 + ch % 10)]) := (by rw [dgL, if_pos hc])
    exact zVret () hx hb hr hlocks hK (by show va_P D vwCl (MW ct o (apL v (dgL ch)) R) H; rw [e9]; exact hP) (by show va_D A (MW ct o (apL v (dgL ch)) R); rw [e9]; exact hD) hS dX11_writesNumber_25 trivial
  · skip
    exact absurd hc c3_1
abbrev rmX11_writesNumber_2 : Room := { frames := 2, cells := 0, slots := 0, locals := 42 }
set_option maxHeartbeats 4000000 in
set_option maxRecDepth 100000 in
theorem kX11_writesNumber_2 {D : va_G} {ct : Nat → ClassId} {l : Launch} (o : Nat → Nat) (v : MS) (R : va_W) (ch : Nat) (hc : ch ≤ 99) (hz : m_lz v + 2 ≤ 60) : MV D ct l yX11_writesNumber wsX11_writesNumber rmX11_writesNumber_2 (MW ct o v R) [.ref (o 0), .int (nI (ch))] (fun _ : Unit => True) (fun _ : Unit => MW ct o (apL v (dgL ch)) R) := by
  refine MVof (cc := cX11_writesNumber) (maxL := 2) (ret := none) (by decide) rfl (Nat.le_of_ble_eq_true rfl) ?_
  intro p e s m args below meth c A H locs F hP hK hD hS hA ls hl
  obtain ⟨hx, hb, hr, hlocks, hml, hown, hts, hin⟩ := F
  have hl : lv_has ls 2 [(0, .ref (o 0)), (1, .int (nI (ch)))] := hl
  refine lv_iload_n hx hb dX11_writesNumber_0 rfl (lv_at hl 1 rfl) ?_
  refine lv_bipush (v := nI (9)) hx hb dX11_writesNumber_1 (by decide) ?_
  refine zN_icmp_le (tgt := 14) hx hb (by omega) (by omega) dX11_writesNumber_3 (by decide) (fun c3_1 => ?_) (fun c3_1 => ?_)
  · skip
    refine lv_aload_n hx hb dX11_writesNumber_14 rfl (lv_at hl 0 rfl) ?_
    refine lv_bipush (v := nI (48)) hx hb dX11_writesNumber_15 (by decide) ?_
    refine lv_iload_n hx hb dX11_writesNumber_17 rfl (lv_at hl 1 rfl) ?_
    refine lv_bipush (v := nI (10)) hx hb dX11_writesNumber_18 (by decide) ?_
    refine lv_irem hx hb dX11_writesNumber_20 (by decide) ?_
    refine lv_iadd hx hb dX11_writesNumber_21 ?_
    refine zTop (y := nI (48 + ch % 10)) (rem48 (by omega)) ?_
    refine zVV [.int (nI (48 + ch % 10))] [] (kX11_writes (o) (v) (R) (48 + ch % 10) (show (48 + ch % 10) < 65536 from by omega) (show m_lz v < 60 from (by omega))) hx hb hml hown hts (cwV 1 hts gX11_writesNumber_X11_writes rfl rfl rfl (by decide +kernel) ⟨(Nat.le_of_ble_eq_true rfl), (Nat.le_of_ble_eq_true rfl)⟩) hK hP hD hS hA (va_recv hK hP (ci := 10) (q0 := 0) rfl rfl) rfl hl.1 rfl (Nat.le_of_ble_eq_true rfl) dX11_writesNumber_22 ⟨(Nat.le_of_ble_eq_true rfl), (Nat.le_of_ble_eq_true rfl)⟩ (fun _ H locs hr_22 hP hD hS => ?_)
    have hP : va_P D vwCl (MW ct o (apL v [(48 + ch % 10)]) R) H := hP
    have hD : va_D A (MW ct o (apL v [(48 + ch % 10)]) R) := hD
    have e9 : apL v (dgL ch) = (apL v [(48 + ch % 10)]) := (by rw [dgL, if_pos (show ch ≤ 9 by omega)])
    exact zVret () hx hb hr hlocks hK (by show va_P D vwCl (MW ct o (apL v (dgL ch)) R) H; rw [e9]; exact hP) (by show va_D A (MW ct o (apL v (dgL ch)) R); rw [e9]; exact hD) hS dX11_writesNumber_25 trivial
  · skip
    refine lv_aload_n hx hb dX11_writesNumber_6 rfl (lv_at hl 0 rfl) ?_
    refine lv_iload_n hx hb dX11_writesNumber_7 rfl (lv_at hl 1 rfl) ?_
    refine lv_bipush (v := nI (10)) hx hb dX11_writesNumber_8 (by decide) ?_
    refine lv_idiv hx hb dX11_writesNumber_10 (by decide) ?_
    refine zTop (y := nI (ch / 10)) (div10 (by omega)) ?_
    refine zVV [.int (nI (ch / 10))] [] (kX11_writesNumber_1 (o) (v) (R) (ch / 10) (show (ch / 10) ≤ 9 from by omega) (show m_lz v + 1 ≤ 60 from (by omega))) hx hb hml hown hts (cwV 1 hts gX11_writesNumber_X11_writesNumber rfl rfl rfl (by decide +kernel) ⟨(Nat.le_of_ble_eq_true rfl), (Nat.le_of_ble_eq_true rfl)⟩) hK hP hD hS hA (va_recv hK hP (ci := 10) (q0 := 0) rfl rfl) rfl hl.1 rfl (Nat.le_of_ble_eq_true rfl) dX11_writesNumber_11 ⟨(Nat.le_of_ble_eq_true rfl), (Nat.le_of_ble_eq_true rfl)⟩ (fun _ H locs hr_11 hP hD hS => ?_)
    have hP : va_P D vwCl (MW ct o (apL v (dgL (ch / 10))) R) H := hP
    have hD : va_D A (MW ct o (apL v (dgL (ch / 10))) R) := hD
    refine lv_aload_n hx hb dX11_writesNumber_14 rfl (lv_at hl 0 rfl) ?_
    refine lv_bipush (v := nI (48)) hx hb dX11_writesNumber_15 (by decide) ?_
    refine lv_iload_n hx hb dX11_writesNumber_17 rfl (lv_at hl 1 rfl) ?_
    refine lv_bipush (v := nI (10)) hx hb dX11_writesNumber_18 (by decide) ?_
    refine lv_irem hx hb dX11_writesNumber_20 (by decide) ?_
    refine lv_iadd hx hb dX11_writesNumber_21 ?_
    refine zTop (y := nI (48 + ch % 10)) (rem48 (by omega)) ?_
    refine zVV [.int (nI (48 + ch % 10))] [] (kX11_writes (o) ((apL v (dgL (ch / 10)))) (R) (48 + ch % 10) (show (48 + ch % 10) < 65536 from by omega) (show (m_lz (apL v (dgL (ch / 10)))) < 60 from (by rw [dgL, if_pos (show ch / 10 ≤ 9 by omega)]; show m_lz v + 1 < 60; omega))) hx hb hml hown hts (cwV 1 hts gX11_writesNumber_X11_writes rfl rfl rfl (by decide +kernel) ⟨(Nat.le_of_ble_eq_true rfl), (Nat.le_of_ble_eq_true rfl)⟩) hK hP hD hS hA (va_recv hK hP (ci := 10) (q0 := 0) rfl rfl) rfl hl.1 rfl (Nat.le_of_ble_eq_true rfl) dX11_writesNumber_22 ⟨(Nat.le_of_ble_eq_true rfl), (Nat.le_of_ble_eq_true rfl)⟩ (fun _ H locs hr_22 hP hD hS => ?_)
    have hP : va_P D vwCl (MW ct o (apL (apL v (dgL (ch / 10))) [(48 + ch % 10)]) R) H := hP
    have hD : va_D A (MW ct o (apL (apL v (dgL (ch / 10))) [(48 + ch % 10)]) R) := hD
    have e9 : apL v (dgL ch) = (apL (apL v (dgL (ch / 10))) [(48 + ch % 10)]) := (by rw [dgL, if_neg (show ¬ ch ≤ 9 by omega), dgL, if_pos (show ch / 10 ≤ 9 by omega)]; exact (apL_app v [48 + ch / 10 % 10] [48 + ch % 10]).symm)
    exact zVret () hx hb hr hlocks hK (by show va_P D vwCl (MW ct o (apL v (dgL ch)) R) H; rw [e9]; exact hP) (by show va_D A (MW ct o (apL v (dgL ch)) R); rw [e9]; exact hD) hS dX11_writesNumber_25 trivial
abbrev rmX11_writesThing : Room := { frames := 3, cells := 0, slots := 0, locals := 63 }
set_option maxHeartbeats 4000000 in
set_option maxRecDepth 100000 in
theorem kX11_writesThing {D : va_G} {ct : Nat → ClassId} {l : Launch} (o : Nat → Nat) (v : MS) (R : va_W) (x1 : Int32) (hx9 : x1 = -4 ∨ ∃ j7, j7 ≤ 99 ∧ x1 = nI j7) (hz : m_lz v + 2 ≤ 60) : MV D ct l yX11_writesThing wsX11_writesThing rmX11_writesThing (MW ct o v R) [.ref (o 0), .int (x1)] (fun _ : Unit => True) (fun _ : Unit => MW ct o (apL v (thL x1)) R) := by
  refine MVof (cc := cX11_writesThing) (maxL := 2) (ret := none) (by decide) rfl (Nat.le_of_ble_eq_true rfl) ?_
  intro p e s m args below meth c A H locs F hP hK hD hS hA ls hl
  obtain ⟨hx, hb, hr, hlocks, hml, hown, hts, hin⟩ := F
  have hl : lv_has ls 2 [(0, .ref (o 0)), (1, .int (x1))] := hl
  rcases hx9 with rfl | ⟨j9, hj9, rfl⟩
  · skip
    have hl : lv_has ls 2 [(0, .ref (o 0)), (1, .int ((-4)))] := hl
    refine lv_iload_n hx hb dX11_writesThing_0 rfl (lv_at hl 1 rfl) ?_
    refine lv_bipush (v := (-4)) hx hb dX11_writesThing_1 (by decide) ?_
    refine lv_icmp_ne (tgt := 13) hx hb dX11_writesThing_3 (by decide) (fun c9 => absurd rfl c9) (fun c9 => ?_)
    refine lv_aload_n hx hb dX11_writesThing_6 rfl (lv_at hl 0 rfl) ?_
    refine lv_bipush (v := nI (46)) hx hb dX11_writesThing_7 (by decide) ?_
    refine zVV [.int (nI (46))] [] (kX11_writes (o) (v) (R) (46) (show (46) < 65536 from by omega) (show m_lz v < 60 from by omega)) hx hb hml hown hts (cwV 1 hts gX11_writesThing_X11_writes rfl rfl rfl (by decide +kernel) ⟨(Nat.le_of_ble_eq_true rfl), (Nat.le_of_ble_eq_true rfl)⟩) hK hP hD hS hA (va_recv hK hP (ci := 10) (q0 := 0) rfl rfl) rfl hl.1 rfl (Nat.le_of_ble_eq_true rfl) dX11_writesThing_9 ⟨(Nat.le_of_ble_eq_true rfl), (Nat.le_of_ble_eq_true rfl)⟩ (fun _ H locs hr_9 hP hD hS => ?_)
    have hP : va_P D vwCl (MW ct o (apL v [(46)]) R) H := hP
    have hD : va_D A (MW ct o (apL v [(46)]) R) := hD
    have e9 : apL v (thL (-4)) = (apL v [(46)]) := (by rw [thL_n])
    exact zVret () hx hb hr hlocks hK (by show va_P D vwCl (MW ct o (apL v (thL (-4))) R) H; rw [e9]; exact hP) (by show va_D A (MW ct o (apL v (thL (-4))) R); rw [e9]; exact hD) hS dX11_writesThing_12 trivial
  · skip
    have hl : lv_has ls 2 [(0, .ref (o 0)), (1, .int (nI (j9)))] := hl
    refine lv_iload_n hx hb dX11_writesThing_0 rfl (lv_at hl 1 rfl) ?_
    refine lv_bipush (v := (-4)) hx hb dX11_writesThing_1 (by decide) ?_
    refine lv_icmp_ne (tgt := 13) hx hb dX11_writesThing_3 (by decide) (fun c3_2 => ?_) (fun c3_2 => ?_)
    · skip
      refine lv_aload_n hx hb dX11_writesThing_13 rfl (lv_at hl 0 rfl) ?_
      refine lv_iload_n hx hb dX11_writesThing_14 rfl (lv_at hl 1 rfl) ?_
      refine zVV [.int (nI (j9))] [] (kX11_writesNumber_2 (o) (v) (R) (j9) (show (j9) ≤ 99 from by omega) (show m_lz v + 2 ≤ 60 from by omega)) hx hb hml hown hts (cwV 1 hts gX11_writesThing_X11_writesNumber rfl rfl rfl (by decide +kernel) ⟨(Nat.le_of_ble_eq_true rfl), (Nat.le_of_ble_eq_true rfl)⟩) hK hP hD hS hA (va_recv hK hP (ci := 10) (q0 := 0) rfl rfl) rfl hl.1 rfl (Nat.le_of_ble_eq_true rfl) dX11_writesThing_15 ⟨(Nat.le_of_ble_eq_true rfl), (Nat.le_of_ble_eq_true rfl)⟩ (fun _ H locs hr_15 hP hD hS => ?_)
      have hP : va_P D vwCl (MW ct o (apL v (dgL (j9))) R) H := hP
      have hD : va_D A (MW ct o (apL v (dgL (j9))) R) := hD
      have e9 : apL v (thL (nI j9)) = (apL v (dgL (j9))) := (by rw [thL_k (by omega)])
      exact zVret () hx hb hr hlocks hK (by show va_P D vwCl (MW ct o (apL v (thL (nI j9))) R) H; rw [e9]; exact hP) (by show va_D A (MW ct o (apL v (thL (nI j9))) R); rw [e9]; exact hD) hS dX11_writesThing_18 trivial
    · skip
      exact absurd c3_2 (nI_ne4 (by omega))
abbrev rmX11_write : Room := { frames := 4, cells := 0, slots := 0, locals := 84 }
theorem in_X11_write_X11 : ∀ w ∈ u_ws RX11 TX11 19, w ∈ wsX11_write := by decide +kernel
set_option maxHeartbeats 4000000 in
set_option maxRecDepth 100000 in
theorem kX11_write {D : va_G} {ct : Nat → ClassId} {l : Launch} (o : Nat → Nat) (v : MS) (R : va_W) (x1 : Int32) (y : YS) (hB : y_n y ≤ 12 ∧ y_cn y ≤ 4 ∧ y_rn y ≤ 5) (hq : RelI y (m_g v)) : MI D ct l yX11_write wsX11_write rmX11_write (MW ct o v R) [.ref (o 0), .int (x1)] (fun r0 (_ : Unit) => r0 = (F_write y v x1).1) (fun _ : Unit => MW ct o (F_write y v x1).2 R) := by
  refine MIof (cc := cX11_write) (maxL := 3) (ret := (some .int)) (by decide) rfl (Nat.le_of_ble_eq_true rfl) ?_
  intro p e s m args below meth c A H locs F hP hK hD hS hA ls hl
  obtain ⟨hx, hb, hr, hlocks, hml, hown, hts, hin⟩ := F
  have hl : lv_has ls 3 [(0, .ref (o 0)), (1, .int (x1))] := hl
  have hn : y_n y ≤ 12 := hB.1
  have hcn : y_cn y ≤ 4 := hB.2.1
  have hrn : y_rn y ≤ 5 := hB.2.2
  have h_X11 := in_X11_write_X11
  have f179 := hts (.fieldLink RX11 179 "CartArgumentsModel" "lineSize" "I") (by decide +kernel)
  refine lv_aload_n hx hb dX11_write_0 rfl (lv_at hl 0 rfl) ?_
  refine lv_iload_n hx hb dX11_write_1 rfl (lv_at hl 1 rfl) ?_
  refine zVI [.int (x1)] [] (kX11_isCart (o) (v) (R) (x1) (y) (show y_n (y) ≤ 12 ∧ y_cn (y) ≤ 4 ∧ y_rn (y) ≤ 5 from hB) (show RelI (y) (m_g v) from hq)) hx hb hml hown hts (cwV 1 hts gX11_write_X11_isCart rfl rfl rfl (by decide +kernel) ⟨(Nat.le_of_ble_eq_true rfl), (Nat.le_of_ble_eq_true rfl)⟩) hK hP hD hS hA (va_recv hK hP (ci := 10) (q0 := 0) rfl rfl) rfl hl.1 rfl (Nat.le_of_ble_eq_true rfl) dX11_write_2 ⟨(Nat.le_of_ble_eq_true rfl), (Nat.le_of_ble_eq_true rfl)⟩ (fun r_2 _ H locs hr_2 hP hD hS => ?_)
  subst hr_2
  have hP : va_P D vwCl (MW ct o v R) H := hP
  have hD : va_D A (MW ct o v R) := hD
  refine zB_if_ne (tgt := 10) hx hb dX11_write_5 (by decide) (fun c5_1 => ?_) (fun c5_1 => ?_)
  · skip
    obtain ⟨k1, hk1, ek1⟩ := p_in_ex (n := y_cn y) (by omega) c5_1
    subst ek1
    have hclk1 : (nI k1).toNatClampNeg = k1 := nI_clamp (by omega)
    refine lv_aload_n hx hb dX11_write_10 rfl (lv_at hl 0 rfl) ?_
    refine lv_iconst (v := nI (0)) hx hb dX11_write_11 (by decide) ?_
    refine va_put (ci := 10) (v := .int (nI (0))) (ty := .int) hx hb hts h_X11 tyX11 tyX11_ok nmX11 hown hK hP hD hS 0 rfl rfl 11 (by decide) f179 (fun _ h9 => h9) rfl (by decide +kernel) rfl rfl (Nat.le_of_ble_eq_true rfl) dX11_write_12 (fun H locs hP hD hS => ?_)
    have hP : va_P D vwCl (MW ct o (m_g v, m_fl v, m_ch v, m_sv v, m_why v, m_det v, m_li v, m_ld v, m_wt v, m_wm v, m_ln v, 0, m_in v, m_ty v, m_he v, m_wa v, m_fa v, m_cm v, m_cz v) R) H := hP
    have hD : va_D A (MW ct o (m_g v, m_fl v, m_ch v, m_sv v, m_why v, m_det v, m_li v, m_ld v, m_wt v, m_wm v, m_ln v, 0, m_in v, m_ty v, m_he v, m_wa v, m_fa v, m_cm v, m_cz v) R) := hD
    have hP : va_P D vwCl (MW ct o (mLn v (m_ln v) 0) R) H := hP
    have hD : va_D A (MW ct o (mLn v (m_ln v) 0) R) := hD
    refine lv_aload_n hx hb dX11_write_15 rfl (lv_at hl 0 rfl) ?_
    refine lv_iload_n hx hb dX11_write_16 rfl (lv_at hl 1 rfl) ?_
    refine zVV [.int (nI (k1))] [] (kX11_writesNumber_2 (o) ((mLn v (m_ln v) 0)) (R) (k1) (show (k1) ≤ 99 from by omega) (show (m_lz (mLn v (m_ln v) 0)) + 2 ≤ 60 from (by simp only [apL_lz, mLn_lz, List.length_cons, List.length_nil]; omega))) hx hb hml hown hts (cwV 1 hts gX11_write_X11_writesNumber rfl rfl rfl (by decide +kernel) ⟨(Nat.le_of_ble_eq_true rfl), (Nat.le_of_ble_eq_true rfl)⟩) hK hP hD hS hA (va_recv hK hP (ci := 10) (q0 := 0) rfl rfl) rfl hl.1 rfl (Nat.le_of_ble_eq_true rfl) dX11_write_17 ⟨(Nat.le_of_ble_eq_true rfl), (Nat.le_of_ble_eq_true rfl)⟩ (fun _ H locs hr_17 hP hD hS => ?_)
    have hP : va_P D vwCl (MW ct o (apL (mLn v (m_ln v) 0) (dgL (k1))) R) H := hP
    have hD : va_D A (MW ct o (apL (mLn v (m_ln v) 0) (dgL (k1))) R) := hD
    refine lv_aload_n hx hb dX11_write_20 rfl (lv_at hl 0 rfl) ?_
    refine lv_bipush (v := nI (91)) hx hb dX11_write_21 (by decide) ?_
    refine zVV [.int (nI (91))] [] (kX11_writes (o) ((apL (mLn v (m_ln v) 0) (dgL (k1)))) (R) (91) (show (91) < 65536 from (by decide)) (show (m_lz (apL (mLn v (m_ln v) 0) (dgL (k1)))) < 60 from (by have q1 := dgL_le k1; simp only [apL_lz, mLn_lz, List.length_cons, List.length_nil]; omega))) hx hb hml hown hts (cwV 1 hts gX11_write_X11_writes rfl rfl rfl (by decide +kernel) ⟨(Nat.le_of_ble_eq_true rfl), (Nat.le_of_ble_eq_true rfl)⟩) hK hP hD hS hA (va_recv hK hP (ci := 10) (q0 := 0) rfl rfl) rfl hl.1 rfl (Nat.le_of_ble_eq_true rfl) dX11_write_23 ⟨(Nat.le_of_ble_eq_true rfl), (Nat.le_of_ble_eq_true rfl)⟩ (fun _ H locs hr_23 hP hD hS => ?_)
    have hP : va_P D vwCl (MW ct o (apL (apL (mLn v (m_ln v) 0) (dgL (k1))) [(91)]) R) H := hP
    have hD : va_D A (MW ct o (apL (apL (mLn v (m_ln v) 0) (dgL (k1))) [(91)]) R) := hD
    refine lv_iconst (v := nI (0)) hx hb dX11_write_26 (by decide) ?_
    refine lv_istore_n (lv' := [(2, .int (nI (0))), (0, .ref (o 0)), (1, .int (nI (k1)))]) hx hb dX11_write_27 rfl hl (by decide) rfl (fun ls hl => ?_)
    have lp28 : ∀ (fu : Nat) (j : Nat) (H : Heap) (locs : List Loc) (ls : Array Slot), (j ≤ 6) → 6 - j < fu → va_P D vwCl (MW ct o (apL (mLn v (m_ln v) 0) (wrT y k1 j)) R) H → va_D A (MW ct o (apL (mLn v (m_ln v) 0) (wrT y k1 j)) R) → va_S A s.heap H locs → lv_has ls 3 [(0, .ref (o 0)), (1, .int (nI (k1))), (2, .int (nI (j)))] → W p l e rmX11_write s m args below meth c H locs 0 0 (MQ below (va_Qi (fun r0 (_ : Unit) => r0 = (F_write y v (nI k1)).1) (zB D ct A (fun _ : Unit => MW ct o (F_write y v (nI k1)).2 R)) A) args s rmX11_write.cells rmX11_write.slots A) (F0 m 28 ls []) := by
      intro fu
      induction fu with
      | zero => intro j H locs ls hj hfu; exact absurd hfu (Nat.not_lt_zero _)
      | succ fu ih28 =>
        intro j H locs ls hj hfu hP hD hS hl
        refine lv_iload_n hx hb dX11_write_28 rfl (lv_at hl 2 rfl) ?_
        refine lv_bipush (v := nI (6)) hx hb dX11_write_29 (by decide) ?_
        refine zN_icmp_ge (tgt := 60) hx hb (by omega) (by omega) dX11_write_31 (by decide) (fun c31_2 => ?_) (fun c31_2 => ?_)
        · skip
          obtain rfl : j = 6 := by omega
          refine lv_aload_n hx hb dX11_write_60 rfl (lv_at hl 0 rfl) ?_
          refine lv_bipush (v := nI (93)) hx hb dX11_write_61 (by decide) ?_
          refine zVV [.int (nI (93))] [] (kX11_writes (o) ((apL (mLn v (m_ln v) 0) (wrT y k1 6))) (R) (93) (show (93) < 65536 from (by decide)) (show (m_lz (apL (mLn v (m_ln v) 0) (wrT y k1 6))) < 60 from (by have q1 := wrT_le y k1 6; have q2 := thL_le (t_at y (nI k1) (nI 6)); simp only [apL_lz, mLn_lz, List.length_cons, List.length_nil]; omega))) hx hb hml hown hts (cwV 1 hts gX11_write_X11_writes rfl rfl rfl (by decide +kernel) ⟨(Nat.le_of_ble_eq_true rfl), (Nat.le_of_ble_eq_true rfl)⟩) hK hP hD hS hA (va_recv hK hP (ci := 10) (q0 := 0) rfl rfl) rfl hl.1 rfl (Nat.le_of_ble_eq_true rfl) dX11_write_63 ⟨(Nat.le_of_ble_eq_true rfl), (Nat.le_of_ble_eq_true rfl)⟩ (fun _ H locs hr_63 hP hD hS => ?_)
          have hP : va_P D vwCl (MW ct o (apL (apL (mLn v (m_ln v) 0) (wrT y k1 6)) [(93)]) R) H := hP
          have hD : va_D A (MW ct o (apL (apL (mLn v (m_ln v) 0) (wrT y k1 6)) [(93)]) R) := hD
          refine lv_aload_n hx hb dX11_write_66 rfl (lv_at hl 0 rfl) ?_
          refine lv_iload_n hx hb dX11_write_67 rfl (lv_at hl 1 rfl) ?_
          refine lv_bipush (v := nI (6)) hx hb dX11_write_68 (by decide) ?_
          refine zVI [.int (nI (k1)), .int (nI (6))] [] (kX11_thingAt (o) ((apL (apL (mLn v (m_ln v) 0) (wrT y k1 6)) [(93)])) (R) (k1) (nI (6)) (y) (show y_n (y) ≤ 12 ∧ y_cn (y) ≤ 4 ∧ y_rn (y) ≤ 5 from hB) (show RelI (y) ((m_g (apL (apL (mLn v (m_ln v) 0) (wrT y k1 6)) [(93)]))) from hq) (show (k1) < 4 from by omega)) hx hb hml hown hts (cwV 2 hts gX11_write_X11_thingAt rfl rfl rfl (by decide +kernel) ⟨(Nat.le_of_ble_eq_true rfl), (Nat.le_of_ble_eq_true rfl)⟩) hK hP hD hS hA (va_recv hK hP (ci := 10) (q0 := 0) rfl rfl) rfl hl.1 rfl (Nat.le_of_ble_eq_true rfl) dX11_write_70 ⟨(Nat.le_of_ble_eq_true rfl), (Nat.le_of_ble_eq_true rfl)⟩ (fun r_70 _ H locs hr_70 hP hD hS => ?_)
          subst hr_70
          have hP : va_P D vwCl (MW ct o (apL (apL (mLn v (m_ln v) 0) (wrT y k1 6)) [(93)]) R) H := hP
          have hD : va_D A (MW ct o (apL (apL (mLn v (m_ln v) 0) (wrT y k1 6)) [(93)]) R) := hD
          refine lv_bipush (v := (-4)) hx hb dX11_write_73 (by decide) ?_
          refine lv_icmp_eq (tgt := 95) hx hb dX11_write_75 (by decide) (fun c75_3 => ?_) (fun c75_3 => ?_)
          · skip
            refine lv_aload_n hx hb dX11_write_95 rfl (lv_at hl 0 rfl) ?_
            refine va_get (ci := 10) (v := .int (nI (m_lz (apL (apL (mLn v (m_ln v) 0) (wrT y k1 6)) [(93)])))) hx hb hts h_X11 hown hK hP 0 rfl rfl 11 (by decide) f179 (fun _ h9 => h9) rfl dX11_write_96 ?_
            have e9 : F_write y v (nI k1) = (nI (m_lz (apL (apL (mLn v (m_ln v) 0) (wrT y k1 6)) [(93)])), (apL (apL (mLn v (m_ln v) 0) (wrT y k1 6)) [(93)])) := (by simp only [F_write, ixI, wrL, apL_app, apL_lz, mLn_lz, List.append_assoc, List.cons_append, List.nil_append, List.append_nil, Nat.zero_add, c5_1, hclk1, c31_2, eq_true c75_3, p_in, p_worn, p_wi, p_creak, p_le0, p_lt1, p_rng, pmT, pmC, p_eq0, not_true_eq_false, not_false_eq_true, if_true, if_false, and_true, true_and, and_false, false_and, or_true, true_or, or_false, false_or, and_self, or_self, iff_true, true_iff, iff_false, false_iff, decide_eq_true_eq, decide_true, decide_false, Int32.add_zero, Nat.add_zero, ne_eq, Bool.false_eq_true, eq_self])
            exact zIret () hx hb hr hlocks hK (by show va_P D vwCl (MW ct o (F_write y v (nI k1)).2 R) H; rw [e9]; exact hP) (by show va_D A (MW ct o (F_write y v (nI k1)).2 R); rw [e9]; exact hD) hS dX11_write_99 (show nI (m_lz (apL (apL (mLn v (m_ln v) 0) (wrT y k1 6)) [(93)])) = (F_write y v (nI k1)).1 from (by rw [e9]))
          · skip
            refine lv_aload_n hx hb dX11_write_78 rfl (lv_at hl 0 rfl) ?_
            refine lv_bipush (v := nI (94)) hx hb dX11_write_79 (by decide) ?_
            refine zVV [.int (nI (94))] [] (kX11_writes (o) ((apL (apL (mLn v (m_ln v) 0) (wrT y k1 6)) [(93)])) (R) (94) (show (94) < 65536 from (by decide)) (show (m_lz (apL (apL (mLn v (m_ln v) 0) (wrT y k1 6)) [(93)])) < 60 from (by have q1 := wrT_le y k1 6; have q2 := thL_le (t_at y (nI k1) (nI 6)); simp only [apL_lz, mLn_lz, List.length_cons, List.length_nil]; omega))) hx hb hml hown hts (cwV 1 hts gX11_write_X11_writes rfl rfl rfl (by decide +kernel) ⟨(Nat.le_of_ble_eq_true rfl), (Nat.le_of_ble_eq_true rfl)⟩) hK hP hD hS hA (va_recv hK hP (ci := 10) (q0 := 0) rfl rfl) rfl hl.1 rfl (Nat.le_of_ble_eq_true rfl) dX11_write_81 ⟨(Nat.le_of_ble_eq_true rfl), (Nat.le_of_ble_eq_true rfl)⟩ (fun _ H locs hr_81 hP hD hS => ?_)
            have hP : va_P D vwCl (MW ct o (apL (apL (apL (mLn v (m_ln v) 0) (wrT y k1 6)) [(93)]) [(94)]) R) H := hP
            have hD : va_D A (MW ct o (apL (apL (apL (mLn v (m_ln v) 0) (wrT y k1 6)) [(93)]) [(94)]) R) := hD
            refine lv_aload_n hx hb dX11_write_84 rfl (lv_at hl 0 rfl) ?_
            refine lv_aload_n hx hb dX11_write_85 rfl (lv_at hl 0 rfl) ?_
            refine lv_iload_n hx hb dX11_write_86 rfl (lv_at hl 1 rfl) ?_
            refine lv_bipush (v := nI (6)) hx hb dX11_write_87 (by decide) ?_
            refine zVI [.int (nI (k1)), .int (nI (6))] [.ref (o 0)] (kX11_thingAt (o) ((apL (apL (apL (mLn v (m_ln v) 0) (wrT y k1 6)) [(93)]) [(94)])) (R) (k1) (nI (6)) (y) (show y_n (y) ≤ 12 ∧ y_cn (y) ≤ 4 ∧ y_rn (y) ≤ 5 from hB) (show RelI (y) ((m_g (apL (apL (apL (mLn v (m_ln v) 0) (wrT y k1 6)) [(93)]) [(94)]))) from hq) (show (k1) < 4 from by omega)) hx hb hml hown hts (cwV 2 hts gX11_write_X11_thingAt rfl rfl rfl (by decide +kernel) ⟨(Nat.le_of_ble_eq_true rfl), (Nat.le_of_ble_eq_true rfl)⟩) hK hP hD hS hA (va_recv hK hP (ci := 10) (q0 := 0) rfl rfl) rfl hl.1 rfl (Nat.le_of_ble_eq_true rfl) dX11_write_89 ⟨(Nat.le_of_ble_eq_true rfl), (Nat.le_of_ble_eq_true rfl)⟩ (fun r_89 _ H locs hr_89 hP hD hS => ?_)
            subst hr_89
            have hP : va_P D vwCl (MW ct o (apL (apL (apL (mLn v (m_ln v) 0) (wrT y k1 6)) [(93)]) [(94)]) R) H := hP
            have hD : va_D A (MW ct o (apL (apL (apL (mLn v (m_ln v) 0) (wrT y k1 6)) [(93)]) [(94)]) R) := hD
            obtain ⟨j9, hj9, ej9⟩ := (at_cases y (nI k1) (nI 6)).resolve_left c75_3
            refine zTop (y := nI j9) ej9 ?_
            refine zVV [.int (nI (j9))] [] (kX11_writesNumber_2 (o) ((apL (apL (apL (mLn v (m_ln v) 0) (wrT y k1 6)) [(93)]) [(94)])) (R) (j9) (show (j9) ≤ 99 from by omega) (show (m_lz (apL (apL (apL (mLn v (m_ln v) 0) (wrT y k1 6)) [(93)]) [(94)])) + 2 ≤ 60 from (by have q1 := wrT_le y k1 6; have q2 := thL_le (t_at y (nI k1) (nI 6)); simp only [apL_lz, mLn_lz, List.length_cons, List.length_nil]; omega))) hx hb hml hown hts (cwV 1 hts gX11_write_X11_writesNumber rfl rfl rfl (by decide +kernel) ⟨(Nat.le_of_ble_eq_true rfl), (Nat.le_of_ble_eq_true rfl)⟩) hK hP hD hS hA (va_recv hK hP (ci := 10) (q0 := 0) rfl rfl) rfl hl.1 rfl (Nat.le_of_ble_eq_true rfl) dX11_write_92 ⟨(Nat.le_of_ble_eq_true rfl), (Nat.le_of_ble_eq_true rfl)⟩ (fun _ H locs hr_92 hP hD hS => ?_)
            have hP : va_P D vwCl (MW ct o (apL (apL (apL (apL (mLn v (m_ln v) 0) (wrT y k1 6)) [(93)]) [(94)]) (dgL (j9))) R) H := hP
            have hD : va_D A (MW ct o (apL (apL (apL (apL (mLn v (m_ln v) 0) (wrT y k1 6)) [(93)]) [(94)]) (dgL (j9))) R) := hD
            refine lv_aload_n hx hb dX11_write_95 rfl (lv_at hl 0 rfl) ?_
            refine va_get (ci := 10) (v := .int (nI (m_lz (apL (apL (apL (apL (mLn v (m_ln v) 0) (wrT y k1 6)) [(93)]) [(94)]) (dgL (j9)))))) hx hb hts h_X11 hown hK hP 0 rfl rfl 11 (by decide) f179 (fun _ h9 => h9) rfl dX11_write_96 ?_
            have e9 : F_write y v (nI k1) = (nI (m_lz (apL (apL (apL (apL (mLn v (m_ln v) 0) (wrT y k1 6)) [(93)]) [(94)]) (dgL (j9)))), (apL (apL (apL (apL (mLn v (m_ln v) 0) (wrT y k1 6)) [(93)]) [(94)]) (dgL (j9)))) := (by simp only [F_write, ixI, wrL, apL_app, apL_lz, mLn_lz, List.append_assoc, List.cons_append, List.nil_append, List.append_nil, Nat.zero_add, c5_1, hclk1, c31_2, c75_3, show thL (t_at y (nI k1) (nI 6)) = dgL j9 from by rw [ej9, thL_k (by omega)], p_in, p_worn, p_wi, p_creak, p_le0, p_lt1, p_rng, pmT, pmC, p_eq0, not_true_eq_false, not_false_eq_true, if_true, if_false, and_true, true_and, and_false, false_and, or_true, true_or, or_false, false_or, and_self, or_self, iff_true, true_iff, iff_false, false_iff, decide_eq_true_eq, decide_true, decide_false, Int32.add_zero, Nat.add_zero, ne_eq, Bool.false_eq_true, eq_self])
            exact zIret () hx hb hr hlocks hK (by show va_P D vwCl (MW ct o (F_write y v (nI k1)).2 R) H; rw [e9]; exact hP) (by show va_D A (MW ct o (F_write y v (nI k1)).2 R); rw [e9]; exact hD) hS dX11_write_99 (show nI (m_lz (apL (apL (apL (apL (mLn v (m_ln v) 0) (wrT y k1 6)) [(93)]) [(94)]) (dgL (j9)))) = (F_write y v (nI k1)).1 from (by rw [e9]))
        · skip
          refine lv_iload_n hx hb dX11_write_34 rfl (lv_at hl 2 rfl) ?_
          refine zN_if_le (tgt := 44) hx hb (by omega) dX11_write_35 (by decide) (fun c35_4 => ?_) (fun c35_4 => ?_)
          · skip
            refine lv_aload_n hx hb dX11_write_44 rfl (lv_at hl 0 rfl) ?_
            refine lv_aload_n hx hb dX11_write_45 rfl (lv_at hl 0 rfl) ?_
            refine lv_iload_n hx hb dX11_write_46 rfl (lv_at hl 1 rfl) ?_
            refine lv_iload_n hx hb dX11_write_47 rfl (lv_at hl 2 rfl) ?_
            refine zVI [.int (nI (k1)), .int (nI (j))] [.ref (o 0)] (kX11_thingAt (o) ((apL (mLn v (m_ln v) 0) (wrT y k1 j))) (R) (k1) (nI (j)) (y) (show y_n (y) ≤ 12 ∧ y_cn (y) ≤ 4 ∧ y_rn (y) ≤ 5 from hB) (show RelI (y) ((m_g (apL (mLn v (m_ln v) 0) (wrT y k1 j)))) from hq) (show (k1) < 4 from by omega)) hx hb hml hown hts (cwV 2 hts gX11_write_X11_thingAt rfl rfl rfl (by decide +kernel) ⟨(Nat.le_of_ble_eq_true rfl), (Nat.le_of_ble_eq_true rfl)⟩) hK hP hD hS hA (va_recv hK hP (ci := 10) (q0 := 0) rfl rfl) rfl hl.1 rfl (Nat.le_of_ble_eq_true rfl) dX11_write_48 ⟨(Nat.le_of_ble_eq_true rfl), (Nat.le_of_ble_eq_true rfl)⟩ (fun r_48 _ H locs hr_48 hP hD hS => ?_)
            subst hr_48
            have hP : va_P D vwCl (MW ct o (apL (mLn v (m_ln v) 0) (wrT y k1 j)) R) H := hP
            have hD : va_D A (MW ct o (apL (mLn v (m_ln v) 0) (wrT y k1 j)) R) := hD
            refine zVV [.int ((t_at (y) (nI (k1)) (nI (j))))] [] (kX11_writesThing (o) ((apL (mLn v (m_ln v) 0) (wrT y k1 j))) (R) ((t_at (y) (nI (k1)) (nI (j)))) (show ((t_at (y) (nI (k1)) (nI (j)))) = -4 ∨ ∃ j7, j7 ≤ 99 ∧ ((t_at (y) (nI (k1)) (nI (j)))) = nI j7 from at_99 hn _ _) (show (m_lz (apL (mLn v (m_ln v) 0) (wrT y k1 j))) + 2 ≤ 60 from (by have q1 := wrT_le y k1 j; have q2 := thL_le (t_at y (nI k1) (nI j)); simp only [apL_lz, mLn_lz, List.length_cons, List.length_nil]; omega))) hx hb hml hown hts (cwV 1 hts gX11_write_X11_writesThing rfl rfl rfl (by decide +kernel) ⟨(Nat.le_of_ble_eq_true rfl), (Nat.le_of_ble_eq_true rfl)⟩) hK hP hD hS hA (va_recv hK hP (ci := 10) (q0 := 0) rfl rfl) rfl hl.1 rfl (Nat.le_of_ble_eq_true rfl) dX11_write_51 ⟨(Nat.le_of_ble_eq_true rfl), (Nat.le_of_ble_eq_true rfl)⟩ (fun _ H locs hr_51 hP hD hS => ?_)
            have hP : va_P D vwCl (MW ct o (apL (apL (mLn v (m_ln v) 0) (wrT y k1 j)) (thL ((t_at (y) (nI (k1)) (nI (j)))))) R) H := hP
            have hD : va_D A (MW ct o (apL (apL (mLn v (m_ln v) 0) (wrT y k1 j)) (thL ((t_at (y) (nI (k1)) (nI (j)))))) R) := hD
            refine lv_iinc (v := nI ((j + 1))) (lv' := [(2, .int (nI ((j + 1)))), (0, .ref (o 0)), (1, .int (nI (k1)))]) hx hb dX11_write_54 hl (k := 2) rfl (zInc _) (by decide) rfl (fun ls hl => ?_)
            refine lv_goto (tgt := 28) hx hb dX11_write_57 (by decide) ?_
            have hs9 : apL (mLn v (m_ln v) 0) (wrT y k1 (j + 1)) = (apL (apL (mLn v (m_ln v) 0) (wrT y k1 j)) (thL ((t_at (y) (nI (k1)) (nI (j)))))) := by simp only [wrT, Nat.lt_irrefl, apL_app, List.append_assoc, List.cons_append, List.nil_append, List.append_nil, c5_1, hclk1, c31_2, c35_4, not_true_eq_false, not_false_eq_true, if_true, if_false, and_true, true_and, and_false, false_and, or_true, true_or, or_false, false_or, and_self, or_self, iff_true, true_iff, iff_false, false_iff, decide_eq_true_eq, decide_true, decide_false, Int32.add_zero, Nat.add_zero, ne_eq, Bool.false_eq_true, eq_self]
            have hP : va_P D vwCl (MW ct o (apL (mLn v (m_ln v) 0) (wrT y k1 (j + 1))) R) H := by rw [hs9]; exact hP
            have hD : va_D A (MW ct o (apL (mLn v (m_ln v) 0) (wrT y k1 (j + 1))) R) := by rw [hs9]; exact hD
            exact ih28 ((j + 1)) H locs ls (by omega) (by omega) hP hD hS (lv_sub hl [1, 2, 0] rfl)
          · skip
            refine lv_aload_n hx hb dX11_write_38 rfl (lv_at hl 0 rfl) ?_
            refine lv_bipush (v := nI (44)) hx hb dX11_write_39 (by decide) ?_
            refine zVV [.int (nI (44))] [] (kX11_writes (o) ((apL (mLn v (m_ln v) 0) (wrT y k1 j))) (R) (44) (show (44) < 65536 from (by decide)) (show (m_lz (apL (mLn v (m_ln v) 0) (wrT y k1 j))) < 60 from (by have q1 := wrT_le y k1 j; have q2 := thL_le (t_at y (nI k1) (nI j)); simp only [apL_lz, mLn_lz, List.length_cons, List.length_nil]; omega))) hx hb hml hown hts (cwV 1 hts gX11_write_X11_writes rfl rfl rfl (by decide +kernel) ⟨(Nat.le_of_ble_eq_true rfl), (Nat.le_of_ble_eq_true rfl)⟩) hK hP hD hS hA (va_recv hK hP (ci := 10) (q0 := 0) rfl rfl) rfl hl.1 rfl (Nat.le_of_ble_eq_true rfl) dX11_write_41 ⟨(Nat.le_of_ble_eq_true rfl), (Nat.le_of_ble_eq_true rfl)⟩ (fun _ H locs hr_41 hP hD hS => ?_)
            have hP : va_P D vwCl (MW ct o (apL (apL (mLn v (m_ln v) 0) (wrT y k1 j)) [(44)]) R) H := hP
            have hD : va_D A (MW ct o (apL (apL (mLn v (m_ln v) 0) (wrT y k1 j)) [(44)]) R) := hD
            refine lv_aload_n hx hb dX11_write_44 rfl (lv_at hl 0 rfl) ?_
            refine lv_aload_n hx hb dX11_write_45 rfl (lv_at hl 0 rfl) ?_
            refine lv_iload_n hx hb dX11_write_46 rfl (lv_at hl 1 rfl) ?_
            refine lv_iload_n hx hb dX11_write_47 rfl (lv_at hl 2 rfl) ?_
            refine zVI [.int (nI (k1)), .int (nI (j))] [.ref (o 0)] (kX11_thingAt (o) ((apL (apL (mLn v (m_ln v) 0) (wrT y k1 j)) [(44)])) (R) (k1) (nI (j)) (y) (show y_n (y) ≤ 12 ∧ y_cn (y) ≤ 4 ∧ y_rn (y) ≤ 5 from hB) (show RelI (y) ((m_g (apL (apL (mLn v (m_ln v) 0) (wrT y k1 j)) [(44)]))) from hq) (show (k1) < 4 from by omega)) hx hb hml hown hts (cwV 2 hts gX11_write_X11_thingAt rfl rfl rfl (by decide +kernel) ⟨(Nat.le_of_ble_eq_true rfl), (Nat.le_of_ble_eq_true rfl)⟩) hK hP hD hS hA (va_recv hK hP (ci := 10) (q0 := 0) rfl rfl) rfl hl.1 rfl (Nat.le_of_ble_eq_true rfl) dX11_write_48 ⟨(Nat.le_of_ble_eq_true rfl), (Nat.le_of_ble_eq_true rfl)⟩ (fun r_48 _ H locs hr_48 hP hD hS => ?_)
            subst hr_48
            have hP : va_P D vwCl (MW ct o (apL (apL (mLn v (m_ln v) 0) (wrT y k1 j)) [(44)]) R) H := hP
            have hD : va_D A (MW ct o (apL (apL (mLn v (m_ln v) 0) (wrT y k1 j)) [(44)]) R) := hD
            refine zVV [.int ((t_at (y) (nI (k1)) (nI (j))))] [] (kX11_writesThing (o) ((apL (apL (mLn v (m_ln v) 0) (wrT y k1 j)) [(44)])) (R) ((t_at (y) (nI (k1)) (nI (j)))) (show ((t_at (y) (nI (k1)) (nI (j)))) = -4 ∨ ∃ j7, j7 ≤ 99 ∧ ((t_at (y) (nI (k1)) (nI (j)))) = nI j7 from at_99 hn _ _) (show (m_lz (apL (apL (mLn v (m_ln v) 0) (wrT y k1 j)) [(44)])) + 2 ≤ 60 from (by have q1 := wrT_le y k1 j; have q2 := thL_le (t_at y (nI k1) (nI j)); simp only [apL_lz, mLn_lz, List.length_cons, List.length_nil]; omega))) hx hb hml hown hts (cwV 1 hts gX11_write_X11_writesThing rfl rfl rfl (by decide +kernel) ⟨(Nat.le_of_ble_eq_true rfl), (Nat.le_of_ble_eq_true rfl)⟩) hK hP hD hS hA (va_recv hK hP (ci := 10) (q0 := 0) rfl rfl) rfl hl.1 rfl (Nat.le_of_ble_eq_true rfl) dX11_write_51 ⟨(Nat.le_of_ble_eq_true rfl), (Nat.le_of_ble_eq_true rfl)⟩ (fun _ H locs hr_51 hP hD hS => ?_)
            have hP : va_P D vwCl (MW ct o (apL (apL (apL (mLn v (m_ln v) 0) (wrT y k1 j)) [(44)]) (thL ((t_at (y) (nI (k1)) (nI (j)))))) R) H := hP
            have hD : va_D A (MW ct o (apL (apL (apL (mLn v (m_ln v) 0) (wrT y k1 j)) [(44)]) (thL ((t_at (y) (nI (k1)) (nI (j)))))) R) := hD
            refine lv_iinc (v := nI ((j + 1))) (lv' := [(2, .int (nI ((j + 1)))), (0, .ref (o 0)), (1, .int (nI (k1)))]) hx hb dX11_write_54 hl (k := 2) rfl (zInc _) (by decide) rfl (fun ls hl => ?_)
            refine lv_goto (tgt := 28) hx hb dX11_write_57 (by decide) ?_
            have hs9 : apL (mLn v (m_ln v) 0) (wrT y k1 (j + 1)) = (apL (apL (apL (mLn v (m_ln v) 0) (wrT y k1 j)) [(44)]) (thL ((t_at (y) (nI (k1)) (nI (j)))))) := by simp only [wrT, show 0 < j from by omega, apL_app, List.append_assoc, List.cons_append, List.nil_append, List.append_nil, c5_1, hclk1, c31_2, c35_4, not_true_eq_false, not_false_eq_true, if_true, if_false, and_true, true_and, and_false, false_and, or_true, true_or, or_false, false_or, and_self, or_self, iff_true, true_iff, iff_false, false_iff, decide_eq_true_eq, decide_true, decide_false, Int32.add_zero, Nat.add_zero, ne_eq, Bool.false_eq_true, eq_self]
            have hP : va_P D vwCl (MW ct o (apL (mLn v (m_ln v) 0) (wrT y k1 (j + 1))) R) H := by rw [hs9]; exact hP
            have hD : va_D A (MW ct o (apL (mLn v (m_ln v) 0) (wrT y k1 (j + 1))) R) := by rw [hs9]; exact hD
            exact ih28 ((j + 1)) H locs ls (by omega) (by omega) hP hD hS (lv_sub hl [1, 2, 0] rfl)
    have hP : va_P D vwCl (MW ct o (apL (mLn v (m_ln v) 0) (wrT y k1 (0))) R) H := by rw [show apL (mLn v (m_ln v) 0) (wrT y k1 0) = apL (apL (mLn v (m_ln v) 0) (dgL k1)) [91] from (apL_app _ _ _).symm]; exact hP
    have hD : va_D A (MW ct o (apL (mLn v (m_ln v) 0) (wrT y k1 (0))) R) := by rw [show apL (mLn v (m_ln v) 0) (wrT y k1 0) = apL (apL (mLn v (m_ln v) 0) (dgL k1)) [91] from (apL_app _ _ _).symm]; exact hD
    exact lp28 ((6 - (0)) + 1) (0) H locs ls (by omega) (Nat.lt_succ_self _) hP hD hS (lv_sub hl [1, 2, 0] rfl)
  · skip
    refine lv_iconst (v := (-1)) hx hb dX11_write_8 (by decide) ?_
    have e9 : F_write y v x1 = ((-1), v) := (by simp only [F_write, ixI, c5_1, p_in, p_worn, p_wi, p_creak, p_le0, p_lt1, p_rng, pmT, pmC, p_eq0, not_true_eq_false, not_false_eq_true, if_true, if_false, and_true, true_and, and_false, false_and, or_true, true_or, or_false, false_or, and_self, or_self, iff_true, true_iff, iff_false, false_iff, decide_eq_true_eq, decide_true, decide_false, Int32.add_zero, Nat.add_zero, ne_eq, Bool.false_eq_true, eq_self])
    exact zIret () hx hb hr hlocks hK (by show va_P D vwCl (MW ct o (F_write y v x1).2 R) H; rw [e9]; exact hP) (by show va_D A (MW ct o (F_write y v x1).2 R); rw [e9]; exact hD) hS dX11_write_9 (show (-1) = (F_write y v x1).1 from (by rw [e9]))
abbrev rmX11_writeRoads : Room := { frames := 3, cells := 0, slots := 0, locals := 63 }
theorem in_X11_writeRoads_X11 : ∀ w ∈ u_ws RX11 TX11 19, w ∈ wsX11_writeRoads := by decide +kernel
set_option maxHeartbeats 4000000 in
set_option maxRecDepth 100000 in
theorem kX11_writeRoads {D : va_G} {ct : Nat → ClassId} {l : Launch} (o : Nat → Nat) (v : MS) (R : va_W) (y : YS) (hy : yI y) (hq : RelI y (m_g v)) : MI D ct l yX11_writeRoads wsX11_writeRoads rmX11_writeRoads (MW ct o v R) [.ref (o 0)] (fun r0 (_ : Unit) => r0 = (F_wrds y v).1) (fun _ : Unit => MW ct o (F_wrds y v).2 R) := by
  refine MIof (cc := cX11_writeRoads) (maxL := 2) (ret := (some .int)) (by decide) rfl (Nat.le_of_ble_eq_true rfl) ?_
  intro p e s m args below meth c A H locs F hP hK hD hS hA ls hl
  obtain ⟨hx, hb, hr, hlocks, hml, hown, hts, hin⟩ := F
  have hl : lv_has ls 2 [(0, .ref (o 0))] := hl
  have hB : y_n y ≤ 12 ∧ y_cn y ≤ 4 ∧ y_rn y ≤ 5 := ⟨hy.1, hy.2.1, hy.2.2.1⟩
  have hn : y_n y ≤ 12 := hy.1
  have hcn : y_cn y ≤ 4 := hy.2.1
  have hrn : y_rn y ≤ 5 := hy.2.2.1
  have h_X11 := in_X11_writeRoads_X11
  have f9 := hts (.fieldLink RX11 9 "CartArgumentsModel" "all" "[I") (by decide +kernel)
  have f179 := hts (.fieldLink RX11 179 "CartArgumentsModel" "lineSize" "I") (by decide +kernel)
  refine lv_aload_n hx hb dX11_writeRoads_0 rfl (lv_at hl 0 rfl) ?_
  refine lv_iconst (v := nI (0)) hx hb dX11_writeRoads_1 (by decide) ?_
  refine va_put (ci := 10) (v := .int (nI (0))) (ty := .int) hx hb hts h_X11 tyX11 tyX11_ok nmX11 hown hK hP hD hS 0 rfl rfl 11 (by decide) f179 (fun _ h9 => h9) rfl (by decide +kernel) rfl rfl (Nat.le_of_ble_eq_true rfl) dX11_writeRoads_2 (fun H locs hP hD hS => ?_)
  have hP : va_P D vwCl (MW ct o (m_g v, m_fl v, m_ch v, m_sv v, m_why v, m_det v, m_li v, m_ld v, m_wt v, m_wm v, m_ln v, 0, m_in v, m_ty v, m_he v, m_wa v, m_fa v, m_cm v, m_cz v) R) H := hP
  have hD : va_D A (MW ct o (m_g v, m_fl v, m_ch v, m_sv v, m_why v, m_det v, m_li v, m_ld v, m_wt v, m_wm v, m_ln v, 0, m_in v, m_ty v, m_he v, m_wa v, m_fa v, m_cm v, m_cz v) R) := hD
  have hP : va_P D vwCl (MW ct o (mLn v (m_ln v) 0) R) H := hP
  have hD : va_D A (MW ct o (mLn v (m_ln v) 0) R) := hD
  refine lv_iconst (v := nI (0)) hx hb dX11_writeRoads_5 (by decide) ?_
  refine lv_istore_n (lv' := [(1, .int (nI (0))), (0, .ref (o 0))]) hx hb dX11_writeRoads_6 rfl hl (by decide) rfl (fun ls hl => ?_)
  have lp7 : ∀ (fu : Nat) (j : Nat) (H : Heap) (locs : List Loc) (ls : Array Slot), (j ≤ y_rn y) → y_rn y - j < fu → va_P D vwCl (MW ct o (apL (mLn v (m_ln v) 0) (rdT y j)) R) H → va_D A (MW ct o (apL (mLn v (m_ln v) 0) (rdT y j)) R) → va_S A s.heap H locs → lv_has ls 2 [(0, .ref (o 0)), (1, .int (nI (j)))] → W p l e rmX11_writeRoads s m args below meth c H locs 0 0 (MQ below (va_Qi (fun r0 (_ : Unit) => r0 = (F_wrds y v).1) (zB D ct A (fun _ : Unit => MW ct o (F_wrds y v).2 R)) A) args s rmX11_writeRoads.cells rmX11_writeRoads.slots A) (F0 m 7 ls []) := by
    intro fu
    induction fu with
    | zero => intro j H locs ls hj hfu; exact absurd hfu (Nat.not_lt_zero _)
    | succ fu ih7 =>
      intro j H locs ls hj hfu hP hD hS hl
      refine lv_iload_n hx hb dX11_writeRoads_7 rfl (lv_at hl 1 rfl) ?_
      refine lv_aload_n hx hb dX11_writeRoads_8 rfl (lv_at hl 0 rfl) ?_
      refine va_get (ci := 10) (v := .ref (o 1)) hx hb hts h_X11 hown hK hP 0 rfl rfl 0 (by decide) f9 (fun _ h9 => h9) rfl dX11_writeRoads_9 ?_
      refine lv_iconst (v := nI (2)) hx hb dX11_writeRoads_12 (by decide) ?_
      refine zIald (n := 972) (f := m_g (apL (mLn v (m_ln v) 0) (rdT y j))) (i := 2) hx hb hK hP 1 rfl (by omega) (by decide) dX11_writeRoads_13 ?_
      refine zTop (y := nI (y_rn y)) hq.2.2.1 ?_
      refine zN_icmp_ge (tgt := 75) hx hb (by omega) (by omega) dX11_writeRoads_14 (by decide) (fun c14_1 => ?_) (fun c14_1 => ?_)
      · skip
        obtain rfl : j = (y_rn y) := by omega
        refine lv_aload_n hx hb dX11_writeRoads_75 rfl (lv_at hl 0 rfl) ?_
        refine va_get (ci := 10) (v := .int (nI (m_lz (apL (mLn v (m_ln v) 0) (rdT y (y_rn y)))))) hx hb hts h_X11 hown hK hP 0 rfl rfl 11 (by decide) f179 (fun _ h9 => h9) rfl dX11_writeRoads_76 ?_
        have e9 : F_wrds y v = (nI (m_lz (apL (mLn v (m_ln v) 0) (rdT y (y_rn y)))), (apL (mLn v (m_ln v) 0) (rdT y (y_rn y)))) := (by simp only [F_wrds, apL_lz, mLn_lz, Nat.zero_add])
        exact zIret () hx hb hr hlocks hK (by show va_P D vwCl (MW ct o (F_wrds y v).2 R) H; rw [e9]; exact hP) (by show va_D A (MW ct o (F_wrds y v).2 R); rw [e9]; exact hD) hS dX11_writeRoads_79 (show nI (m_lz (apL (mLn v (m_ln v) 0) (rdT y (y_rn y)))) = (F_wrds y v).1 from (by rw [e9]))
      · skip
        refine lv_iload_n hx hb dX11_writeRoads_17 rfl (lv_at hl 1 rfl) ?_
        refine zN_if_le (tgt := 27) hx hb (by omega) dX11_writeRoads_18 (by decide) (fun c18_2 => ?_) (fun c18_2 => ?_)
        · skip
          refine lv_aload_n hx hb dX11_writeRoads_27 rfl (lv_at hl 0 rfl) ?_
          refine lv_aload_n hx hb dX11_writeRoads_28 rfl (lv_at hl 0 rfl) ?_
          refine lv_iload_n hx hb dX11_writeRoads_29 rfl (lv_at hl 1 rfl) ?_
          refine lv_iconst (v := nI (0)) hx hb dX11_writeRoads_30 (by decide) ?_
          refine zVI [.int (nI (j)), .int (nI (0))] [.ref (o 0)] (kX11_r (o) ((apL (mLn v (m_ln v) 0) (rdT y j))) (R) (j) (0) (show (j) < 5 from by omega) (show (0) < 4 from by omega)) hx hb hml hown hts (cwV 2 hts gX11_writeRoads_X11_r rfl rfl rfl (by decide +kernel) ⟨(Nat.le_of_ble_eq_true rfl), (Nat.le_of_ble_eq_true rfl)⟩) hK hP hD hS hA (va_recv hK hP (ci := 10) (q0 := 0) rfl rfl) rfl hl.1 rfl (Nat.le_of_ble_eq_true rfl) dX11_writeRoads_31 ⟨(Nat.le_of_ble_eq_true rfl), (Nat.le_of_ble_eq_true rfl)⟩ (fun r_31 _ H locs hr_31 hP hD hS => ?_)
          subst hr_31
          have hP : va_P D vwCl (MW ct o (apL (mLn v (m_ln v) 0) (rdT y j)) R) H := hP
          have hD : va_D A (MW ct o (apL (mLn v (m_ln v) 0) (rdT y j)) R) := hD
          refine zTop (y := (y_li y (j))) (hq.2.2.2.2.2 j (by omega)).1 ?_
          refine zTop (y := nI (ixI (y_li y j))) (rd_n hy (k := j) (by omega)).1.1 ?_
          refine zVV [.int (nI (ixI (y_li y j)))] [] (kX11_writesNumber_2 (o) ((apL (mLn v (m_ln v) 0) (rdT y j))) (R) (ixI (y_li y j)) (show (ixI (y_li y j)) ≤ 99 from (by have q := (rd_n hy (k := j) (by omega)).1.2; omega)) (show (m_lz (apL (mLn v (m_ln v) 0) (rdT y j))) + 2 ≤ 60 from (by have q1 := rdT_le y j; have q2 := dgL_le (ixI (y_li y j)); have q3 := dgL_le (ixI (y_mi y j)); simp only [apL_lz, mLn_lz, List.length_cons, List.length_nil]; omega))) hx hb hml hown hts (cwV 1 hts gX11_writeRoads_X11_writesNumber rfl rfl rfl (by decide +kernel) ⟨(Nat.le_of_ble_eq_true rfl), (Nat.le_of_ble_eq_true rfl)⟩) hK hP hD hS hA (va_recv hK hP (ci := 10) (q0 := 0) rfl rfl) rfl hl.1 rfl (Nat.le_of_ble_eq_true rfl) dX11_writeRoads_34 ⟨(Nat.le_of_ble_eq_true rfl), (Nat.le_of_ble_eq_true rfl)⟩ (fun _ H locs hr_34 hP hD hS => ?_)
          have hP : va_P D vwCl (MW ct o (apL (apL (mLn v (m_ln v) 0) (rdT y j)) (dgL (ixI (y_li y j)))) R) H := hP
          have hD : va_D A (MW ct o (apL (apL (mLn v (m_ln v) 0) (rdT y j)) (dgL (ixI (y_li y j)))) R) := hD
          refine lv_aload_n hx hb dX11_writeRoads_37 rfl (lv_at hl 0 rfl) ?_
          refine lv_bipush (v := nI (42)) hx hb dX11_writeRoads_38 (by decide) ?_
          refine zVV [.int (nI (42))] [] (kX11_writes (o) ((apL (apL (mLn v (m_ln v) 0) (rdT y j)) (dgL (ixI (y_li y j))))) (R) (42) (show (42) < 65536 from (by decide)) (show (m_lz (apL (apL (mLn v (m_ln v) 0) (rdT y j)) (dgL (ixI (y_li y j))))) < 60 from (by have q1 := rdT_le y j; have q2 := dgL_le (ixI (y_li y j)); have q3 := dgL_le (ixI (y_mi y j)); simp only [apL_lz, mLn_lz, List.length_cons, List.length_nil]; omega))) hx hb hml hown hts (cwV 1 hts gX11_writeRoads_X11_writes rfl rfl rfl (by decide +kernel) ⟨(Nat.le_of_ble_eq_true rfl), (Nat.le_of_ble_eq_true rfl)⟩) hK hP hD hS hA (va_recv hK hP (ci := 10) (q0 := 0) rfl rfl) rfl hl.1 rfl (Nat.le_of_ble_eq_true rfl) dX11_writeRoads_40 ⟨(Nat.le_of_ble_eq_true rfl), (Nat.le_of_ble_eq_true rfl)⟩ (fun _ H locs hr_40 hP hD hS => ?_)
          have hP : va_P D vwCl (MW ct o (apL (apL (apL (mLn v (m_ln v) 0) (rdT y j)) (dgL (ixI (y_li y j)))) [(42)]) R) H := hP
          have hD : va_D A (MW ct o (apL (apL (apL (mLn v (m_ln v) 0) (rdT y j)) (dgL (ixI (y_li y j)))) [(42)]) R) := hD
          refine lv_aload_n hx hb dX11_writeRoads_43 rfl (lv_at hl 0 rfl) ?_
          refine lv_aload_n hx hb dX11_writeRoads_44 rfl (lv_at hl 0 rfl) ?_
          refine lv_iload_n hx hb dX11_writeRoads_45 rfl (lv_at hl 1 rfl) ?_
          refine lv_iconst (v := nI (1)) hx hb dX11_writeRoads_46 (by decide) ?_
          refine zVI [.int (nI (j)), .int (nI (1))] [.ref (o 0)] (kX11_r (o) ((apL (apL (apL (mLn v (m_ln v) 0) (rdT y j)) (dgL (ixI (y_li y j)))) [(42)])) (R) (j) (1) (show (j) < 5 from by omega) (show (1) < 4 from by omega)) hx hb hml hown hts (cwV 2 hts gX11_writeRoads_X11_r rfl rfl rfl (by decide +kernel) ⟨(Nat.le_of_ble_eq_true rfl), (Nat.le_of_ble_eq_true rfl)⟩) hK hP hD hS hA (va_recv hK hP (ci := 10) (q0 := 0) rfl rfl) rfl hl.1 rfl (Nat.le_of_ble_eq_true rfl) dX11_writeRoads_47 ⟨(Nat.le_of_ble_eq_true rfl), (Nat.le_of_ble_eq_true rfl)⟩ (fun r_47 _ H locs hr_47 hP hD hS => ?_)
          subst hr_47
          have hP : va_P D vwCl (MW ct o (apL (apL (apL (mLn v (m_ln v) 0) (rdT y j)) (dgL (ixI (y_li y j)))) [(42)]) R) H := hP
          have hD : va_D A (MW ct o (apL (apL (apL (mLn v (m_ln v) 0) (rdT y j)) (dgL (ixI (y_li y j)))) [(42)]) R) := hD
          refine zTop (y := (y_mi y (j))) (hq.2.2.2.2.2 j (by omega)).2.1 ?_
          refine zTop (y := nI (ixI (y_mi y j))) (rd_n hy (k := j) (by omega)).2.1.1 ?_
          refine zVV [.int (nI (ixI (y_mi y j)))] [] (kX11_writesNumber_2 (o) ((apL (apL (apL (mLn v (m_ln v) 0) (rdT y j)) (dgL (ixI (y_li y j)))) [(42)])) (R) (ixI (y_mi y j)) (show (ixI (y_mi y j)) ≤ 99 from (by have q := (rd_n hy (k := j) (by omega)).2.1.2; omega)) (show (m_lz (apL (apL (apL (mLn v (m_ln v) 0) (rdT y j)) (dgL (ixI (y_li y j)))) [(42)])) + 2 ≤ 60 from (by have q1 := rdT_le y j; have q2 := dgL_le (ixI (y_li y j)); have q3 := dgL_le (ixI (y_mi y j)); simp only [apL_lz, mLn_lz, List.length_cons, List.length_nil]; omega))) hx hb hml hown hts (cwV 1 hts gX11_writeRoads_X11_writesNumber rfl rfl rfl (by decide +kernel) ⟨(Nat.le_of_ble_eq_true rfl), (Nat.le_of_ble_eq_true rfl)⟩) hK hP hD hS hA (va_recv hK hP (ci := 10) (q0 := 0) rfl rfl) rfl hl.1 rfl (Nat.le_of_ble_eq_true rfl) dX11_writeRoads_50 ⟨(Nat.le_of_ble_eq_true rfl), (Nat.le_of_ble_eq_true rfl)⟩ (fun _ H locs hr_50 hP hD hS => ?_)
          have hP : va_P D vwCl (MW ct o (apL (apL (apL (apL (mLn v (m_ln v) 0) (rdT y j)) (dgL (ixI (y_li y j)))) [(42)]) (dgL (ixI (y_mi y j)))) R) H := hP
          have hD : va_D A (MW ct o (apL (apL (apL (apL (mLn v (m_ln v) 0) (rdT y j)) (dgL (ixI (y_li y j)))) [(42)]) (dgL (ixI (y_mi y j)))) R) := hD
          refine lv_aload_n hx hb dX11_writeRoads_53 rfl (lv_at hl 0 rfl) ?_
          refine lv_bipush (v := nI (58)) hx hb dX11_writeRoads_54 (by decide) ?_
          refine zVV [.int (nI (58))] [] (kX11_writes (o) ((apL (apL (apL (apL (mLn v (m_ln v) 0) (rdT y j)) (dgL (ixI (y_li y j)))) [(42)]) (dgL (ixI (y_mi y j))))) (R) (58) (show (58) < 65536 from (by decide)) (show (m_lz (apL (apL (apL (apL (mLn v (m_ln v) 0) (rdT y j)) (dgL (ixI (y_li y j)))) [(42)]) (dgL (ixI (y_mi y j))))) < 60 from (by have q1 := rdT_le y j; have q2 := dgL_le (ixI (y_li y j)); have q3 := dgL_le (ixI (y_mi y j)); simp only [apL_lz, mLn_lz, List.length_cons, List.length_nil]; omega))) hx hb hml hown hts (cwV 1 hts gX11_writeRoads_X11_writes rfl rfl rfl (by decide +kernel) ⟨(Nat.le_of_ble_eq_true rfl), (Nat.le_of_ble_eq_true rfl)⟩) hK hP hD hS hA (va_recv hK hP (ci := 10) (q0 := 0) rfl rfl) rfl hl.1 rfl (Nat.le_of_ble_eq_true rfl) dX11_writeRoads_56 ⟨(Nat.le_of_ble_eq_true rfl), (Nat.le_of_ble_eq_true rfl)⟩ (fun _ H locs hr_56 hP hD hS => ?_)
          have hP : va_P D vwCl (MW ct o (apL (apL (apL (apL (apL (mLn v (m_ln v) 0) (rdT y j)) (dgL (ixI (y_li y j)))) [(42)]) (dgL (ixI (y_mi y j)))) [(58)]) R) H := hP
          have hD : va_D A (MW ct o (apL (apL (apL (apL (apL (mLn v (m_ln v) 0) (rdT y j)) (dgL (ixI (y_li y j)))) [(42)]) (dgL (ixI (y_mi y j)))) [(58)]) R) := hD
          refine lv_aload_n hx hb dX11_writeRoads_59 rfl (lv_at hl 0 rfl) ?_
          refine lv_aload_n hx hb dX11_writeRoads_60 rfl (lv_at hl 0 rfl) ?_
          refine lv_iload_n hx hb dX11_writeRoads_61 rfl (lv_at hl 1 rfl) ?_
          refine lv_iconst (v := nI (2)) hx hb dX11_writeRoads_62 (by decide) ?_
          refine zVI [.int (nI (j)), .int (nI (2))] [.ref (o 0)] (kX11_r (o) ((apL (apL (apL (apL (apL (mLn v (m_ln v) 0) (rdT y j)) (dgL (ixI (y_li y j)))) [(42)]) (dgL (ixI (y_mi y j)))) [(58)])) (R) (j) (2) (show (j) < 5 from by omega) (show (2) < 4 from by omega)) hx hb hml hown hts (cwV 2 hts gX11_writeRoads_X11_r rfl rfl rfl (by decide +kernel) ⟨(Nat.le_of_ble_eq_true rfl), (Nat.le_of_ble_eq_true rfl)⟩) hK hP hD hS hA (va_recv hK hP (ci := 10) (q0 := 0) rfl rfl) rfl hl.1 rfl (Nat.le_of_ble_eq_true rfl) dX11_writeRoads_63 ⟨(Nat.le_of_ble_eq_true rfl), (Nat.le_of_ble_eq_true rfl)⟩ (fun r_63 _ H locs hr_63 hP hD hS => ?_)
          subst hr_63
          have hP : va_P D vwCl (MW ct o (apL (apL (apL (apL (apL (mLn v (m_ln v) 0) (rdT y j)) (dgL (ixI (y_li y j)))) [(42)]) (dgL (ixI (y_mi y j)))) [(58)]) R) H := hP
          have hD : va_D A (MW ct o (apL (apL (apL (apL (apL (mLn v (m_ln v) 0) (rdT y j)) (dgL (ixI (y_li y j)))) [(42)]) (dgL (ixI (y_mi y j)))) [(58)]) R) := hD
          refine zTop (y := (y_ra y (j))) (hq.2.2.2.2.2 j (by omega)).2.2 ?_
          refine zTop (y := nI (ixI (y_ra y j))) (rd_n hy (k := j) (by omega)).2.2.1 ?_
          refine zVV [.int (nI (ixI (y_ra y j)))] [] (kX11_writesNumber_2 (o) ((apL (apL (apL (apL (apL (mLn v (m_ln v) 0) (rdT y j)) (dgL (ixI (y_li y j)))) [(42)]) (dgL (ixI (y_mi y j)))) [(58)])) (R) (ixI (y_ra y j)) (show (ixI (y_ra y j)) ≤ 99 from (by have q := (rd_n hy (k := j) (by omega)).2.2.2; omega)) (show (m_lz (apL (apL (apL (apL (apL (mLn v (m_ln v) 0) (rdT y j)) (dgL (ixI (y_li y j)))) [(42)]) (dgL (ixI (y_mi y j)))) [(58)])) + 2 ≤ 60 from (by have q1 := rdT_le y j; have q2 := dgL_le (ixI (y_li y j)); have q3 := dgL_le (ixI (y_mi y j)); simp only [apL_lz, mLn_lz, List.length_cons, List.length_nil]; omega))) hx hb hml hown hts (cwV 1 hts gX11_writeRoads_X11_writesNumber rfl rfl rfl (by decide +kernel) ⟨(Nat.le_of_ble_eq_true rfl), (Nat.le_of_ble_eq_true rfl)⟩) hK hP hD hS hA (va_recv hK hP (ci := 10) (q0 := 0) rfl rfl) rfl hl.1 rfl (Nat.le_of_ble_eq_true rfl) dX11_writeRoads_66 ⟨(Nat.le_of_ble_eq_true rfl), (Nat.le_of_ble_eq_true rfl)⟩ (fun _ H locs hr_66 hP hD hS => ?_)
          have hP : va_P D vwCl (MW ct o (apL (apL (apL (apL (apL (apL (mLn v (m_ln v) 0) (rdT y j)) (dgL (ixI (y_li y j)))) [(42)]) (dgL (ixI (y_mi y j)))) [(58)]) (dgL (ixI (y_ra y j)))) R) H := hP
          have hD : va_D A (MW ct o (apL (apL (apL (apL (apL (apL (mLn v (m_ln v) 0) (rdT y j)) (dgL (ixI (y_li y j)))) [(42)]) (dgL (ixI (y_mi y j)))) [(58)]) (dgL (ixI (y_ra y j)))) R) := hD
          refine lv_iinc (v := nI ((j + 1))) (lv' := [(1, .int (nI ((j + 1)))), (0, .ref (o 0))]) hx hb dX11_writeRoads_69 hl (k := 1) rfl (zInc _) (by decide) rfl (fun ls hl => ?_)
          refine lv_goto (tgt := 7) hx hb dX11_writeRoads_72 (by decide) ?_
          have hs9 : apL (mLn v (m_ln v) 0) (rdT y (j + 1)) = (apL (apL (apL (apL (apL (apL (mLn v (m_ln v) 0) (rdT y j)) (dgL (ixI (y_li y j)))) [(42)]) (dgL (ixI (y_mi y j)))) [(58)]) (dgL (ixI (y_ra y j)))) := by simp only [rdT, Nat.lt_irrefl, apL_app, List.append_assoc, List.cons_append, List.nil_append, List.append_nil, c14_1, c18_2, not_true_eq_false, not_false_eq_true, if_true, if_false, and_true, true_and, and_false, false_and, or_true, true_or, or_false, false_or, and_self, or_self, iff_true, true_iff, iff_false, false_iff, decide_eq_true_eq, decide_true, decide_false, Int32.add_zero, Nat.add_zero, ne_eq, Bool.false_eq_true, eq_self]
          have hP : va_P D vwCl (MW ct o (apL (mLn v (m_ln v) 0) (rdT y (j + 1))) R) H := by rw [hs9]; exact hP
          have hD : va_D A (MW ct o (apL (mLn v (m_ln v) 0) (rdT y (j + 1))) R) := by rw [hs9]; exact hD
          exact ih7 ((j + 1)) H locs ls (by omega) (by omega) hP hD hS (lv_sub hl [1, 0] rfl)
        · skip
          refine lv_aload_n hx hb dX11_writeRoads_21 rfl (lv_at hl 0 rfl) ?_
          refine lv_bipush (v := nI (32)) hx hb dX11_writeRoads_22 (by decide) ?_
          refine zVV [.int (nI (32))] [] (kX11_writes (o) ((apL (mLn v (m_ln v) 0) (rdT y j))) (R) (32) (show (32) < 65536 from (by decide)) (show (m_lz (apL (mLn v (m_ln v) 0) (rdT y j))) < 60 from (by have q1 := rdT_le y j; have q2 := dgL_le (ixI (y_li y j)); have q3 := dgL_le (ixI (y_mi y j)); simp only [apL_lz, mLn_lz, List.length_cons, List.length_nil]; omega))) hx hb hml hown hts (cwV 1 hts gX11_writeRoads_X11_writes rfl rfl rfl (by decide +kernel) ⟨(Nat.le_of_ble_eq_true rfl), (Nat.le_of_ble_eq_true rfl)⟩) hK hP hD hS hA (va_recv hK hP (ci := 10) (q0 := 0) rfl rfl) rfl hl.1 rfl (Nat.le_of_ble_eq_true rfl) dX11_writeRoads_24 ⟨(Nat.le_of_ble_eq_true rfl), (Nat.le_of_ble_eq_true rfl)⟩ (fun _ H locs hr_24 hP hD hS => ?_)
          have hP : va_P D vwCl (MW ct o (apL (apL (mLn v (m_ln v) 0) (rdT y j)) [(32)]) R) H := hP
          have hD : va_D A (MW ct o (apL (apL (mLn v (m_ln v) 0) (rdT y j)) [(32)]) R) := hD
          refine lv_aload_n hx hb dX11_writeRoads_27 rfl (lv_at hl 0 rfl) ?_
          refine lv_aload_n hx hb dX11_writeRoads_28 rfl (lv_at hl 0 rfl) ?_
          refine lv_iload_n hx hb dX11_writeRoads_29 rfl (lv_at hl 1 rfl) ?_
          refine lv_iconst (v := nI (0)) hx hb dX11_writeRoads_30 (by decide) ?_
          refine zVI [.int (nI (j)), .int (nI (0))] [.ref (o 0)] (kX11_r (o) ((apL (apL (mLn v (m_ln v) 0) (rdT y j)) [(32)])) (R) (j) (0) (show (j) < 5 from by omega) (show (0) < 4 from by omega)) hx hb hml hown hts (cwV 2 hts gX11_writeRoads_X11_r rfl rfl rfl (by decide +kernel) ⟨(Nat.le_of_ble_eq_true rfl), (Nat.le_of_ble_eq_true rfl)⟩) hK hP hD hS hA (va_recv hK hP (ci := 10) (q0 := 0) rfl rfl) rfl hl.1 rfl (Nat.le_of_ble_eq_true rfl) dX11_writeRoads_31 ⟨(Nat.le_of_ble_eq_true rfl), (Nat.le_of_ble_eq_true rfl)⟩ (fun r_31 _ H locs hr_31 hP hD hS => ?_)
          subst hr_31
          have hP : va_P D vwCl (MW ct o (apL (apL (mLn v (m_ln v) 0) (rdT y j)) [(32)]) R) H := hP
          have hD : va_D A (MW ct o (apL (apL (mLn v (m_ln v) 0) (rdT y j)) [(32)]) R) := hD
          refine zTop (y := (y_li y (j))) (hq.2.2.2.2.2 j (by omega)).1 ?_
          refine zTop (y := nI (ixI (y_li y j))) (rd_n hy (k := j) (by omega)).1.1 ?_
          refine zVV [.int (nI (ixI (y_li y j)))] [] (kX11_writesNumber_2 (o) ((apL (apL (mLn v (m_ln v) 0) (rdT y j)) [(32)])) (R) (ixI (y_li y j)) (show (ixI (y_li y j)) ≤ 99 from (by have q := (rd_n hy (k := j) (by omega)).1.2; omega)) (show (m_lz (apL (apL (mLn v (m_ln v) 0) (rdT y j)) [(32)])) + 2 ≤ 60 from (by have q1 := rdT_le y j; have q2 := dgL_le (ixI (y_li y j)); have q3 := dgL_le (ixI (y_mi y j)); simp only [apL_lz, mLn_lz, List.length_cons, List.length_nil]; omega))) hx hb hml hown hts (cwV 1 hts gX11_writeRoads_X11_writesNumber rfl rfl rfl (by decide +kernel) ⟨(Nat.le_of_ble_eq_true rfl), (Nat.le_of_ble_eq_true rfl)⟩) hK hP hD hS hA (va_recv hK hP (ci := 10) (q0 := 0) rfl rfl) rfl hl.1 rfl (Nat.le_of_ble_eq_true rfl) dX11_writeRoads_34 ⟨(Nat.le_of_ble_eq_true rfl), (Nat.le_of_ble_eq_true rfl)⟩ (fun _ H locs hr_34 hP hD hS => ?_)
          have hP : va_P D vwCl (MW ct o (apL (apL (apL (mLn v (m_ln v) 0) (rdT y j)) [(32)]) (dgL (ixI (y_li y j)))) R) H := hP
          have hD : va_D A (MW ct o (apL (apL (apL (mLn v (m_ln v) 0) (rdT y j)) [(32)]) (dgL (ixI (y_li y j)))) R) := hD
          refine lv_aload_n hx hb dX11_writeRoads_37 rfl (lv_at hl 0 rfl) ?_
          refine lv_bipush (v := nI (42)) hx hb dX11_writeRoads_38 (by decide) ?_
          refine zVV [.int (nI (42))] [] (kX11_writes (o) ((apL (apL (apL (mLn v (m_ln v) 0) (rdT y j)) [(32)]) (dgL (ixI (y_li y j))))) (R) (42) (show (42) < 65536 from (by decide)) (show (m_lz (apL (apL (apL (mLn v (m_ln v) 0) (rdT y j)) [(32)]) (dgL (ixI (y_li y j))))) < 60 from (by have q1 := rdT_le y j; have q2 := dgL_le (ixI (y_li y j)); have q3 := dgL_le (ixI (y_mi y j)); simp only [apL_lz, mLn_lz, List.length_cons, List.length_nil]; omega))) hx hb hml hown hts (cwV 1 hts gX11_writeRoads_X11_writes rfl rfl rfl (by decide +kernel) ⟨(Nat.le_of_ble_eq_true rfl), (Nat.le_of_ble_eq_true rfl)⟩) hK hP hD hS hA (va_recv hK hP (ci := 10) (q0 := 0) rfl rfl) rfl hl.1 rfl (Nat.le_of_ble_eq_true rfl) dX11_writeRoads_40 ⟨(Nat.le_of_ble_eq_true rfl), (Nat.le_of_ble_eq_true rfl)⟩ (fun _ H locs hr_40 hP hD hS => ?_)
          have hP : va_P D vwCl (MW ct o (apL (apL (apL (apL (mLn v (m_ln v) 0) (rdT y j)) [(32)]) (dgL (ixI (y_li y j)))) [(42)]) R) H := hP
          have hD : va_D A (MW ct o (apL (apL (apL (apL (mLn v (m_ln v) 0) (rdT y j)) [(32)]) (dgL (ixI (y_li y j)))) [(42)]) R) := hD
          refine lv_aload_n hx hb dX11_writeRoads_43 rfl (lv_at hl 0 rfl) ?_
          refine lv_aload_n hx hb dX11_writeRoads_44 rfl (lv_at hl 0 rfl) ?_
          refine lv_iload_n hx hb dX11_writeRoads_45 rfl (lv_at hl 1 rfl) ?_
          refine lv_iconst (v := nI (1)) hx hb dX11_writeRoads_46 (by decide) ?_
          refine zVI [.int (nI (j)), .int (nI (1))] [.ref (o 0)] (kX11_r (o) ((apL (apL (apL (apL (mLn v (m_ln v) 0) (rdT y j)) [(32)]) (dgL (ixI (y_li y j)))) [(42)])) (R) (j) (1) (show (j) < 5 from by omega) (show (1) < 4 from by omega)) hx hb hml hown hts (cwV 2 hts gX11_writeRoads_X11_r rfl rfl rfl (by decide +kernel) ⟨(Nat.le_of_ble_eq_true rfl), (Nat.le_of_ble_eq_true rfl)⟩) hK hP hD hS hA (va_recv hK hP (ci := 10) (q0 := 0) rfl rfl) rfl hl.1 rfl (Nat.le_of_ble_eq_true rfl) dX11_writeRoads_47 ⟨(Nat.le_of_ble_eq_true rfl), (Nat.le_of_ble_eq_true rfl)⟩ (fun r_47 _ H locs hr_47 hP hD hS => ?_)
          subst hr_47
          have hP : va_P D vwCl (MW ct o (apL (apL (apL (apL (mLn v (m_ln v) 0) (rdT y j)) [(32)]) (dgL (ixI (y_li y j)))) [(42)]) R) H := hP
          have hD : va_D A (MW ct o (apL (apL (apL (apL (mLn v (m_ln v) 0) (rdT y j)) [(32)]) (dgL (ixI (y_li y j)))) [(42)]) R) := hD
          refine zTop (y := (y_mi y (j))) (hq.2.2.2.2.2 j (by omega)).2.1 ?_
          refine zTop (y := nI (ixI (y_mi y j))) (rd_n hy (k := j) (by omega)).2.1.1 ?_
          refine zVV [.int (nI (ixI (y_mi y j)))] [] (kX11_writesNumber_2 (o) ((apL (apL (apL (apL (mLn v (m_ln v) 0) (rdT y j)) [(32)]) (dgL (ixI (y_li y j)))) [(42)])) (R) (ixI (y_mi y j)) (show (ixI (y_mi y j)) ≤ 99 from (by have q := (rd_n hy (k := j) (by omega)).2.1.2; omega)) (show (m_lz (apL (apL (apL (apL (mLn v (m_ln v) 0) (rdT y j)) [(32)]) (dgL (ixI (y_li y j)))) [(42)])) + 2 ≤ 60 from (by have q1 := rdT_le y j; have q2 := dgL_le (ixI (y_li y j)); have q3 := dgL_le (ixI (y_mi y j)); simp only [apL_lz, mLn_lz, List.length_cons, List.length_nil]; omega))) hx hb hml hown hts (cwV 1 hts gX11_writeRoads_X11_writesNumber rfl rfl rfl (by decide +kernel) ⟨(Nat.le_of_ble_eq_true rfl), (Nat.le_of_ble_eq_true rfl)⟩) hK hP hD hS hA (va_recv hK hP (ci := 10) (q0 := 0) rfl rfl) rfl hl.1 rfl (Nat.le_of_ble_eq_true rfl) dX11_writeRoads_50 ⟨(Nat.le_of_ble_eq_true rfl), (Nat.le_of_ble_eq_true rfl)⟩ (fun _ H locs hr_50 hP hD hS => ?_)
          have hP : va_P D vwCl (MW ct o (apL (apL (apL (apL (apL (mLn v (m_ln v) 0) (rdT y j)) [(32)]) (dgL (ixI (y_li y j)))) [(42)]) (dgL (ixI (y_mi y j)))) R) H := hP
          have hD : va_D A (MW ct o (apL (apL (apL (apL (apL (mLn v (m_ln v) 0) (rdT y j)) [(32)]) (dgL (ixI (y_li y j)))) [(42)]) (dgL (ixI (y_mi y j)))) R) := hD
          refine lv_aload_n hx hb dX11_writeRoads_53 rfl (lv_at hl 0 rfl) ?_
          refine lv_bipush (v := nI (58)) hx hb dX11_writeRoads_54 (by decide) ?_
          refine zVV [.int (nI (58))] [] (kX11_writes (o) ((apL (apL (apL (apL (apL (mLn v (m_ln v) 0) (rdT y j)) [(32)]) (dgL (ixI (y_li y j)))) [(42)]) (dgL (ixI (y_mi y j))))) (R) (58) (show (58) < 65536 from (by decide)) (show (m_lz (apL (apL (apL (apL (apL (mLn v (m_ln v) 0) (rdT y j)) [(32)]) (dgL (ixI (y_li y j)))) [(42)]) (dgL (ixI (y_mi y j))))) < 60 from (by have q1 := rdT_le y j; have q2 := dgL_le (ixI (y_li y j)); have q3 := dgL_le (ixI (y_mi y j)); simp only [apL_lz, mLn_lz, List.length_cons, List.length_nil]; omega))) hx hb hml hown hts (cwV 1 hts gX11_writeRoads_X11_writes rfl rfl rfl (by decide +kernel) ⟨(Nat.le_of_ble_eq_true rfl), (Nat.le_of_ble_eq_true rfl)⟩) hK hP hD hS hA (va_recv hK hP (ci := 10) (q0 := 0) rfl rfl) rfl hl.1 rfl (Nat.le_of_ble_eq_true rfl) dX11_writeRoads_56 ⟨(Nat.le_of_ble_eq_true rfl), (Nat.le_of_ble_eq_true rfl)⟩ (fun _ H locs hr_56 hP hD hS => ?_)
          have hP : va_P D vwCl (MW ct o (apL (apL (apL (apL (apL (apL (mLn v (m_ln v) 0) (rdT y j)) [(32)]) (dgL (ixI (y_li y j)))) [(42)]) (dgL (ixI (y_mi y j)))) [(58)]) R) H := hP
          have hD : va_D A (MW ct o (apL (apL (apL (apL (apL (apL (mLn v (m_ln v) 0) (rdT y j)) [(32)]) (dgL (ixI (y_li y j)))) [(42)]) (dgL (ixI (y_mi y j)))) [(58)]) R) := hD
          refine lv_aload_n hx hb dX11_writeRoads_59 rfl (lv_at hl 0 rfl) ?_
          refine lv_aload_n hx hb dX11_writeRoads_60 rfl (lv_at hl 0 rfl) ?_
          refine lv_iload_n hx hb dX11_writeRoads_61 rfl (lv_at hl 1 rfl) ?_
          refine lv_iconst (v := nI (2)) hx hb dX11_writeRoads_62 (by decide) ?_
          refine zVI [.int (nI (j)), .int (nI (2))] [.ref (o 0)] (kX11_r (o) ((apL (apL (apL (apL (apL (apL (mLn v (m_ln v) 0) (rdT y j)) [(32)]) (dgL (ixI (y_li y j)))) [(42)]) (dgL (ixI (y_mi y j)))) [(58)])) (R) (j) (2) (show (j) < 5 from by omega) (show (2) < 4 from by omega)) hx hb hml hown hts (cwV 2 hts gX11_writeRoads_X11_r rfl rfl rfl (by decide +kernel) ⟨(Nat.le_of_ble_eq_true rfl), (Nat.le_of_ble_eq_true rfl)⟩) hK hP hD hS hA (va_recv hK hP (ci := 10) (q0 := 0) rfl rfl) rfl hl.1 rfl (Nat.le_of_ble_eq_true rfl) dX11_writeRoads_63 ⟨(Nat.le_of_ble_eq_true rfl), (Nat.le_of_ble_eq_true rfl)⟩ (fun r_63 _ H locs hr_63 hP hD hS => ?_)
          subst hr_63
          have hP : va_P D vwCl (MW ct o (apL (apL (apL (apL (apL (apL (mLn v (m_ln v) 0) (rdT y j)) [(32)]) (dgL (ixI (y_li y j)))) [(42)]) (dgL (ixI (y_mi y j)))) [(58)]) R) H := hP
          have hD : va_D A (MW ct o (apL (apL (apL (apL (apL (apL (mLn v (m_ln v) 0) (rdT y j)) [(32)]) (dgL (ixI (y_li y j)))) [(42)]) (dgL (ixI (y_mi y j)))) [(58)]) R) := hD
          refine zTop (y := (y_ra y (j))) (hq.2.2.2.2.2 j (by omega)).2.2 ?_
          refine zTop (y := nI (ixI (y_ra y j))) (rd_n hy (k := j) (by omega)).2.2.1 ?_
          refine zVV [.int (nI (ixI (y_ra y j)))] [] (kX11_writesNumber_2 (o) ((apL (apL (apL (apL (apL (apL (mLn v (m_ln v) 0) (rdT y j)) [(32)]) (dgL (ixI (y_li y j)))) [(42)]) (dgL (ixI (y_mi y j)))) [(58)])) (R) (ixI (y_ra y j)) (show (ixI (y_ra y j)) ≤ 99 from (by have q := (rd_n hy (k := j) (by omega)).2.2.2; omega)) (show (m_lz (apL (apL (apL (apL (apL (apL (mLn v (m_ln v) 0) (rdT y j)) [(32)]) (dgL (ixI (y_li y j)))) [(42)]) (dgL (ixI (y_mi y j)))) [(58)])) + 2 ≤ 60 from (by have q1 := rdT_le y j; have q2 := dgL_le (ixI (y_li y j)); have q3 := dgL_le (ixI (y_mi y j)); simp only [apL_lz, mLn_lz, List.length_cons, List.length_nil]; omega))) hx hb hml hown hts (cwV 1 hts gX11_writeRoads_X11_writesNumber rfl rfl rfl (by decide +kernel) ⟨(Nat.le_of_ble_eq_true rfl), (Nat.le_of_ble_eq_true rfl)⟩) hK hP hD hS hA (va_recv hK hP (ci := 10) (q0 := 0) rfl rfl) rfl hl.1 rfl (Nat.le_of_ble_eq_true rfl) dX11_writeRoads_66 ⟨(Nat.le_of_ble_eq_true rfl), (Nat.le_of_ble_eq_true rfl)⟩ (fun _ H locs hr_66 hP hD hS => ?_)
          have hP : va_P D vwCl (MW ct o (apL (apL (apL (apL (apL (apL (apL (mLn v (m_ln v) 0) (rdT y j)) [(32)]) (dgL (ixI (y_li y j)))) [(42)]) (dgL (ixI (y_mi y j)))) [(58)]) (dgL (ixI (y_ra y j)))) R) H := hP
          have hD : va_D A (MW ct o (apL (apL (apL (apL (apL (apL (apL (mLn v (m_ln v) 0) (rdT y j)) [(32)]) (dgL (ixI (y_li y j)))) [(42)]) (dgL (ixI (y_mi y j)))) [(58)]) (dgL (ixI (y_ra y j)))) R) := hD
          refine lv_iinc (v := nI ((j + 1))) (lv' := [(1, .int (nI ((j + 1)))), (0, .ref (o 0))]) hx hb dX11_writeRoads_69 hl (k := 1) rfl (zInc _) (by decide) rfl (fun ls hl => ?_)
          refine lv_goto (tgt := 7) hx hb dX11_writeRoads_72 (by decide) ?_
          have hs9 : apL (mLn v (m_ln v) 0) (rdT y (j + 1)) = (apL (apL (apL (apL (apL (apL (apL (mLn v (m_ln v) 0) (rdT y j)) [(32)]) (dgL (ixI (y_li y j)))) [(42)]) (dgL (ixI (y_mi y j)))) [(58)]) (dgL (ixI (y_ra y j)))) := by simp only [rdT, show 0 < j from by omega, apL_app, List.append_assoc, List.cons_append, List.nil_append, List.append_nil, c14_1, c18_2, not_true_eq_false, not_false_eq_true, if_true, if_false, and_true, true_and, and_false, false_and, or_true, true_or, or_false, false_or, and_self, or_self, iff_true, true_iff, iff_false, false_iff, decide_eq_true_eq, decide_true, decide_false, Int32.add_zero, Nat.add_zero, ne_eq, Bool.false_eq_true, eq_self]
          have hP : va_P D vwCl (MW ct o (apL (mLn v (m_ln v) 0) (rdT y (j + 1))) R) H := by rw [hs9]; exact hP
          have hD : va_D A (MW ct o (apL (mLn v (m_ln v) 0) (rdT y (j + 1))) R) := by rw [hs9]; exact hD
          exact ih7 ((j + 1)) H locs ls (by omega) (by omega) hP hD hS (lv_sub hl [1, 0] rfl)
  have hP : va_P D vwCl (MW ct o (apL (mLn v (m_ln v) 0) (rdT y (0))) R) H := by rw [show apL (mLn v (m_ln v) 0) (rdT y 0) = (mLn v (m_ln v) 0) from rfl]; exact hP
  have hD : va_D A (MW ct o (apL (mLn v (m_ln v) 0) (rdT y (0))) R) := by rw [show apL (mLn v (m_ln v) 0) (rdT y 0) = (mLn v (m_ln v) 0) from rfl]; exact hD
  exact lp7 ((y_rn y - (0)) + 1) (0) H locs ls (by omega) (Nat.lt_succ_self _) hP hD hS (lv_sub hl [1, 0] rfl)
abbrev rmX11_written : Room := { frames := 1, cells := 0, slots := 0, locals := 22 }
theorem in_X11_written_X11 : ∀ w ∈ u_ws RX11 TX11 19, w ∈ wsX11_written := by decide +kernel
set_option maxHeartbeats 4000000 in
set_option maxRecDepth 100000 in
theorem kX11_written {D : va_G} {ct : Nat → ClassId} {l : Launch} (o : Nat → Nat) (v : MS) (R : va_W) (x1 : Int32) (hlz : m_lz v ≤ 60) : MI D ct l yX11_written wsX11_written rmX11_written (MW ct o v R) [.ref (o 0), .int (x1)] (fun r0 (_ : Unit) => r0 = a_wtn (m_ln v) (m_lz v) x1) (fun _ : Unit => MW ct o v R) := by
  refine MIof (cc := cX11_written) (maxL := 2) (ret := (some .int)) (by decide) rfl (Nat.le_of_ble_eq_true rfl) ?_
  intro p e s m args below meth c A H locs F hP hK hD hS hA ls hl
  obtain ⟨hx, hb, hr, hlocks, hml, hown, hts, hin⟩ := F
  have hl : lv_has ls 2 [(0, .ref (o 0)), (1, .int (x1))] := hl
  have h_X11 := in_X11_written_X11
  have f20 := hts (.fieldLink RX11 20 "CartArgumentsModel" "line" "[C") (by decide +kernel)
  have f179 := hts (.fieldLink RX11 179 "CartArgumentsModel" "lineSize" "I") (by decide +kernel)
  refine lv_iload_n hx hb dX11_written_0 rfl (lv_at hl 1 rfl) ?_
  refine lv_iconst (v := nI (0)) hx hb dX11_written_1 (by decide) ?_
  refine lv_aload_n hx hb dX11_written_2 rfl (lv_at hl 0 rfl) ?_
  refine va_get (ci := 10) (v := .int (nI (m_lz v))) hx hb hts h_X11 hown hK hP 0 rfl rfl 11 (by decide) f179 (fun _ h9 => h9) rfl dX11_written_3 ?_
  refine lv_iconst (v := nI (1)) hx hb dX11_written_6 (by decide) ?_
  refine lv_isub hx hb dX11_written_7 ?_
  refine zSI [.int (x1), .int (nI (0)), .int ((nI (m_lz v) - nI (1)))] [] (kX11_in (MW ct o v R) (x1) (nI (0)) ((nI (m_lz v) - nI (1)))) hx hb hml hown hts (va_cwS 3 hts gX11_written_X11_in rfl rfl rfl (by decide +kernel) ⟨(Nat.le_of_ble_eq_true rfl), (Nat.le_of_ble_eq_true rfl)⟩) hK hP hD hS hA rfl hl.1 rfl (Nat.le_of_ble_eq_true rfl) dX11_written_8 ⟨(Nat.le_of_ble_eq_true rfl), (Nat.le_of_ble_eq_true rfl)⟩ (fun r_8 _ H locs hr_8 hP hD hS => ?_)
  subst hr_8
  have hP : va_P D vwCl (MW ct o v R) H := hP
  have hD : va_D A (MW ct o v R) := hD
  refine zB_if_eq (tgt := 23) hx hb dX11_written_11 (by decide) (fun c11_1 => ?_) (fun c11_1 => ?_)
  · skip
    have h8 : ¬ p_in x1 (m_lz v) := fun q => c11_1 ((rng_in (by omega)).mpr q)
    refine lv_iconst (v := (-1)) hx hb dX11_written_23 (by decide) ?_
    exact zIret () hx hb hr hlocks hK hP hD hS dX11_written_24 (show (-1) = a_wtn (m_ln v) (m_lz v) x1 from (by simp only [a_wtn, ixI, c11_1, h8, p_in, p_worn, p_wi, p_creak, p_le0, p_lt1, p_rng, pmT, pmC, p_eq0, not_true_eq_false, not_false_eq_true, if_true, if_false, and_true, true_and, and_false, false_and, or_true, true_or, or_false, false_or, and_self, or_self, iff_true, true_iff, iff_false, false_iff, decide_eq_true_eq, decide_true, decide_false, Int32.add_zero, Nat.add_zero, ne_eq, Bool.false_eq_true, eq_self]))
  · skip
    have h8 : p_in x1 (m_lz v) := (rng_in (by omega)).mp c11_1
    obtain ⟨k1, hk1, ek1⟩ := p_in_ex (n := m_lz v) (by omega) h8
    subst ek1
    have hclk1 : (nI k1).toNatClampNeg = k1 := nI_clamp (by omega)
    refine lv_aload_n hx hb dX11_written_14 rfl (lv_at hl 0 rfl) ?_
    refine va_get (ci := 10) (v := .ref (o 4)) hx hb hts h_X11 hown hK hP 0 rfl rfl 10 (by decide) f20 (fun _ h9 => h9) rfl dX11_written_15 ?_
    refine lv_iload_n hx hb dX11_written_18 rfl (lv_at hl 1 rfl) ?_
    refine zCald (n := 60) (f := m_ln v) (i := k1) hx hb hK hP 4 rfl (by omega) (by decide) dX11_written_19 ?_
    refine lv_goto (tgt := 24) hx hb dX11_written_20 (by decide) ?_
    exact zIret () hx hb hr hlocks hK hP hD hS dX11_written_24 (show (m_ln v (k1)) = a_wtn (m_ln v) (m_lz v) (nI k1) from (by simp only [a_wtn, ixI, c11_1, h8, hclk1, p_in, p_worn, p_wi, p_creak, p_le0, p_lt1, p_rng, pmT, pmC, p_eq0, not_true_eq_false, not_false_eq_true, if_true, if_false, and_true, true_and, and_false, false_and, or_true, true_or, or_false, false_or, and_self, or_self, iff_true, true_iff, iff_false, false_iff, decide_eq_true_eq, decide_true, decide_false, Int32.add_zero, Nat.add_zero, ne_eq, Bool.false_eq_true, eq_self]))
abbrev rmX11_append : Room := { frames := 1, cells := 0, slots := 0, locals := 22 }
theorem in_X11_append_X11 : ∀ w ∈ u_ws RX11 TX11 19, w ∈ wsX11_append := by decide +kernel
set_option maxHeartbeats 4000000 in
set_option maxRecDepth 100000 in
theorem kX11_append {D : va_G} {ct : Nat → ClassId} {l : Launch} (o : Nat → Nat) (v : MS) (R : va_W) (x1 : Int32) (ht : m_ty v ≤ 60) : MI D ct l yX11_append wsX11_append rmX11_append (MW ct o v R) [.ref (o 0), .int (x1)] (fun r0 (_ : Unit) => r0 = (F_app v x1).1) (fun _ : Unit => MW ct o (F_app v x1).2 R) := by
  refine MIof (cc := cX11_append) (maxL := 2) (ret := (some .int)) (by decide) rfl (Nat.le_of_ble_eq_true rfl) ?_
  intro p e s m args below meth c A H locs F hP hK hD hS hA ls hl
  obtain ⟨hx, hb, hr, hlocks, hml, hown, hts, hin⟩ := F
  have hl : lv_has ls 2 [(0, .ref (o 0)), (1, .int (x1))] := hl
  have h_X11 := in_X11_append_X11
  have f24 := hts (.fieldLink RX11 24 "CartArgumentsModel" "input" "[C") (by decide +kernel)
  have f192 := hts (.fieldLink RX11 192 "CartArgumentsModel" "typed" "I") (by decide +kernel)
  refine lv_iload_n hx hb dX11_append_0 rfl (lv_at hl 1 rfl) ?_
  refine lv_bipush (v := nI (32)) hx hb dX11_append_1 (by decide) ?_
  refine lv_bipush (v := nI (126)) hx hb dX11_append_3 (by decide) ?_
  refine zSI [.int (x1), .int (nI (32)), .int (nI (126))] [] (kX11_in (MW ct o v R) (x1) (nI (32)) (nI (126))) hx hb hml hown hts (va_cwS 3 hts gX11_append_X11_in rfl rfl rfl (by decide +kernel) ⟨(Nat.le_of_ble_eq_true rfl), (Nat.le_of_ble_eq_true rfl)⟩) hK hP hD hS hA rfl hl.1 rfl (Nat.le_of_ble_eq_true rfl) dX11_append_5 ⟨(Nat.le_of_ble_eq_true rfl), (Nat.le_of_ble_eq_true rfl)⟩ (fun r_5 _ H locs hr_5 hP hD hS => ?_)
  subst hr_5
  have hP : va_P D vwCl (MW ct o v R) H := hP
  have hD : va_D A (MW ct o v R) := hD
  refine zB_if_eq (tgt := 20) hx hb dX11_append_8 (by decide) (fun c8_1 => ?_) (fun c8_1 => ?_)
  · skip
    refine lv_bipush (v := (-2)) hx hb dX11_append_20 (by decide) ?_
    have e9 : F_app v x1 = ((-2), v) := (by simp only [F_app, mIn, c8_1, p_in, p_worn, p_wi, p_creak, p_le0, p_lt1, p_rng, pmT, pmC, p_eq0, not_true_eq_false, not_false_eq_true, if_true, if_false, and_true, true_and, and_false, false_and, or_true, true_or, or_false, false_or, and_self, or_self, iff_true, true_iff, iff_false, false_iff, decide_eq_true_eq, decide_true, decide_false, Int32.add_zero, Nat.add_zero, ne_eq, Bool.false_eq_true, eq_self])
    exact zIret () hx hb hr hlocks hK (by show va_P D vwCl (MW ct o (F_app v x1).2 R) H; rw [e9]; exact hP) (by show va_D A (MW ct o (F_app v x1).2 R); rw [e9]; exact hD) hS dX11_append_22 (show (-2) = (F_app v x1).1 from (by rw [e9]))
  · skip
    obtain ⟨k1, hk1, ek1⟩ := rng_ex (by decide) (by decide) c8_1
    subst ek1
    refine lv_aload_n hx hb dX11_append_11 rfl (lv_at hl 0 rfl) ?_
    refine va_get (ci := 10) (v := .int (nI (m_ty v))) hx hb hts h_X11 hown hK hP 0 rfl rfl 13 (by decide) f192 (fun _ h9 => h9) rfl dX11_append_12 ?_
    refine lv_bipush (v := nI (60)) hx hb dX11_append_15 (by decide) ?_
    refine zN_icmp_ne (tgt := 23) hx hb (by omega) (by omega) dX11_append_17 (by decide) (fun c17_2 => ?_) (fun c17_2 => ?_)
    · skip
      refine lv_aload_n hx hb dX11_append_23 rfl (lv_at hl 0 rfl) ?_
      refine va_get (ci := 10) (v := .ref (o 5)) hx hb hts h_X11 hown hK hP 0 rfl rfl 12 (by decide) f24 (fun _ h9 => h9) rfl dX11_append_24 ?_
      refine lv_aload_n hx hb dX11_append_27 rfl (lv_at hl 0 rfl) ?_
      refine va_get (ci := 10) (v := .int (nI (m_ty v))) hx hb hts h_X11 hown hK hP 0 rfl rfl 13 (by decide) f192 (fun _ h9 => h9) rfl dX11_append_28 ?_
      refine lv_iload_n hx hb dX11_append_31 rfl (lv_at hl 1 rfl) ?_
      refine zCast (n := 60) (f := m_in v) (i := m_ty v) hx hb hK hP hD hS 5 rfl (by omega) (by decide) dX11_append_32 (fun H locs hP hD hS => ?_)
      have hP : va_P D vwCl (MW ct o (m_g v, m_fl v, m_ch v, m_sv v, m_why v, m_det v, m_li v, m_ld v, m_wt v, m_wm v, m_ln v, m_lz v, (upd (m_in v) (m_ty v) (vp_nar .char (nI (k1)))), m_ty v, m_he v, m_wa v, m_fa v, m_cm v, m_cz v) R) H := hP
      have hD : va_D A (MW ct o (m_g v, m_fl v, m_ch v, m_sv v, m_why v, m_det v, m_li v, m_ld v, m_wt v, m_wm v, m_ln v, m_lz v, (upd (m_in v) (m_ty v) (vp_nar .char (nI (k1)))), m_ty v, m_he v, m_wa v, m_fa v, m_cm v, m_cz v) R) := hD
      refine lv_aload_n hx hb dX11_append_33 rfl (lv_at hl 0 rfl) ?_
      refine lv_dup hx hb dX11_append_34 rfl ?_
      refine va_get (ci := 10) (v := .int (nI (m_ty v))) hx hb hts h_X11 hown hK hP 0 rfl rfl 13 (by decide) f192 (fun _ h9 => h9) rfl dX11_append_35 ?_
      refine lv_iconst (v := nI (1)) hx hb dX11_append_38 (by decide) ?_
      refine zNadd hx hb dX11_append_39 ?_
      refine va_put (ci := 10) (v := .int (nI ((m_ty v + 1)))) (ty := .int) hx hb hts h_X11 tyX11 tyX11_ok nmX11 hown hK hP hD hS 0 rfl rfl 13 (by decide) f192 (fun _ h9 => h9) rfl (by decide +kernel) rfl rfl (Nat.le_of_ble_eq_true rfl) dX11_append_40 (fun H locs hP hD hS => ?_)
      have hP : va_P D vwCl (MW ct o (m_g v, m_fl v, m_ch v, m_sv v, m_why v, m_det v, m_li v, m_ld v, m_wt v, m_wm v, m_ln v, m_lz v, (upd (m_in v) (m_ty v) (vp_nar .char (nI (k1)))), (m_ty v + 1), m_he v, m_wa v, m_fa v, m_cm v, m_cz v) R) H := hP
      have hD : va_D A (MW ct o (m_g v, m_fl v, m_ch v, m_sv v, m_why v, m_det v, m_li v, m_ld v, m_wt v, m_wm v, m_ln v, m_lz v, (upd (m_in v) (m_ty v) (vp_nar .char (nI (k1)))), (m_ty v + 1), m_he v, m_wa v, m_fa v, m_cm v, m_cz v) R) := hD
      refine lv_aload_n hx hb dX11_append_43 rfl (lv_at hl 0 rfl) ?_
      refine va_get (ci := 10) (v := .int (nI ((m_ty v + 1)))) hx hb hts h_X11 hown hK hP 0 rfl rfl 13 (by decide) f192 (fun _ h9 => h9) rfl dX11_append_44 ?_
      have e9 : F_app v (nI k1) = (nI ((m_ty v + 1)), (m_g v, m_fl v, m_ch v, m_sv v, m_why v, m_det v, m_li v, m_ld v, m_wt v, m_wm v, m_ln v, m_lz v, (upd (m_in v) (m_ty v) (vp_nar .char (nI (k1)))), (m_ty v + 1), m_he v, m_wa v, m_fa v, m_cm v, m_cz v)) := (by simp only [F_app, mIn, narC (c := k1) (by omega), c8_1, c17_2, p_in, p_worn, p_wi, p_creak, p_le0, p_lt1, p_rng, pmT, pmC, p_eq0, not_true_eq_false, not_false_eq_true, if_true, if_false, and_true, true_and, and_false, false_and, or_true, true_or, or_false, false_or, and_self, or_self, iff_true, true_iff, iff_false, false_iff, decide_eq_true_eq, decide_true, decide_false, Int32.add_zero, Nat.add_zero, ne_eq, Bool.false_eq_true, eq_self])
      exact zIret () hx hb hr hlocks hK (by show va_P D vwCl (MW ct o (F_app v (nI k1)).2 R) H; rw [e9]; exact hP) (by show va_D A (MW ct o (F_app v (nI k1)).2 R); rw [e9]; exact hD) hS dX11_append_47 (show nI ((m_ty v + 1)) = (F_app v (nI k1)).1 from (by rw [e9]))
    · skip
      refine lv_bipush (v := (-2)) hx hb dX11_append_20 (by decide) ?_
      have e9 : F_app v (nI k1) = ((-2), v) := (by simp only [F_app, mIn, narC (c := k1) (by omega), c8_1, eq_true c17_2, p_in, p_worn, p_wi, p_creak, p_le0, p_lt1, p_rng, pmT, pmC, p_eq0, not_true_eq_false, not_false_eq_true, if_true, if_false, and_true, true_and, and_false, false_and, or_true, true_or, or_false, false_or, and_self, or_self, iff_true, true_iff, iff_false, false_iff, decide_eq_true_eq, decide_true, decide_false, Int32.add_zero, Nat.add_zero, ne_eq, Bool.false_eq_true, eq_self])
      exact zIret () hx hb hr hlocks hK (by show va_P D vwCl (MW ct o (F_app v (nI k1)).2 R) H; rw [e9]; exact hP) (by show va_D A (MW ct o (F_app v (nI k1)).2 R); rw [e9]; exact hD) hS dX11_append_22 (show (-2) = (F_app v (nI k1)).1 from (by rw [e9]))
