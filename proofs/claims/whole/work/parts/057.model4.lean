/-! THE REFERENCE: changes -/
abbrev rmX11_refuses_t : Room := { frames := 0, cells := 0, slots := 0, locals := 0 }
theorem in_X11_refuses_t_X11 : ∀ w ∈ u_ws RX11 TX11 19, w ∈ wsX11_refuses := by decide +kernel
set_option maxHeartbeats 4000000 in
set_option maxRecDepth 100000 in
theorem kX11_refuses_t {D : va_G} {ct : Nat → ClassId} {l : Launch} (o : Nat → Nat) (v : MS) (R : va_W) (x2 : Int32) (x3 : Int32) : MI D ct l yX11_refuses wsX11_refuses rmX11_refuses_t (MW ct o v R) [.ref (o 0), .int (nI (1)), .int (x2), .int (x3)] (fun r0 (_ : Unit) => r0 = nI (1)) (fun _ : Unit => MW ct o (m_g v, m_fl v, m_ch v, m_sv v, x2, x3, nI (0), m_ld v, m_wt v, m_wm v, m_ln v, m_lz v, m_in v, m_ty v, m_he v, m_wa v, m_fa v, m_cm v, m_cz v) R) := by
  refine MIof (cc := cX11_refuses) (maxL := 4) (ret := (some .boolean)) (by decide) rfl (Nat.le_of_ble_eq_true rfl) ?_
  intro p e s m args below meth c A H locs F hP hK hD hS hA ls hl
  obtain ⟨hx, hb, hr, hlocks, hml, hown, hts, hin⟩ := F
  have hl : lv_has ls 4 [(0, .ref (o 0)), (1, .int (nI (1))), (2, .int (x2)), (3, .int (x3))] := hl
  have h_X11 := in_X11_refuses_t_X11
  have f41 := hts (.fieldLink RX11 41 "CartArgumentsModel" "why" "I") (by decide +kernel)
  have f44 := hts (.fieldLink RX11 44 "CartArgumentsModel" "detail" "I") (by decide +kernel)
  have f47 := hts (.fieldLink RX11 47 "CartArgumentsModel" "lies" "I") (by decide +kernel)
  refine lv_iload_n hx hb dX11_refuses_0 rfl (lv_at hl 1 rfl) ?_
  refine lv_if_eq (tgt := 19) hx hb dX11_refuses_1 (by decide) (fun c9 => absurd c9 (by decide)) (fun c9 => ?_)
  refine lv_aload_n hx hb dX11_refuses_4 rfl (lv_at hl 0 rfl) ?_
  refine lv_iload_n hx hb dX11_refuses_5 rfl (lv_at hl 2 rfl) ?_
  refine va_put (ci := 10) (v := .int (x2)) (ty := .int) hx hb hts h_X11 tyX11 tyX11_ok nmX11 hown hK hP hD hS 0 rfl rfl 4 (by decide) f41 (fun _ h9 => h9) rfl (by decide +kernel) rfl rfl (Nat.le_of_ble_eq_true rfl) dX11_refuses_6 (fun H locs hP hD hS => ?_)
  have hP : va_P D vwCl (MW ct o (m_g v, m_fl v, m_ch v, m_sv v, x2, m_det v, m_li v, m_ld v, m_wt v, m_wm v, m_ln v, m_lz v, m_in v, m_ty v, m_he v, m_wa v, m_fa v, m_cm v, m_cz v) R) H := hP
  have hD : va_D A (MW ct o (m_g v, m_fl v, m_ch v, m_sv v, x2, m_det v, m_li v, m_ld v, m_wt v, m_wm v, m_ln v, m_lz v, m_in v, m_ty v, m_he v, m_wa v, m_fa v, m_cm v, m_cz v) R) := hD
  refine lv_aload_n hx hb dX11_refuses_9 rfl (lv_at hl 0 rfl) ?_
  refine lv_iload_n hx hb dX11_refuses_10 rfl (lv_at hl 3 rfl) ?_
  refine va_put (ci := 10) (v := .int (x3)) (ty := .int) hx hb hts h_X11 tyX11 tyX11_ok nmX11 hown hK hP hD hS 0 rfl rfl 5 (by decide) f44 (fun _ h9 => h9) rfl (by decide +kernel) rfl rfl (Nat.le_of_ble_eq_true rfl) dX11_refuses_11 (fun H locs hP hD hS => ?_)
  have hP : va_P D vwCl (MW ct o (m_g v, m_fl v, m_ch v, m_sv v, x2, x3, m_li v, m_ld v, m_wt v, m_wm v, m_ln v, m_lz v, m_in v, m_ty v, m_he v, m_wa v, m_fa v, m_cm v, m_cz v) R) H := hP
  have hD : va_D A (MW ct o (m_g v, m_fl v, m_ch v, m_sv v, x2, x3, m_li v, m_ld v, m_wt v, m_wm v, m_ln v, m_lz v, m_in v, m_ty v, m_he v, m_wa v, m_fa v, m_cm v, m_cz v) R) := hD
  refine lv_aload_n hx hb dX11_refuses_14 rfl (lv_at hl 0 rfl) ?_
  refine lv_iconst (v := nI (0)) hx hb dX11_refuses_15 (by decide) ?_
  refine va_put (ci := 10) (v := .int (nI (0))) (ty := .int) hx hb hts h_X11 tyX11 tyX11_ok nmX11 hown hK hP hD hS 0 rfl rfl 6 (by decide) f47 (fun _ h9 => h9) rfl (by decide +kernel) rfl rfl (Nat.le_of_ble_eq_true rfl) dX11_refuses_16 (fun H locs hP hD hS => ?_)
  have hP : va_P D vwCl (MW ct o (m_g v, m_fl v, m_ch v, m_sv v, x2, x3, nI (0), m_ld v, m_wt v, m_wm v, m_ln v, m_lz v, m_in v, m_ty v, m_he v, m_wa v, m_fa v, m_cm v, m_cz v) R) H := hP
  have hD : va_D A (MW ct o (m_g v, m_fl v, m_ch v, m_sv v, x2, x3, nI (0), m_ld v, m_wt v, m_wm v, m_ln v, m_lz v, m_in v, m_ty v, m_he v, m_wa v, m_fa v, m_cm v, m_cz v) R) := hD
  refine lv_iload_n hx hb dX11_refuses_19 rfl (lv_at hl 1 rfl) ?_
  exact zZret () (by decide) hx hb hr hlocks hK hP hD hS dX11_refuses_20 (show nI (1) = nI (1) from rfl)
abbrev rmX11_refuses_f : Room := { frames := 0, cells := 0, slots := 0, locals := 0 }
set_option maxHeartbeats 4000000 in
set_option maxRecDepth 100000 in
theorem kX11_refuses_f {D : va_G} {ct : Nat → ClassId} {l : Launch} (o : Nat → Nat) (v : MS) (R : va_W) (x2 : Int32) (x3 : Int32) : MI D ct l yX11_refuses wsX11_refuses rmX11_refuses_f (MW ct o v R) [.ref (o 0), .int (nI (0)), .int (x2), .int (x3)] (fun r0 (_ : Unit) => r0 = nI (0)) (fun _ : Unit => MW ct o v R) := by
  refine MIof (cc := cX11_refuses) (maxL := 4) (ret := (some .boolean)) (by decide) rfl (Nat.le_of_ble_eq_true rfl) ?_
  intro p e s m args below meth c A H locs F hP hK hD hS hA ls hl
  obtain ⟨hx, hb, hr, hlocks, hml, hown, hts, hin⟩ := F
  have hl : lv_has ls 4 [(0, .ref (o 0)), (1, .int (nI (0))), (2, .int (x2)), (3, .int (x3))] := hl
  have f41 := hts (.fieldLink RX11 41 "CartArgumentsModel" "why" "I") (by decide +kernel)
  have f44 := hts (.fieldLink RX11 44 "CartArgumentsModel" "detail" "I") (by decide +kernel)
  have f47 := hts (.fieldLink RX11 47 "CartArgumentsModel" "lies" "I") (by decide +kernel)
  refine lv_iload_n hx hb dX11_refuses_0 rfl (lv_at hl 1 rfl) ?_
  refine lv_if_eq (tgt := 19) hx hb dX11_refuses_1 (by decide) (fun c9 => ?_) (fun c9 => absurd (by decide) c9)
  refine lv_iload_n hx hb dX11_refuses_19 rfl (lv_at hl 1 rfl) ?_
  exact zZret () (by decide) hx hb hr hlocks hK hP hD hS dX11_refuses_20 (show nI (0) = nI (0) from rfl)
abbrev rmX11_ends : Room := { frames := 1, cells := 0, slots := 0, locals := 23 }
theorem in_X11_ends_X11 : ∀ w ∈ u_ws RX11 TX11 19, w ∈ wsX11_ends := by decide +kernel
set_option maxHeartbeats 4000000 in
set_option maxRecDepth 100000 in
theorem kX11_ends {D : va_G} {ct : Nat → ClassId} {l : Launch} (o : Nat → Nat) (v : MS) (R : va_W) (x1 : Int32) (hch : m_ch v ≤ 8) : MI D ct l yX11_ends wsX11_ends rmX11_ends (MW ct o v R) [.ref (o 0), .int (x1)] (fun r0 (_ : Unit) => r0 = (F_ends v x1).1) (fun _ : Unit => MW ct o (F_ends v x1).2 R) := by
  refine MIof (cc := cX11_ends) (maxL := 3) (ret := (some .int)) (by decide) rfl (Nat.le_of_ble_eq_true rfl) ?_
  intro p e s m args below meth c A H locs F hP hK hD hS hA ls hl
  obtain ⟨hx, hb, hr, hlocks, hml, hown, hts, hin⟩ := F
  have hl : lv_has ls 3 [(0, .ref (o 0)), (1, .int (x1))] := hl
  have h_X11 := in_X11_ends_X11
  have f38 := hts (.fieldLink RX11 38 "CartArgumentsModel" "changes" "I") (by decide +kernel)
  refine lv_iload_n hx hb dX11_ends_0 rfl (lv_at hl 1 rfl) ?_
  refine lv_if_ge (tgt := 13) hx hb dX11_ends_1 (by decide) (fun c1_1 => ?_) (fun c1_1 => ?_)
  · skip
    refine lv_aload_n hx hb dX11_ends_13 rfl (lv_at hl 0 rfl) ?_
    refine va_get (ci := 10) (v := .int (nI (m_ch v))) hx hb hts h_X11 hown hK hP 0 rfl rfl 2 (by decide) f38 (fun _ h9 => h9) rfl dX11_ends_14 ?_
    refine lv_bipush (v := nI (8)) hx hb dX11_ends_17 (by decide) ?_
    refine zN_icmp_ne (tgt := 54) hx hb (by omega) (by omega) dX11_ends_19 (by decide) (fun c19_2 => ?_) (fun c19_2 => ?_)
    · skip
      refine lv_aload_n hx hb dX11_ends_54 rfl (lv_at hl 0 rfl) ?_
      refine lv_dup hx hb dX11_ends_55 rfl ?_
      refine va_get (ci := 10) (v := .int (nI (m_ch v))) hx hb hts h_X11 hown hK hP 0 rfl rfl 2 (by decide) f38 (fun _ h9 => h9) rfl dX11_ends_56 ?_
      refine lv_iconst (v := nI (1)) hx hb dX11_ends_59 (by decide) ?_
      refine zNadd hx hb dX11_ends_60 ?_
      refine va_put (ci := 10) (v := .int (nI ((m_ch v + 1)))) (ty := .int) hx hb hts h_X11 tyX11 tyX11_ok nmX11 hown hK hP hD hS 0 rfl rfl 2 (by decide) f38 (fun _ h9 => h9) rfl (by decide +kernel) rfl rfl (Nat.le_of_ble_eq_true rfl) dX11_ends_61 (fun H locs hP hD hS => ?_)
      have hP : va_P D vwCl (MW ct o (m_g v, m_fl v, (m_ch v + 1), m_sv v, m_why v, m_det v, m_li v, m_ld v, m_wt v, m_wm v, m_ln v, m_lz v, m_in v, m_ty v, m_he v, m_wa v, m_fa v, m_cm v, m_cz v) R) H := hP
      have hD : va_D A (MW ct o (m_g v, m_fl v, (m_ch v + 1), m_sv v, m_why v, m_det v, m_li v, m_ld v, m_wt v, m_wm v, m_ln v, m_lz v, m_in v, m_ty v, m_he v, m_wa v, m_fa v, m_cm v, m_cz v) R) := hD
      refine lv_aload_n hx hb dX11_ends_64 rfl (lv_at hl 0 rfl) ?_
      refine lv_bipush (v := nI (10)) hx hb dX11_ends_65 (by decide) ?_
      refine lv_aload_n hx hb dX11_ends_67 rfl (lv_at hl 0 rfl) ?_
      refine va_get (ci := 10) (v := .int (nI ((m_ch v + 1)))) hx hb hts h_X11 hown hK hP 0 rfl rfl 2 (by decide) f38 (fun _ h9 => h9) rfl dX11_ends_68 ?_
      refine zVV [.int (nI (10)), .int (nI ((m_ch v + 1)))] [] (kX11_copies (o) ((m_g v, m_fl v, (m_ch v + 1), m_sv v, m_why v, m_det v, m_li v, m_ld v, m_wt v, m_wm v, m_ln v, m_lz v, m_in v, m_ty v, m_he v, m_wa v, m_fa v, m_cm v, m_cz v)) (R) (10) ((m_ch v + 1)) (show (10) < 12 from by omega) (show ((m_ch v + 1)) < 12 from by omega)) hx hb hml hown hts (cwV 2 hts gX11_ends_X11_copies rfl rfl rfl (by decide +kernel) ⟨(Nat.le_of_ble_eq_true rfl), (Nat.le_of_ble_eq_true rfl)⟩) hK hP hD hS hA (va_recv hK hP (ci := 10) (q0 := 0) rfl rfl) rfl hl.1 rfl (Nat.le_of_ble_eq_true rfl) dX11_ends_71 ⟨(Nat.le_of_ble_eq_true rfl), (Nat.le_of_ble_eq_true rfl)⟩ (fun _ H locs hr_71 hP hD hS => ?_)
      have hP : va_P D vwCl (MW ct o ((cpb (m_g v) 81 (10) ((m_ch v + 1)) 81), (cpf (m_fl v) 9 (10) ((m_ch v + 1)) 9), (m_ch v + 1), (m_sv v), (m_why v), (m_det v), (m_li v), (m_ld v), (m_wt v), (m_wm v), (m_ln v), (m_lz v), (m_in v), (m_ty v), (m_he v), (m_wa v), (m_fa v), (m_cm v), (m_cz v)) R) H := hP
      have hD : va_D A (MW ct o ((cpb (m_g v) 81 (10) ((m_ch v + 1)) 81), (cpf (m_fl v) 9 (10) ((m_ch v + 1)) 9), (m_ch v + 1), (m_sv v), (m_why v), (m_det v), (m_li v), (m_ld v), (m_wt v), (m_wm v), (m_ln v), (m_lz v), (m_in v), (m_ty v), (m_he v), (m_wa v), (m_fa v), (m_cm v), (m_cz v)) R) := hD
      refine lv_iload_n hx hb dX11_ends_74 rfl (lv_at hl 1 rfl) ?_
      have e9 : F_ends v x1 = (x1, ((cpb (m_g v) 81 (10) ((m_ch v + 1)) 81), (cpf (m_fl v) 9 (10) ((m_ch v + 1)) 9), (m_ch v + 1), (m_sv v), (m_why v), (m_det v), (m_li v), (m_ld v), (m_wt v), (m_wm v), (m_ln v), (m_lz v), (m_in v), (m_ty v), (m_he v), (m_wa v), (m_fa v), (m_cm v), (m_cz v))) := (by simp only [F_ends, mRef, mG, mGF, mGFC, ixI, setAt, setG, yMove, nI_sub1, c1_1, c19_2, p_in, p_worn, p_wi, p_creak, p_le0, p_lt1, p_rng, pmT, pmC, not_true_eq_false, not_false_eq_true, if_true, if_false, and_true, true_and, and_false, false_and, or_true, true_or, or_false, false_or, and_self, or_self, iff_true, true_iff, iff_false, false_iff, decide_eq_true_eq, decide_true, decide_false, Int32.add_zero, Nat.add_zero, ne_eq, Bool.false_eq_true, eq_self])
      exact zIret () hx hb hr hlocks hK (by show va_P D vwCl (MW ct o (F_ends v x1).2 R) H; rw [e9]; exact hP) (by show va_D A (MW ct o (F_ends v x1).2 R); rw [e9]; exact hD) hS dX11_ends_75 (show x1 = (F_ends v x1).1 from (by rw [e9]))
    · skip
      refine lv_iconst (v := nI (1)) hx hb dX11_ends_22 (by decide) ?_
      refine lv_istore_n (lv' := [(2, .int (nI (1))), (0, .ref (o 0)), (1, .int (x1))]) hx hb dX11_ends_23 rfl hl (by decide) rfl (fun ls hl => ?_)
      have lp24 : ∀ (fu : Nat) (k : Nat) (H : Heap) (locs : List Loc) (ls : Array Slot), (1 ≤ k) → (k ≤ 8) → 8 - k < fu → va_P D vwCl (MW ct o ((shB (m_g v) (k - 1)), (shF (m_fl v) (k - 1)), m_ch v, m_sv v, m_why v, m_det v, m_li v, m_ld v, m_wt v, m_wm v, m_ln v, m_lz v, m_in v, m_ty v, m_he v, m_wa v, m_fa v, m_cm v, m_cz v) R) H → va_D A (MW ct o ((shB (m_g v) (k - 1)), (shF (m_fl v) (k - 1)), m_ch v, m_sv v, m_why v, m_det v, m_li v, m_ld v, m_wt v, m_wm v, m_ln v, m_lz v, m_in v, m_ty v, m_he v, m_wa v, m_fa v, m_cm v, m_cz v) R) → va_S A s.heap H locs → lv_has ls 3 [(0, .ref (o 0)), (1, .int (x1)), (2, .int (nI (k)))] → W p l e rmX11_ends s m args below meth c H locs 0 0 (MQ below (va_Qi (fun r0 (_ : Unit) => r0 = (F_ends v x1).1) (zB D ct A (fun _ : Unit => MW ct o (F_ends v x1).2 R)) A) args s rmX11_ends.cells rmX11_ends.slots A) (F0 m 24 ls []) := by
        intro fu
        induction fu with
        | zero => intro k H locs ls hk1 hk8 hfu; exact absurd hfu (Nat.not_lt_zero _)
        | succ fu ih24 =>
          intro k H locs ls hk1 hk8 hfu hP hD hS hl
          refine lv_iload_n hx hb dX11_ends_24 rfl (lv_at hl 2 rfl) ?_
          refine lv_bipush (v := nI (8)) hx hb dX11_ends_25 (by decide) ?_
          refine zN_icmp_ge (tgt := 44) hx hb (by omega) (by omega) dX11_ends_27 (by decide) (fun c27_3 => ?_) (fun c27_3 => ?_)
          · skip
            obtain rfl : k = 8 := by omega
            have hP : va_P D vwCl (MW ct o ((shB (m_g v) 7), (shF (m_fl v) 7), m_ch v, m_sv v, m_why v, m_det v, m_li v, m_ld v, m_wt v, m_wm v, m_ln v, m_lz v, m_in v, m_ty v, m_he v, m_wa v, m_fa v, m_cm v, m_cz v) R) H := hP
            have hD : va_D A (MW ct o ((shB (m_g v) 7), (shF (m_fl v) 7), m_ch v, m_sv v, m_why v, m_det v, m_li v, m_ld v, m_wt v, m_wm v, m_ln v, m_lz v, m_in v, m_ty v, m_he v, m_wa v, m_fa v, m_cm v, m_cz v) R) := hD
            refine lv_aload_n hx hb dX11_ends_44 rfl (lv_at hl 0 rfl) ?_
            refine lv_dup hx hb dX11_ends_45 rfl ?_
            refine va_get (ci := 10) (v := .int (nI (m_ch v))) hx hb hts h_X11 hown hK hP 0 rfl rfl 2 (by decide) f38 (fun _ h9 => h9) rfl dX11_ends_46 ?_
            refine lv_iconst (v := nI (1)) hx hb dX11_ends_49 (by decide) ?_
            refine zNsub hx hb (by omega) dX11_ends_50 ?_
            refine va_put (ci := 10) (v := .int (nI ((m_ch v - 1)))) (ty := .int) hx hb hts h_X11 tyX11 tyX11_ok nmX11 hown hK hP hD hS 0 rfl rfl 2 (by decide) f38 (fun _ h9 => h9) rfl (by decide +kernel) rfl rfl (Nat.le_of_ble_eq_true rfl) dX11_ends_51 (fun H locs hP hD hS => ?_)
            have hP : va_P D vwCl (MW ct o ((shB (m_g v) 7), (shF (m_fl v) 7), (m_ch v - 1), m_sv v, m_why v, m_det v, m_li v, m_ld v, m_wt v, m_wm v, m_ln v, m_lz v, m_in v, m_ty v, m_he v, m_wa v, m_fa v, m_cm v, m_cz v) R) H := hP
            have hD : va_D A (MW ct o ((shB (m_g v) 7), (shF (m_fl v) 7), (m_ch v - 1), m_sv v, m_why v, m_det v, m_li v, m_ld v, m_wt v, m_wm v, m_ln v, m_lz v, m_in v, m_ty v, m_he v, m_wa v, m_fa v, m_cm v, m_cz v) R) := hD
            refine lv_aload_n hx hb dX11_ends_54 rfl (lv_at hl 0 rfl) ?_
            refine lv_dup hx hb dX11_ends_55 rfl ?_
            refine va_get (ci := 10) (v := .int (nI ((m_ch v - 1)))) hx hb hts h_X11 hown hK hP 0 rfl rfl 2 (by decide) f38 (fun _ h9 => h9) rfl dX11_ends_56 ?_
            refine lv_iconst (v := nI (1)) hx hb dX11_ends_59 (by decide) ?_
            refine zNadd hx hb dX11_ends_60 ?_
            refine va_put (ci := 10) (v := .int (nI (((m_ch v - 1) + 1)))) (ty := .int) hx hb hts h_X11 tyX11 tyX11_ok nmX11 hown hK hP hD hS 0 rfl rfl 2 (by decide) f38 (fun _ h9 => h9) rfl (by decide +kernel) rfl rfl (Nat.le_of_ble_eq_true rfl) dX11_ends_61 (fun H locs hP hD hS => ?_)
            have hP : va_P D vwCl (MW ct o ((shB (m_g v) 7), (shF (m_fl v) 7), ((m_ch v - 1) + 1), m_sv v, m_why v, m_det v, m_li v, m_ld v, m_wt v, m_wm v, m_ln v, m_lz v, m_in v, m_ty v, m_he v, m_wa v, m_fa v, m_cm v, m_cz v) R) H := hP
            have hD : va_D A (MW ct o ((shB (m_g v) 7), (shF (m_fl v) 7), ((m_ch v - 1) + 1), m_sv v, m_why v, m_det v, m_li v, m_ld v, m_wt v, m_wm v, m_ln v, m_lz v, m_in v, m_ty v, m_he v, m_wa v, m_fa v, m_cm v, m_cz v) R) := hD
            refine lv_aload_n hx hb dX11_ends_64 rfl (lv_at hl 0 rfl) ?_
            refine lv_bipush (v := nI (10)) hx hb dX11_ends_65 (by decide) ?_
            refine lv_aload_n hx hb dX11_ends_67 rfl (lv_at hl 0 rfl) ?_
            refine va_get (ci := 10) (v := .int (nI (((m_ch v - 1) + 1)))) hx hb hts h_X11 hown hK hP 0 rfl rfl 2 (by decide) f38 (fun _ h9 => h9) rfl dX11_ends_68 ?_
            refine zVV [.int (nI (10)), .int (nI (((m_ch v - 1) + 1)))] [] (kX11_copies (o) (((shB (m_g v) 7), (shF (m_fl v) 7), ((m_ch v - 1) + 1), m_sv v, m_why v, m_det v, m_li v, m_ld v, m_wt v, m_wm v, m_ln v, m_lz v, m_in v, m_ty v, m_he v, m_wa v, m_fa v, m_cm v, m_cz v)) (R) (10) (((m_ch v - 1) + 1)) (show (10) < 12 from by omega) (show (((m_ch v - 1) + 1)) < 12 from by omega)) hx hb hml hown hts (cwV 2 hts gX11_ends_X11_copies rfl rfl rfl (by decide +kernel) ⟨(Nat.le_of_ble_eq_true rfl), (Nat.le_of_ble_eq_true rfl)⟩) hK hP hD hS hA (va_recv hK hP (ci := 10) (q0 := 0) rfl rfl) rfl hl.1 rfl (Nat.le_of_ble_eq_true rfl) dX11_ends_71 ⟨(Nat.le_of_ble_eq_true rfl), (Nat.le_of_ble_eq_true rfl)⟩ (fun _ H locs hr_71 hP hD hS => ?_)
            have hP : va_P D vwCl (MW ct o ((cpb ((shB (m_g v) 7)) 81 (10) (((m_ch v - 1) + 1)) 81), (cpf ((shF (m_fl v) 7)) 9 (10) (((m_ch v - 1) + 1)) 9), ((m_ch v - 1) + 1), (m_sv v), (m_why v), (m_det v), (m_li v), (m_ld v), (m_wt v), (m_wm v), (m_ln v), (m_lz v), (m_in v), (m_ty v), (m_he v), (m_wa v), (m_fa v), (m_cm v), (m_cz v)) R) H := hP
            have hD : va_D A (MW ct o ((cpb ((shB (m_g v) 7)) 81 (10) (((m_ch v - 1) + 1)) 81), (cpf ((shF (m_fl v) 7)) 9 (10) (((m_ch v - 1) + 1)) 9), ((m_ch v - 1) + 1), (m_sv v), (m_why v), (m_det v), (m_li v), (m_ld v), (m_wt v), (m_wm v), (m_ln v), (m_lz v), (m_in v), (m_ty v), (m_he v), (m_wa v), (m_fa v), (m_cm v), (m_cz v)) R) := hD
            refine lv_iload_n hx hb dX11_ends_74 rfl (lv_at hl 1 rfl) ?_
            have e9 : F_ends v x1 = (x1, ((cpb ((shB (m_g v) 7)) 81 (10) (((m_ch v - 1) + 1)) 81), (cpf ((shF (m_fl v) 7)) 9 (10) (((m_ch v - 1) + 1)) 9), ((m_ch v - 1) + 1), (m_sv v), (m_why v), (m_det v), (m_li v), (m_ld v), (m_wt v), (m_wm v), (m_ln v), (m_lz v), (m_in v), (m_ty v), (m_he v), (m_wa v), (m_fa v), (m_cm v), (m_cz v))) := (by simp only [F_ends, mRef, mG, mGF, mGFC, ixI, setAt, setG, yMove, nI_sub1, c1_1, eq_true c19_2, show m_ch v = 8 from c19_2, c27_3, p_in, p_worn, p_wi, p_creak, p_le0, p_lt1, p_rng, pmT, pmC, not_true_eq_false, not_false_eq_true, if_true, if_false, and_true, true_and, and_false, false_and, or_true, true_or, or_false, false_or, and_self, or_self, iff_true, true_iff, iff_false, false_iff, decide_eq_true_eq, decide_true, decide_false, Int32.add_zero, Nat.add_zero, ne_eq, Bool.false_eq_true, eq_self])
            exact zIret () hx hb hr hlocks hK (by show va_P D vwCl (MW ct o (F_ends v x1).2 R) H; rw [e9]; exact hP) (by show va_D A (MW ct o (F_ends v x1).2 R); rw [e9]; exact hD) hS dX11_ends_75 (show x1 = (F_ends v x1).1 from (by rw [e9]))
          · skip
            refine lv_aload_n hx hb dX11_ends_30 rfl (lv_at hl 0 rfl) ?_
            refine lv_iload_n hx hb dX11_ends_31 rfl (lv_at hl 2 rfl) ?_
            refine lv_iconst (v := nI (1)) hx hb dX11_ends_32 (by decide) ?_
            refine zNadd hx hb dX11_ends_33 ?_
            refine lv_iload_n hx hb dX11_ends_34 rfl (lv_at hl 2 rfl) ?_
            refine zVV [.int (nI ((k + 1))), .int (nI (k))] [] (kX11_copies (o) (((shB (m_g v) (k - 1)), (shF (m_fl v) (k - 1)), m_ch v, m_sv v, m_why v, m_det v, m_li v, m_ld v, m_wt v, m_wm v, m_ln v, m_lz v, m_in v, m_ty v, m_he v, m_wa v, m_fa v, m_cm v, m_cz v)) (R) ((k + 1)) (k) (show ((k + 1)) < 12 from by omega) (show (k) < 12 from by omega)) hx hb hml hown hts (cwV 2 hts gX11_ends_X11_copies rfl rfl rfl (by decide +kernel) ⟨(Nat.le_of_ble_eq_true rfl), (Nat.le_of_ble_eq_true rfl)⟩) hK hP hD hS hA (va_recv hK hP (ci := 10) (q0 := 0) rfl rfl) rfl hl.1 rfl (Nat.le_of_ble_eq_true rfl) dX11_ends_35 ⟨(Nat.le_of_ble_eq_true rfl), (Nat.le_of_ble_eq_true rfl)⟩ (fun _ H locs hr_35 hP hD hS => ?_)
            have hP : va_P D vwCl (MW ct o ((cpb ((shB (m_g v) (k - 1))) 81 ((k + 1)) (k) 81), (cpf ((shF (m_fl v) (k - 1))) 9 ((k + 1)) (k) 9), (m_ch v), (m_sv v), (m_why v), (m_det v), (m_li v), (m_ld v), (m_wt v), (m_wm v), (m_ln v), (m_lz v), (m_in v), (m_ty v), (m_he v), (m_wa v), (m_fa v), (m_cm v), (m_cz v)) R) H := hP
            have hD : va_D A (MW ct o ((cpb ((shB (m_g v) (k - 1))) 81 ((k + 1)) (k) 81), (cpf ((shF (m_fl v) (k - 1))) 9 ((k + 1)) (k) 9), (m_ch v), (m_sv v), (m_why v), (m_det v), (m_li v), (m_ld v), (m_wt v), (m_wm v), (m_ln v), (m_lz v), (m_in v), (m_ty v), (m_he v), (m_wa v), (m_fa v), (m_cm v), (m_cz v)) R) := hD
            refine lv_iinc (v := nI ((k + 1))) (lv' := [(2, .int (nI ((k + 1)))), (0, .ref (o 0)), (1, .int (x1))]) hx hb dX11_ends_38 hl (k := 2) rfl (zInc _) (by decide) rfl (fun ls hl => ?_)
            refine lv_goto (tgt := 24) hx hb dX11_ends_41 (by decide) ?_
            have hP : va_P D vwCl (MW ct o ((shB (m_g v) (k + 1 - 1)), (shF (m_fl v) (k + 1 - 1)), (m_ch v), (m_sv v), (m_why v), (m_det v), (m_li v), (m_ld v), (m_wt v), (m_wm v), (m_ln v), (m_lz v), (m_in v), (m_ty v), (m_he v), (m_wa v), (m_fa v), (m_cm v), (m_cz v)) R) H := by rw [← shB_s hk1, ← shF_s hk1]; exact hP
            have hD : va_D A (MW ct o ((shB (m_g v) (k + 1 - 1)), (shF (m_fl v) (k + 1 - 1)), (m_ch v), (m_sv v), (m_why v), (m_det v), (m_li v), (m_ld v), (m_wt v), (m_wm v), (m_ln v), (m_lz v), (m_in v), (m_ty v), (m_he v), (m_wa v), (m_fa v), (m_cm v), (m_cz v)) R) := by rw [← shB_s hk1, ← shF_s hk1]; exact hD
            exact ih24 ((k + 1)) H locs ls (by omega) (by omega) (by omega) hP hD hS (lv_sub hl [1, 2, 0] rfl)
      exact lp24 ((8 - (1)) + 1) (1) H locs ls (by omega) (by omega) (Nat.lt_succ_self _) hP hD hS (lv_sub hl [1, 2, 0] rfl)
  · skip
    refine lv_aload_n hx hb dX11_ends_4 rfl (lv_at hl 0 rfl) ?_
    refine lv_bipush (v := nI (10)) hx hb dX11_ends_5 (by decide) ?_
    refine lv_iconst (v := nI (0)) hx hb dX11_ends_7 (by decide) ?_
    refine zVV [.int (nI (10)), .int (nI (0))] [] (kX11_copies (o) (v) (R) (10) (0) (show (10) < 12 from by omega) (show (0) < 12 from by omega)) hx hb hml hown hts (cwV 2 hts gX11_ends_X11_copies rfl rfl rfl (by decide +kernel) ⟨(Nat.le_of_ble_eq_true rfl), (Nat.le_of_ble_eq_true rfl)⟩) hK hP hD hS hA (va_recv hK hP (ci := 10) (q0 := 0) rfl rfl) rfl hl.1 rfl (Nat.le_of_ble_eq_true rfl) dX11_ends_8 ⟨(Nat.le_of_ble_eq_true rfl), (Nat.le_of_ble_eq_true rfl)⟩ (fun _ H locs hr_8 hP hD hS => ?_)
    have hP : va_P D vwCl (MW ct o ((cpb (m_g v) 81 (10) (0) 81), (cpf (m_fl v) 9 (10) (0) 9), (m_ch v), (m_sv v), (m_why v), (m_det v), (m_li v), (m_ld v), (m_wt v), (m_wm v), (m_ln v), (m_lz v), (m_in v), (m_ty v), (m_he v), (m_wa v), (m_fa v), (m_cm v), (m_cz v)) R) H := hP
    have hD : va_D A (MW ct o ((cpb (m_g v) 81 (10) (0) 81), (cpf (m_fl v) 9 (10) (0) 9), (m_ch v), (m_sv v), (m_why v), (m_det v), (m_li v), (m_ld v), (m_wt v), (m_wm v), (m_ln v), (m_lz v), (m_in v), (m_ty v), (m_he v), (m_wa v), (m_fa v), (m_cm v), (m_cz v)) R) := hD
    refine lv_iload_n hx hb dX11_ends_11 rfl (lv_at hl 1 rfl) ?_
    have e9 : F_ends v x1 = (x1, ((cpb (m_g v) 81 (10) (0) 81), (cpf (m_fl v) 9 (10) (0) 9), (m_ch v), (m_sv v), (m_why v), (m_det v), (m_li v), (m_ld v), (m_wt v), (m_wm v), (m_ln v), (m_lz v), (m_in v), (m_ty v), (m_he v), (m_wa v), (m_fa v), (m_cm v), (m_cz v))) := (by simp only [F_ends, mRef, mG, mGF, mGFC, ixI, setAt, setG, yMove, nI_sub1, c1_1, p_in, p_worn, p_wi, p_creak, p_le0, p_lt1, p_rng, pmT, pmC, not_true_eq_false, not_false_eq_true, if_true, if_false, and_true, true_and, and_false, false_and, or_true, true_or, or_false, false_or, and_self, or_self, iff_true, true_iff, iff_false, false_iff, decide_eq_true_eq, decide_true, decide_false, Int32.add_zero, Nat.add_zero, ne_eq, Bool.false_eq_true, eq_self])
    exact zIret () hx hb hr hlocks hK (by show va_P D vwCl (MW ct o (F_ends v x1).2 R) H; rw [e9]; exact hP) (by show va_D A (MW ct o (F_ends v x1).2 R); rw [e9]; exact hD) hS dX11_ends_12 (show x1 = (F_ends v x1).1 from (by rw [e9]))
abbrev rmX11_adds : Room := { frames := 1, cells := 0, slots := 0, locals := 23 }
theorem in_X11_adds_X11 : ∀ w ∈ u_ws RX11 TX11 19, w ∈ wsX11_adds := by decide +kernel
set_option maxHeartbeats 4000000 in
set_option maxRecDepth 100000 in
theorem kX11_adds {D : va_G} {ct : Nat → ClassId} {l : Launch} (o : Nat → Nat) (v : MS) (R : va_W) (x1 : Int32) (x2 : Int32) (y : YS) (hB : y_n y ≤ 12 ∧ y_cn y ≤ 4 ∧ y_rn y ≤ 5) (hq : RelI y (m_g v)) : MI D ct l yX11_adds wsX11_adds rmX11_adds (MW ct o v R) [.ref (o 0), .int (x1), .int (x2)] (fun r0 (_ : Unit) => r0 = (F_adds y v x1 x2).1) (fun _ : Unit => MW ct o (F_adds y v x1 x2).2 R) := by
  refine MIof (cc := cX11_adds) (maxL := 5) (ret := (some .int)) (by decide) rfl (Nat.le_of_ble_eq_true rfl) ?_
  intro p e s m args below meth c A H locs F hP hK hD hS hA ls hl
  obtain ⟨hx, hb, hr, hlocks, hml, hown, hts, hin⟩ := F
  have hl : lv_has ls 5 [(0, .ref (o 0)), (1, .int (x1)), (2, .int (x2))] := hl
  have hn : y_n y ≤ 12 := hB.1
  have hcn : y_cn y ≤ 4 := hB.2.1
  have hrn : y_rn y ≤ 5 := hB.2.2
  have h_X11 := in_X11_adds_X11
  have f9 := hts (.fieldLink RX11 9 "CartArgumentsModel" "all" "[I") (by decide +kernel)
  refine lv_iload_n hx hb dX11_adds_0 rfl (lv_at hl 2 rfl) ?_
  refine lv_iconst (v := nI (1)) hx hb dX11_adds_1 (by decide) ?_
  refine lv_iload_n hx hb dX11_adds_2 rfl (lv_at hl 1 rfl) ?_
  refine lv_iconst (v := nI (1)) hx hb dX11_adds_3 (by decide) ?_
  refine lv_icmp_ne (tgt := 12) hx hb dX11_adds_4 (by decide) (fun c4_1 => ?_) (fun c4_1 => ?_)
  · skip
    refine lv_bipush (v := nI (9)) hx hb dX11_adds_12 (by decide) ?_
    refine zSI [.int (x2), .int (nI (1)), .int (nI (9))] [] (kX11_in (MW ct o v R) (x2) (nI (1)) (nI (9))) hx hb hml hown hts (va_cwS 3 hts gX11_adds_X11_in rfl rfl rfl (by decide +kernel) ⟨(Nat.le_of_ble_eq_true rfl), (Nat.le_of_ble_eq_true rfl)⟩) hK hP hD hS hA rfl hl.1 rfl (Nat.le_of_ble_eq_true rfl) dX11_adds_14 ⟨(Nat.le_of_ble_eq_true rfl), (Nat.le_of_ble_eq_true rfl)⟩ (fun r_14 _ H locs hr_14 hP hD hS => ?_)
    subst hr_14
    have hP : va_P D vwCl (MW ct o v R) H := hP
    have hD : va_D A (MW ct o v R) := hD
    refine zB_if_ne (tgt := 23) hx hb dX11_adds_17 (by decide) (fun c17_2 => ?_) (fun c17_2 => ?_)
    · skip
      refine lv_aload_n hx hb dX11_adds_23 rfl (lv_at hl 0 rfl) ?_
      refine va_get (ci := 10) (v := .ref (o 1)) hx hb hts h_X11 hown hK hP 0 rfl rfl 0 (by decide) f9 (fun _ h9 => h9) rfl dX11_adds_24 ?_
      refine lv_iconst (v := nI (0)) hx hb dX11_adds_27 (by decide) ?_
      refine zIald (n := 972) (f := m_g v) (i := 0) hx hb hK hP 1 rfl (by omega) (by decide) dX11_adds_28 ?_
      refine zTop (y := nI (y_n y)) hq.1 ?_
      refine lv_istore_n (lv' := [(3, .int (nI (y_n y))), (0, .ref (o 0)), (1, .int (x1)), (2, .int (x2))]) hx hb dX11_adds_29 rfl hl (by decide) rfl (fun ls hl => ?_)
      refine lv_aload_n hx hb dX11_adds_30 rfl (lv_at hl 1 rfl) ?_
      refine lv_iload_n hx hb dX11_adds_31 rfl (lv_at hl 0 rfl) ?_
      refine lv_bipush (v := nI (12)) hx hb dX11_adds_32 (by decide) ?_
      refine zN_icmp_ne (tgt := 41) hx hb (by omega) (by omega) dX11_adds_34 (by decide) (fun c34_3 => ?_) (fun c34_3 => ?_)
      · skip
        refine lv_iconst (v := nI (0)) hx hb dX11_adds_41 (by decide) ?_
        refine lv_iconst (v := nI (1)) hx hb dX11_adds_42 (by decide) ?_
        refine lv_bipush (v := nI (12)) hx hb dX11_adds_43 (by decide) ?_
        refine zVI [.int (nI (0)), .int (nI (1)), .int (nI (12))] [] (kX11_refuses_f (o) (v) (R) (nI (1)) (nI (12))) hx hb hml hown hts (cwV 3 hts gX11_adds_X11_refuses rfl rfl rfl (by decide +kernel) ⟨(Nat.le_of_ble_eq_true rfl), (Nat.le_of_ble_eq_true rfl)⟩) hK hP hD hS hA (va_recv hK hP (ci := 10) (q0 := 0) rfl rfl) rfl hl.1 rfl (Nat.le_of_ble_eq_true rfl) dX11_adds_45 ⟨(Nat.le_of_ble_eq_true rfl), (Nat.le_of_ble_eq_true rfl)⟩ (fun r_45 _ H locs hr_45 hP hD hS => ?_)
        subst hr_45
        have hP : va_P D vwCl (MW ct o v R) H := hP
        have hD : va_D A (MW ct o v R) := hD
        refine lv_if_eq (tgt := 54) hx hb dX11_adds_48 (by decide) (fun c9 => ?_) (fun c9 => absurd (by decide) c9)
        refine lv_aload_n hx hb dX11_adds_54 rfl (lv_at hl 1 rfl) ?_
        refine va_get (ci := 10) (v := .ref (o 1)) hx hb hts h_X11 hown hK hP 0 rfl rfl 0 (by decide) f9 (fun _ h9 => h9) rfl dX11_adds_55 ?_
        refine lv_iconst (v := nI (0)) hx hb dX11_adds_58 (by decide) ?_
        refine lv_dup2_11 hx hb dX11_adds_59 rfl rfl ?_
        refine zIald (n := 972) (f := m_g v) (i := 0) hx hb hK hP 1 rfl (by omega) (by decide) dX11_adds_60 ?_
        refine zTop (y := nI (y_n y)) hq.1 ?_
        refine lv_iconst (v := nI (1)) hx hb dX11_adds_61 (by decide) ?_
        refine zNadd hx hb dX11_adds_62 ?_
        refine zIast (n := 972) (f := m_g v) (i := 0) hx hb hK hP hD hS 1 rfl (by omega) (by decide) dX11_adds_63 (fun H locs hP hD hS => ?_)
        have hP : va_P D vwCl (MW ct o ((upd (m_g v) (0) (nI ((y_n y + 1)))), m_fl v, m_ch v, m_sv v, m_why v, m_det v, m_li v, m_ld v, m_wt v, m_wm v, m_ln v, m_lz v, m_in v, m_ty v, m_he v, m_wa v, m_fa v, m_cm v, m_cz v) R) H := hP
        have hD : va_D A (MW ct o ((upd (m_g v) (0) (nI ((y_n y + 1)))), m_fl v, m_ch v, m_sv v, m_why v, m_det v, m_li v, m_ld v, m_wt v, m_wm v, m_ln v, m_lz v, m_in v, m_ty v, m_he v, m_wa v, m_fa v, m_cm v, m_cz v) R) := hD
        refine lv_iconst (v := nI (0)) hx hb dX11_adds_64 (by decide) ?_
        refine lv_istore (lv' := [(4, .int (nI (0))), (3, .int (nI (y_n y))), (0, .ref (o 0)), (1, .int (x1)), (2, .int (x2))]) hx hb dX11_adds_65 hl (by decide) rfl (fun ls hl => ?_)
        have lp67 : ∀ (fu : Nat) (j : Nat) (H : Heap) (locs : List Loc) (ls : Array Slot), (j ≤ 4) → 4 - j < fu → va_P D vwCl (MW ct o ((zr4 (upd (m_g v) (0) (nI (y_n y + 1))) (5 + 4 * y_n y) j), m_fl v, m_ch v, m_sv v, m_why v, m_det v, m_li v, m_ld v, m_wt v, m_wm v, m_ln v, m_lz v, m_in v, m_ty v, m_he v, m_wa v, m_fa v, m_cm v, m_cz v) R) H → va_D A (MW ct o ((zr4 (upd (m_g v) (0) (nI (y_n y + 1))) (5 + 4 * y_n y) j), m_fl v, m_ch v, m_sv v, m_why v, m_det v, m_li v, m_ld v, m_wt v, m_wm v, m_ln v, m_lz v, m_in v, m_ty v, m_he v, m_wa v, m_fa v, m_cm v, m_cz v) R) → va_S A s.heap H locs → lv_has ls 5 [(0, .ref (o 0)), (1, .int (x1)), (2, .int (x2)), (3, .int (nI (y_n y))), (4, .int (nI (j)))] → W p l e rmX11_adds s m args below meth c H locs 0 0 (MQ below (va_Qi (fun r0 (_ : Unit) => r0 = (F_adds y v x1 x2).1) (zB D ct A (fun _ : Unit => MW ct o (F_adds y v x1 x2).2 R)) A) args s rmX11_adds.cells rmX11_adds.slots A) (F0 m 67 ls []) := by
          intro fu
          induction fu with
          | zero => intro j H locs ls hj hfu; exact absurd hfu (Nat.not_lt_zero _)
          | succ fu ih67 =>
            intro j H locs ls hj hfu hP hD hS hl
            refine lv_iload hx hb dX11_adds_67 (lv_at hl 4 rfl) ?_
            refine lv_iconst (v := nI (4)) hx hb dX11_adds_69 (by decide) ?_
            refine zN_icmp_ge (tgt := 93) hx hb (by omega) (by omega) dX11_adds_70 (by decide) (fun c70_5 => ?_) (fun c70_5 => ?_)
            · skip
              obtain rfl : j = 4 := by omega
              refine lv_aload_n hx hb dX11_adds_93 rfl (lv_at hl 0 rfl) ?_
              refine va_get (ci := 10) (v := .ref (o 1)) hx hb hts h_X11 hown hK hP 0 rfl rfl 0 (by decide) f9 (fun _ h9 => h9) rfl dX11_adds_94 ?_
              refine lv_iconst (v := nI (5)) hx hb dX11_adds_97 (by decide) ?_
              refine lv_iconst (v := nI (4)) hx hb dX11_adds_98 (by decide) ?_
              refine lv_iload_n hx hb dX11_adds_99 rfl (lv_at hl 3 rfl) ?_
              refine zNmul hx hb dX11_adds_100 ?_
              refine zNadd hx hb dX11_adds_101 ?_
              refine lv_iconst (v := nI (0)) hx hb dX11_adds_102 (by decide) ?_
              refine zNadd hx hb dX11_adds_103 ?_
              refine lv_iload_n hx hb dX11_adds_104 rfl (lv_at hl 1 rfl) ?_
              refine zIast (n := 972) (f := (zr4 (upd (m_g v) (0) (nI (y_n y + 1))) (5 + 4 * y_n y) 4)) (i := ((5 + (4 * y_n y)) + 0)) hx hb hK hP hD hS 1 rfl (by omega) (by decide) dX11_adds_105 (fun H locs hP hD hS => ?_)
              have hP : va_P D vwCl (MW ct o ((upd ((zr4 (upd (m_g v) (0) (nI (y_n y + 1))) (5 + 4 * y_n y) 4)) (((5 + (4 * y_n y)) + 0)) (x1)), m_fl v, m_ch v, m_sv v, m_why v, m_det v, m_li v, m_ld v, m_wt v, m_wm v, m_ln v, m_lz v, m_in v, m_ty v, m_he v, m_wa v, m_fa v, m_cm v, m_cz v) R) H := hP
              have hD : va_D A (MW ct o ((upd ((zr4 (upd (m_g v) (0) (nI (y_n y + 1))) (5 + 4 * y_n y) 4)) (((5 + (4 * y_n y)) + 0)) (x1)), m_fl v, m_ch v, m_sv v, m_why v, m_det v, m_li v, m_ld v, m_wt v, m_wm v, m_ln v, m_lz v, m_in v, m_ty v, m_he v, m_wa v, m_fa v, m_cm v, m_cz v) R) := hD
              refine lv_aload_n hx hb dX11_adds_106 rfl (lv_at hl 0 rfl) ?_
              refine va_get (ci := 10) (v := .ref (o 1)) hx hb hts h_X11 hown hK hP 0 rfl rfl 0 (by decide) f9 (fun _ h9 => h9) rfl dX11_adds_107 ?_
              refine lv_iconst (v := nI (5)) hx hb dX11_adds_110 (by decide) ?_
              refine lv_iconst (v := nI (4)) hx hb dX11_adds_111 (by decide) ?_
              refine lv_iload_n hx hb dX11_adds_112 rfl (lv_at hl 3 rfl) ?_
              refine zNmul hx hb dX11_adds_113 ?_
              refine zNadd hx hb dX11_adds_114 ?_
              refine lv_iconst (v := nI (1)) hx hb dX11_adds_115 (by decide) ?_
              refine zNadd hx hb dX11_adds_116 ?_
              refine lv_iload_n hx hb dX11_adds_117 rfl (lv_at hl 2 rfl) ?_
              refine zIast (n := 972) (f := (upd ((zr4 (upd (m_g v) (0) (nI (y_n y + 1))) (5 + 4 * y_n y) 4)) (((5 + (4 * y_n y)) + 0)) (x1))) (i := ((5 + (4 * y_n y)) + 1)) hx hb hK hP hD hS 1 rfl (by omega) (by decide) dX11_adds_118 (fun H locs hP hD hS => ?_)
              have hP : va_P D vwCl (MW ct o ((upd ((upd ((zr4 (upd (m_g v) (0) (nI (y_n y + 1))) (5 + 4 * y_n y) 4)) (((5 + (4 * y_n y)) + 0)) (x1))) (((5 + (4 * y_n y)) + 1)) (x2)), m_fl v, m_ch v, m_sv v, m_why v, m_det v, m_li v, m_ld v, m_wt v, m_wm v, m_ln v, m_lz v, m_in v, m_ty v, m_he v, m_wa v, m_fa v, m_cm v, m_cz v) R) H := hP
              have hD : va_D A (MW ct o ((upd ((upd ((zr4 (upd (m_g v) (0) (nI (y_n y + 1))) (5 + 4 * y_n y) 4)) (((5 + (4 * y_n y)) + 0)) (x1))) (((5 + (4 * y_n y)) + 1)) (x2)), m_fl v, m_ch v, m_sv v, m_why v, m_det v, m_li v, m_ld v, m_wt v, m_wm v, m_ln v, m_lz v, m_in v, m_ty v, m_he v, m_wa v, m_fa v, m_cm v, m_cz v) R) := hD
              refine lv_iload_n hx hb dX11_adds_119 rfl (lv_at hl 3 rfl) ?_
              have e9 : F_adds y v x1 x2 = (nI (y_n y), ((upd ((upd ((zr4 (upd (m_g v) (0) (nI (y_n y + 1))) (5 + 4 * y_n y) 4)) (((5 + (4 * y_n y)) + 0)) (x1))) (((5 + (4 * y_n y)) + 1)) (x2)), m_fl v, m_ch v, m_sv v, m_why v, m_det v, m_li v, m_ld v, m_wt v, m_wm v, m_ln v, m_lz v, m_in v, m_ty v, m_he v, m_wa v, m_fa v, m_cm v, m_cz v)) := (by simp only [F_adds, mRef, mG, mGF, mGFC, ixI, setAt, setG, yMove, nI_sub1, c4_1, c17_2, c34_3, c70_5, p_in, p_worn, p_wi, p_creak, p_le0, p_lt1, p_rng, pmT, pmC, not_true_eq_false, not_false_eq_true, if_true, if_false, and_true, true_and, and_false, false_and, or_true, true_or, or_false, false_or, and_self, or_self, iff_true, true_iff, iff_false, false_iff, decide_eq_true_eq, decide_true, decide_false, Int32.add_zero, Nat.add_zero, ne_eq, Bool.false_eq_true, eq_self])
              exact zIret () hx hb hr hlocks hK (by show va_P D vwCl (MW ct o (F_adds y v x1 x2).2 R) H; rw [e9]; exact hP) (by show va_D A (MW ct o (F_adds y v x1 x2).2 R); rw [e9]; exact hD) hS dX11_adds_120 (show nI (y_n y) = (F_adds y v x1 x2).1 from (by rw [e9]))
            · skip
              refine lv_aload_n hx hb dX11_adds_73 rfl (lv_at hl 0 rfl) ?_
              refine va_get (ci := 10) (v := .ref (o 1)) hx hb hts h_X11 hown hK hP 0 rfl rfl 0 (by decide) f9 (fun _ h9 => h9) rfl dX11_adds_74 ?_
              refine lv_iconst (v := nI (5)) hx hb dX11_adds_77 (by decide) ?_
              refine lv_iconst (v := nI (4)) hx hb dX11_adds_78 (by decide) ?_
              refine lv_iload_n hx hb dX11_adds_79 rfl (lv_at hl 3 rfl) ?_
              refine zNmul hx hb dX11_adds_80 ?_
              refine zNadd hx hb dX11_adds_81 ?_
              refine lv_iload hx hb dX11_adds_82 (lv_at hl 4 rfl) ?_
              refine zNadd hx hb dX11_adds_84 ?_
              refine lv_iconst (v := nI (0)) hx hb dX11_adds_85 (by decide) ?_
              refine zIast (n := 972) (f := (zr4 (upd (m_g v) (0) (nI (y_n y + 1))) (5 + 4 * y_n y) j)) (i := ((5 + (4 * y_n y)) + j)) hx hb hK hP hD hS 1 rfl (by omega) (by decide) dX11_adds_86 (fun H locs hP hD hS => ?_)
              have hP : va_P D vwCl (MW ct o ((upd ((zr4 (upd (m_g v) (0) (nI (y_n y + 1))) (5 + 4 * y_n y) j)) (((5 + (4 * y_n y)) + j)) (nI (0))), m_fl v, m_ch v, m_sv v, m_why v, m_det v, m_li v, m_ld v, m_wt v, m_wm v, m_ln v, m_lz v, m_in v, m_ty v, m_he v, m_wa v, m_fa v, m_cm v, m_cz v) R) H := hP
              have hD : va_D A (MW ct o ((upd ((zr4 (upd (m_g v) (0) (nI (y_n y + 1))) (5 + 4 * y_n y) j)) (((5 + (4 * y_n y)) + j)) (nI (0))), m_fl v, m_ch v, m_sv v, m_why v, m_det v, m_li v, m_ld v, m_wt v, m_wm v, m_ln v, m_lz v, m_in v, m_ty v, m_he v, m_wa v, m_fa v, m_cm v, m_cz v) R) := hD
              refine lv_iinc (v := nI ((j + 1))) (lv' := [(4, .int (nI ((j + 1)))), (0, .ref (o 0)), (1, .int (x1)), (2, .int (x2)), (3, .int (nI (y_n y)))]) hx hb dX11_adds_87 hl (k := 4) rfl (zInc _) (by decide) rfl (fun ls hl => ?_)
              refine lv_goto (tgt := 67) hx hb dX11_adds_90 (by decide) ?_
              have hP : va_P D vwCl (MW ct o ((zr4 (upd (m_g v) (0) (nI (y_n y + 1))) (5 + 4 * y_n y) (j + 1)), m_fl v, m_ch v, m_sv v, m_why v, m_det v, m_li v, m_ld v, m_wt v, m_wm v, m_ln v, m_lz v, m_in v, m_ty v, m_he v, m_wa v, m_fa v, m_cm v, m_cz v) R) H := by rw [← zr4_s]; exact hP
              have hD : va_D A (MW ct o ((zr4 (upd (m_g v) (0) (nI (y_n y + 1))) (5 + 4 * y_n y) (j + 1)), m_fl v, m_ch v, m_sv v, m_why v, m_det v, m_li v, m_ld v, m_wt v, m_wm v, m_ln v, m_lz v, m_in v, m_ty v, m_he v, m_wa v, m_fa v, m_cm v, m_cz v) R) := by rw [← zr4_s]; exact hD
              exact ih67 ((j + 1)) H locs ls (by omega) (by omega) hP hD hS (lv_sub hl [1, 2, 3, 4, 0] rfl)
        have hP : va_P D vwCl (MW ct o ((zr4 (upd (m_g v) (0) (nI (y_n y + 1))) (5 + 4 * y_n y) (0)), m_fl v, m_ch v, m_sv v, m_why v, m_det v, m_li v, m_ld v, m_wt v, m_wm v, m_ln v, m_lz v, m_in v, m_ty v, m_he v, m_wa v, m_fa v, m_cm v, m_cz v) R) H := by rw [zr4_0]; exact hP
        have hD : va_D A (MW ct o ((zr4 (upd (m_g v) (0) (nI (y_n y + 1))) (5 + 4 * y_n y) (0)), m_fl v, m_ch v, m_sv v, m_why v, m_det v, m_li v, m_ld v, m_wt v, m_wm v, m_ln v, m_lz v, m_in v, m_ty v, m_he v, m_wa v, m_fa v, m_cm v, m_cz v) R) := by rw [zr4_0]; exact hD
        exact lp67 ((4 - (0)) + 1) (0) H locs ls (by omega) (Nat.lt_succ_self _) hP hD hS (lv_sub hl [2, 3, 4, 1, 0] rfl)
      · skip
        refine lv_iconst (v := nI (1)) hx hb dX11_adds_37 (by decide) ?_
        refine lv_goto (tgt := 42) hx hb dX11_adds_38 (by decide) ?_
        refine lv_iconst (v := nI (1)) hx hb dX11_adds_42 (by decide) ?_
        refine lv_bipush (v := nI (12)) hx hb dX11_adds_43 (by decide) ?_
        refine zVI [.int (nI (1)), .int (nI (1)), .int (nI (12))] [] (kX11_refuses_t (o) (v) (R) (nI (1)) (nI (12))) hx hb hml hown hts (cwV 3 hts gX11_adds_X11_refuses rfl rfl rfl (by decide +kernel) ⟨(Nat.le_of_ble_eq_true rfl), (Nat.le_of_ble_eq_true rfl)⟩) hK hP hD hS hA (va_recv hK hP (ci := 10) (q0 := 0) rfl rfl) rfl hl.1 rfl (Nat.le_of_ble_eq_true rfl) dX11_adds_45 ⟨(Nat.le_of_ble_eq_true rfl), (Nat.le_of_ble_eq_true rfl)⟩ (fun r_45 _ H locs hr_45 hP hD hS => ?_)
        subst hr_45
        have hP : va_P D vwCl (MW ct o ((m_g v), (m_fl v), (m_ch v), (m_sv v), (nI (1)), (nI (12)), (nI (0)), (m_ld v), (m_wt v), (m_wm v), (m_ln v), (m_lz v), (m_in v), (m_ty v), (m_he v), (m_wa v), (m_fa v), (m_cm v), (m_cz v)) R) H := hP
        have hD : va_D A (MW ct o ((m_g v), (m_fl v), (m_ch v), (m_sv v), (nI (1)), (nI (12)), (nI (0)), (m_ld v), (m_wt v), (m_wm v), (m_ln v), (m_lz v), (m_in v), (m_ty v), (m_he v), (m_wa v), (m_fa v), (m_cm v), (m_cz v)) R) := hD
        refine lv_if_eq (tgt := 54) hx hb dX11_adds_48 (by decide) (fun c9 => absurd c9 (by decide)) (fun c9 => ?_)
        refine lv_bipush (v := (-3)) hx hb dX11_adds_51 (by decide) ?_
        have e9 : F_adds y v x1 x2 = ((-3), ((m_g v), (m_fl v), (m_ch v), (m_sv v), (nI (1)), (nI (12)), (nI (0)), (m_ld v), (m_wt v), (m_wm v), (m_ln v), (m_lz v), (m_in v), (m_ty v), (m_he v), (m_wa v), (m_fa v), (m_cm v), (m_cz v))) := (by simp only [F_adds, mRef, mG, mGF, mGFC, ixI, setAt, setG, yMove, nI_sub1, c4_1, c17_2, eq_true c34_3, p_in, p_worn, p_wi, p_creak, p_le0, p_lt1, p_rng, pmT, pmC, not_true_eq_false, not_false_eq_true, if_true, if_false, and_true, true_and, and_false, false_and, or_true, true_or, or_false, false_or, and_self, or_self, iff_true, true_iff, iff_false, false_iff, decide_eq_true_eq, decide_true, decide_false, Int32.add_zero, Nat.add_zero, ne_eq, Bool.false_eq_true, eq_self])
        exact zIret () hx hb hr hlocks hK (by show va_P D vwCl (MW ct o (F_adds y v x1 x2).2 R) H; rw [e9]; exact hP) (by show va_D A (MW ct o (F_adds y v x1 x2).2 R); rw [e9]; exact hD) hS dX11_adds_53 (show (-3) = (F_adds y v x1 x2).1 from (by rw [e9]))
    · skip
      refine lv_bipush (v := (-2)) hx hb dX11_adds_20 (by decide) ?_
      have e9 : F_adds y v x1 x2 = ((-2), v) := (by simp only [F_adds, mRef, mG, mGF, mGFC, ixI, setAt, setG, yMove, nI_sub1, c4_1, c17_2, p_in, p_worn, p_wi, p_creak, p_le0, p_lt1, p_rng, pmT, pmC, not_true_eq_false, not_false_eq_true, if_true, if_false, and_true, true_and, and_false, false_and, or_true, true_or, or_false, false_or, and_self, or_self, iff_true, true_iff, iff_false, false_iff, decide_eq_true_eq, decide_true, decide_false, Int32.add_zero, Nat.add_zero, ne_eq, Bool.false_eq_true, eq_self])
      exact zIret () hx hb hr hlocks hK (by show va_P D vwCl (MW ct o (F_adds y v x1 x2).2 R) H; rw [e9]; exact hP) (by show va_D A (MW ct o (F_adds y v x1 x2).2 R); rw [e9]; exact hD) hS dX11_adds_22 (show (-2) = (F_adds y v x1 x2).1 from (by rw [e9]))
  · skip
    refine lv_bipush (v := nI (54)) hx hb dX11_adds_7 (by decide) ?_
    refine lv_goto (tgt := 14) hx hb dX11_adds_9 (by decide) ?_
    refine zSI [.int (x2), .int (nI (1)), .int (nI (54))] [] (kX11_in (MW ct o v R) (x2) (nI (1)) (nI (54))) hx hb hml hown hts (va_cwS 3 hts gX11_adds_X11_in rfl rfl rfl (by decide +kernel) ⟨(Nat.le_of_ble_eq_true rfl), (Nat.le_of_ble_eq_true rfl)⟩) hK hP hD hS hA rfl hl.1 rfl (Nat.le_of_ble_eq_true rfl) dX11_adds_14 ⟨(Nat.le_of_ble_eq_true rfl), (Nat.le_of_ble_eq_true rfl)⟩ (fun r_14 _ H locs hr_14 hP hD hS => ?_)
    subst hr_14
    have hP : va_P D vwCl (MW ct o v R) H := hP
    have hD : va_D A (MW ct o v R) := hD
    refine zB_if_ne (tgt := 23) hx hb dX11_adds_17 (by decide) (fun c17_7 => ?_) (fun c17_7 => ?_)
    · skip
      refine lv_aload_n hx hb dX11_adds_23 rfl (lv_at hl 0 rfl) ?_
      refine va_get (ci := 10) (v := .ref (o 1)) hx hb hts h_X11 hown hK hP 0 rfl rfl 0 (by decide) f9 (fun _ h9 => h9) rfl dX11_adds_24 ?_
      refine lv_iconst (v := nI (0)) hx hb dX11_adds_27 (by decide) ?_
      refine zIald (n := 972) (f := m_g v) (i := 0) hx hb hK hP 1 rfl (by omega) (by decide) dX11_adds_28 ?_
      refine zTop (y := nI (y_n y)) hq.1 ?_
      refine lv_istore_n (lv' := [(3, .int (nI (y_n y))), (0, .ref (o 0)), (1, .int (x1)), (2, .int (x2))]) hx hb dX11_adds_29 rfl hl (by decide) rfl (fun ls hl => ?_)
      refine lv_aload_n hx hb dX11_adds_30 rfl (lv_at hl 1 rfl) ?_
      refine lv_iload_n hx hb dX11_adds_31 rfl (lv_at hl 0 rfl) ?_
      refine lv_bipush (v := nI (12)) hx hb dX11_adds_32 (by decide) ?_
      refine zN_icmp_ne (tgt := 41) hx hb (by omega) (by omega) dX11_adds_34 (by decide) (fun c34_8 => ?_) (fun c34_8 => ?_)
      · skip
        refine lv_iconst (v := nI (0)) hx hb dX11_adds_41 (by decide) ?_
        refine lv_iconst (v := nI (1)) hx hb dX11_adds_42 (by decide) ?_
        refine lv_bipush (v := nI (12)) hx hb dX11_adds_43 (by decide) ?_
        refine zVI [.int (nI (0)), .int (nI (1)), .int (nI (12))] [] (kX11_refuses_f (o) (v) (R) (nI (1)) (nI (12))) hx hb hml hown hts (cwV 3 hts gX11_adds_X11_refuses rfl rfl rfl (by decide +kernel) ⟨(Nat.le_of_ble_eq_true rfl), (Nat.le_of_ble_eq_true rfl)⟩) hK hP hD hS hA (va_recv hK hP (ci := 10) (q0 := 0) rfl rfl) rfl hl.1 rfl (Nat.le_of_ble_eq_true rfl) dX11_adds_45 ⟨(Nat.le_of_ble_eq_true rfl), (Nat.le_of_ble_eq_true rfl)⟩ (fun r_45 _ H locs hr_45 hP hD hS => ?_)
        subst hr_45
        have hP : va_P D vwCl (MW ct o v R) H := hP
        have hD : va_D A (MW ct o v R) := hD
        refine lv_if_eq (tgt := 54) hx hb dX11_adds_48 (by decide) (fun c9 => ?_) (fun c9 => absurd (by decide) c9)
        refine lv_aload_n hx hb dX11_adds_54 rfl (lv_at hl 1 rfl) ?_
        refine va_get (ci := 10) (v := .ref (o 1)) hx hb hts h_X11 hown hK hP 0 rfl rfl 0 (by decide) f9 (fun _ h9 => h9) rfl dX11_adds_55 ?_
        refine lv_iconst (v := nI (0)) hx hb dX11_adds_58 (by decide) ?_
        refine lv_dup2_11 hx hb dX11_adds_59 rfl rfl ?_
        refine zIald (n := 972) (f := m_g v) (i := 0) hx hb hK hP 1 rfl (by omega) (by decide) dX11_adds_60 ?_
        refine zTop (y := nI (y_n y)) hq.1 ?_
        refine lv_iconst (v := nI (1)) hx hb dX11_adds_61 (by decide) ?_
        refine zNadd hx hb dX11_adds_62 ?_
        refine zIast (n := 972) (f := m_g v) (i := 0) hx hb hK hP hD hS 1 rfl (by omega) (by decide) dX11_adds_63 (fun H locs hP hD hS => ?_)
        have hP : va_P D vwCl (MW ct o ((upd (m_g v) (0) (nI ((y_n y + 1)))), m_fl v, m_ch v, m_sv v, m_why v, m_det v, m_li v, m_ld v, m_wt v, m_wm v, m_ln v, m_lz v, m_in v, m_ty v, m_he v, m_wa v, m_fa v, m_cm v, m_cz v) R) H := hP
        have hD : va_D A (MW ct o ((upd (m_g v) (0) (nI ((y_n y + 1)))), m_fl v, m_ch v, m_sv v, m_why v, m_det v, m_li v, m_ld v, m_wt v, m_wm v, m_ln v, m_lz v, m_in v, m_ty v, m_he v, m_wa v, m_fa v, m_cm v, m_cz v) R) := hD
        refine lv_iconst (v := nI (0)) hx hb dX11_adds_64 (by decide) ?_
        refine lv_istore (lv' := [(4, .int (nI (0))), (3, .int (nI (y_n y))), (0, .ref (o 0)), (1, .int (x1)), (2, .int (x2))]) hx hb dX11_adds_65 hl (by decide) rfl (fun ls hl => ?_)
        have lp67 : ∀ (fu : Nat) (j : Nat) (H : Heap) (locs : List Loc) (ls : Array Slot), (j ≤ 4) → 4 - j < fu → va_P D vwCl (MW ct o ((zr4 (upd (m_g v) (0) (nI (y_n y + 1))) (5 + 4 * y_n y) j), m_fl v, m_ch v, m_sv v, m_why v, m_det v, m_li v, m_ld v, m_wt v, m_wm v, m_ln v, m_lz v, m_in v, m_ty v, m_he v, m_wa v, m_fa v, m_cm v, m_cz v) R) H → va_D A (MW ct o ((zr4 (upd (m_g v) (0) (nI (y_n y + 1))) (5 + 4 * y_n y) j), m_fl v, m_ch v, m_sv v, m_why v, m_det v, m_li v, m_ld v, m_wt v, m_wm v, m_ln v, m_lz v, m_in v, m_ty v, m_he v, m_wa v, m_fa v, m_cm v, m_cz v) R) → va_S A s.heap H locs → lv_has ls 5 [(0, .ref (o 0)), (1, .int (x1)), (2, .int (x2)), (3, .int (nI (y_n y))), (4, .int (nI (j)))] → W p l e rmX11_adds s m args below meth c H locs 0 0 (MQ below (va_Qi (fun r0 (_ : Unit) => r0 = (F_adds y v x1 x2).1) (zB D ct A (fun _ : Unit => MW ct o (F_adds y v x1 x2).2 R)) A) args s rmX11_adds.cells rmX11_adds.slots A) (F0 m 67 ls []) := by
          intro fu
          induction fu with
          | zero => intro j H locs ls hj hfu; exact absurd hfu (Nat.not_lt_zero _)
          | succ fu ih67 =>
            intro j H locs ls hj hfu hP hD hS hl
            refine lv_iload hx hb dX11_adds_67 (lv_at hl 4 rfl) ?_
            refine lv_iconst (v := nI (4)) hx hb dX11_adds_69 (by decide) ?_
            refine zN_icmp_ge (tgt := 93) hx hb (by omega) (by omega) dX11_adds_70 (by decide) (fun c70_10 => ?_) (fun c70_10 => ?_)
            · skip
              obtain rfl : j = 4 := by omega
              refine lv_aload_n hx hb dX11_adds_93 rfl (lv_at hl 0 rfl) ?_
              refine va_get (ci := 10) (v := .ref (o 1)) hx hb hts h_X11 hown hK hP 0 rfl rfl 0 (by decide) f9 (fun _ h9 => h9) rfl dX11_adds_94 ?_
              refine lv_iconst (v := nI (5)) hx hb dX11_adds_97 (by decide) ?_
              refine lv_iconst (v := nI (4)) hx hb dX11_adds_98 (by decide) ?_
              refine lv_iload_n hx hb dX11_adds_99 rfl (lv_at hl 3 rfl) ?_
              refine zNmul hx hb dX11_adds_100 ?_
              refine zNadd hx hb dX11_adds_101 ?_
              refine lv_iconst (v := nI (0)) hx hb dX11_adds_102 (by decide) ?_
              refine zNadd hx hb dX11_adds_103 ?_
              refine lv_iload_n hx hb dX11_adds_104 rfl (lv_at hl 1 rfl) ?_
              refine zIast (n := 972) (f := (zr4 (upd (m_g v) (0) (nI (y_n y + 1))) (5 + 4 * y_n y) 4)) (i := ((5 + (4 * y_n y)) + 0)) hx hb hK hP hD hS 1 rfl (by omega) (by decide) dX11_adds_105 (fun H locs hP hD hS => ?_)
              have hP : va_P D vwCl (MW ct o ((upd ((zr4 (upd (m_g v) (0) (nI (y_n y + 1))) (5 + 4 * y_n y) 4)) (((5 + (4 * y_n y)) + 0)) (x1)), m_fl v, m_ch v, m_sv v, m_why v, m_det v, m_li v, m_ld v, m_wt v, m_wm v, m_ln v, m_lz v, m_in v, m_ty v, m_he v, m_wa v, m_fa v, m_cm v, m_cz v) R) H := hP
              have hD : va_D A (MW ct o ((upd ((zr4 (upd (m_g v) (0) (nI (y_n y + 1))) (5 + 4 * y_n y) 4)) (((5 + (4 * y_n y)) + 0)) (x1)), m_fl v, m_ch v, m_sv v, m_why v, m_det v, m_li v, m_ld v, m_wt v, m_wm v, m_ln v, m_lz v, m_in v, m_ty v, m_he v, m_wa v, m_fa v, m_cm v, m_cz v) R) := hD
              refine lv_aload_n hx hb dX11_adds_106 rfl (lv_at hl 0 rfl) ?_
              refine va_get (ci := 10) (v := .ref (o 1)) hx hb hts h_X11 hown hK hP 0 rfl rfl 0 (by decide) f9 (fun _ h9 => h9) rfl dX11_adds_107 ?_
              refine lv_iconst (v := nI (5)) hx hb dX11_adds_110 (by decide) ?_
              refine lv_iconst (v := nI (4)) hx hb dX11_adds_111 (by decide) ?_
              refine lv_iload_n hx hb dX11_adds_112 rfl (lv_at hl 3 rfl) ?_
              refine zNmul hx hb dX11_adds_113 ?_
              refine zNadd hx hb dX11_adds_114 ?_
              refine lv_iconst (v := nI (1)) hx hb dX11_adds_115 (by decide) ?_
              refine zNadd hx hb dX11_adds_116 ?_
              refine lv_iload_n hx hb dX11_adds_117 rfl (lv_at hl 2 rfl) ?_
              refine zIast (n := 972) (f := (upd ((zr4 (upd (m_g v) (0) (nI (y_n y + 1))) (5 + 4 * y_n y) 4)) (((5 + (4 * y_n y)) + 0)) (x1))) (i := ((5 + (4 * y_n y)) + 1)) hx hb hK hP hD hS 1 rfl (by omega) (by decide) dX11_adds_118 (fun H locs hP hD hS => ?_)
              have hP : va_P D vwCl (MW ct o ((upd ((upd ((zr4 (upd (m_g v) (0) (nI (y_n y + 1))) (5 + 4 * y_n y) 4)) (((5 + (4 * y_n y)) + 0)) (x1))) (((5 + (4 * y_n y)) + 1)) (x2)), m_fl v, m_ch v, m_sv v, m_why v, m_det v, m_li v, m_ld v, m_wt v, m_wm v, m_ln v, m_lz v, m_in v, m_ty v, m_he v, m_wa v, m_fa v, m_cm v, m_cz v) R) H := hP
              have hD : va_D A (MW ct o ((upd ((upd ((zr4 (upd (m_g v) (0) (nI (y_n y + 1))) (5 + 4 * y_n y) 4)) (((5 + (4 * y_n y)) + 0)) (x1))) (((5 + (4 * y_n y)) + 1)) (x2)), m_fl v, m_ch v, m_sv v, m_why v, m_det v, m_li v, m_ld v, m_wt v, m_wm v, m_ln v, m_lz v, m_in v, m_ty v, m_he v, m_wa v, m_fa v, m_cm v, m_cz v) R) := hD
              refine lv_iload_n hx hb dX11_adds_119 rfl (lv_at hl 3 rfl) ?_
              have e9 : F_adds y v x1 x2 = (nI (y_n y), ((upd ((upd ((zr4 (upd (m_g v) (0) (nI (y_n y + 1))) (5 + 4 * y_n y) 4)) (((5 + (4 * y_n y)) + 0)) (x1))) (((5 + (4 * y_n y)) + 1)) (x2)), m_fl v, m_ch v, m_sv v, m_why v, m_det v, m_li v, m_ld v, m_wt v, m_wm v, m_ln v, m_lz v, m_in v, m_ty v, m_he v, m_wa v, m_fa v, m_cm v, m_cz v)) := (by simp only [F_adds, mRef, mG, mGF, mGFC, ixI, setAt, setG, yMove, nI_sub1, eq_true c4_1, c17_7, c34_8, c70_10, p_in, p_worn, p_wi, p_creak, p_le0, p_lt1, p_rng, pmT, pmC, not_true_eq_false, not_false_eq_true, if_true, if_false, and_true, true_and, and_false, false_and, or_true, true_or, or_false, false_or, and_self, or_self, iff_true, true_iff, iff_false, false_iff, decide_eq_true_eq, decide_true, decide_false, Int32.add_zero, Nat.add_zero, ne_eq, Bool.false_eq_true, eq_self])
              exact zIret () hx hb hr hlocks hK (by show va_P D vwCl (MW ct o (F_adds y v x1 x2).2 R) H; rw [e9]; exact hP) (by show va_D A (MW ct o (F_adds y v x1 x2).2 R); rw [e9]; exact hD) hS dX11_adds_120 (show nI (y_n y) = (F_adds y v x1 x2).1 from (by rw [e9]))
            · skip
              refine lv_aload_n hx hb dX11_adds_73 rfl (lv_at hl 0 rfl) ?_
              refine va_get (ci := 10) (v := .ref (o 1)) hx hb hts h_X11 hown hK hP 0 rfl rfl 0 (by decide) f9 (fun _ h9 => h9) rfl dX11_adds_74 ?_
              refine lv_iconst (v := nI (5)) hx hb dX11_adds_77 (by decide) ?_
              refine lv_iconst (v := nI (4)) hx hb dX11_adds_78 (by decide) ?_
              refine lv_iload_n hx hb dX11_adds_79 rfl (lv_at hl 3 rfl) ?_
              refine zNmul hx hb dX11_adds_80 ?_
              refine zNadd hx hb dX11_adds_81 ?_
              refine lv_iload hx hb dX11_adds_82 (lv_at hl 4 rfl) ?_
              refine zNadd hx hb dX11_adds_84 ?_
              refine lv_iconst (v := nI (0)) hx hb dX11_adds_85 (by decide) ?_
              refine zIast (n := 972) (f := (zr4 (upd (m_g v) (0) (nI (y_n y + 1))) (5 + 4 * y_n y) j)) (i := ((5 + (4 * y_n y)) + j)) hx hb hK hP hD hS 1 rfl (by omega) (by decide) dX11_adds_86 (fun H locs hP hD hS => ?_)
              have hP : va_P D vwCl (MW ct o ((upd ((zr4 (upd (m_g v) (0) (nI (y_n y + 1))) (5 + 4 * y_n y) j)) (((5 + (4 * y_n y)) + j)) (nI (0))), m_fl v, m_ch v, m_sv v, m_why v, m_det v, m_li v, m_ld v, m_wt v, m_wm v, m_ln v, m_lz v, m_in v, m_ty v, m_he v, m_wa v, m_fa v, m_cm v, m_cz v) R) H := hP
              have hD : va_D A (MW ct o ((upd ((zr4 (upd (m_g v) (0) (nI (y_n y + 1))) (5 + 4 * y_n y) j)) (((5 + (4 * y_n y)) + j)) (nI (0))), m_fl v, m_ch v, m_sv v, m_why v, m_det v, m_li v, m_ld v, m_wt v, m_wm v, m_ln v, m_lz v, m_in v, m_ty v, m_he v, m_wa v, m_fa v, m_cm v, m_cz v) R) := hD
              refine lv_iinc (v := nI ((j + 1))) (lv' := [(4, .int (nI ((j + 1)))), (0, .ref (o 0)), (1, .int (x1)), (2, .int (x2)), (3, .int (nI (y_n y)))]) hx hb dX11_adds_87 hl (k := 4) rfl (zInc _) (by decide) rfl (fun ls hl => ?_)
              refine lv_goto (tgt := 67) hx hb dX11_adds_90 (by decide) ?_
              have hP : va_P D vwCl (MW ct o ((zr4 (upd (m_g v) (0) (nI (y_n y + 1))) (5 + 4 * y_n y) (j + 1)), m_fl v, m_ch v, m_sv v, m_why v, m_det v, m_li v, m_ld v, m_wt v, m_wm v, m_ln v, m_lz v, m_in v, m_ty v, m_he v, m_wa v, m_fa v, m_cm v, m_cz v) R) H := by rw [← zr4_s]; exact hP
              have hD : va_D A (MW ct o ((zr4 (upd (m_g v) (0) (nI (y_n y + 1))) (5 + 4 * y_n y) (j + 1)), m_fl v, m_ch v, m_sv v, m_why v, m_det v, m_li v, m_ld v, m_wt v, m_wm v, m_ln v, m_lz v, m_in v, m_ty v, m_he v, m_wa v, m_fa v, m_cm v, m_cz v) R) := by rw [← zr4_s]; exact hD
              exact ih67 ((j + 1)) H locs ls (by omega) (by omega) hP hD hS (lv_sub hl [1, 2, 3, 4, 0] rfl)
        have hP : va_P D vwCl (MW ct o ((zr4 (upd (m_g v) (0) (nI (y_n y + 1))) (5 + 4 * y_n y) (0)), m_fl v, m_ch v, m_sv v, m_why v, m_det v, m_li v, m_ld v, m_wt v, m_wm v, m_ln v, m_lz v, m_in v, m_ty v, m_he v, m_wa v, m_fa v, m_cm v, m_cz v) R) H := by rw [zr4_0]; exact hP
        have hD : va_D A (MW ct o ((zr4 (upd (m_g v) (0) (nI (y_n y + 1))) (5 + 4 * y_n y) (0)), m_fl v, m_ch v, m_sv v, m_why v, m_det v, m_li v, m_ld v, m_wt v, m_wm v, m_ln v, m_lz v, m_in v, m_ty v, m_he v, m_wa v, m_fa v, m_cm v, m_cz v) R) := by rw [zr4_0]; exact hD
        exact lp67 ((4 - (0)) + 1) (0) H locs ls (by omega) (Nat.lt_succ_self _) hP hD hS (lv_sub hl [2, 3, 4, 1, 0] rfl)
      · skip
        refine lv_iconst (v := nI (1)) hx hb dX11_adds_37 (by decide) ?_
        refine lv_goto (tgt := 42) hx hb dX11_adds_38 (by decide) ?_
        refine lv_iconst (v := nI (1)) hx hb dX11_adds_42 (by decide) ?_
        refine lv_bipush (v := nI (12)) hx hb dX11_adds_43 (by decide) ?_
        refine zVI [.int (nI (1)), .int (nI (1)), .int (nI (12))] [] (kX11_refuses_t (o) (v) (R) (nI (1)) (nI (12))) hx hb hml hown hts (cwV 3 hts gX11_adds_X11_refuses rfl rfl rfl (by decide +kernel) ⟨(Nat.le_of_ble_eq_true rfl), (Nat.le_of_ble_eq_true rfl)⟩) hK hP hD hS hA (va_recv hK hP (ci := 10) (q0 := 0) rfl rfl) rfl hl.1 rfl (Nat.le_of_ble_eq_true rfl) dX11_adds_45 ⟨(Nat.le_of_ble_eq_true rfl), (Nat.le_of_ble_eq_true rfl)⟩ (fun r_45 _ H locs hr_45 hP hD hS => ?_)
        subst hr_45
        have hP : va_P D vwCl (MW ct o ((m_g v), (m_fl v), (m_ch v), (m_sv v), (nI (1)), (nI (12)), (nI (0)), (m_ld v), (m_wt v), (m_wm v), (m_ln v), (m_lz v), (m_in v), (m_ty v), (m_he v), (m_wa v), (m_fa v), (m_cm v), (m_cz v)) R) H := hP
        have hD : va_D A (MW ct o ((m_g v), (m_fl v), (m_ch v), (m_sv v), (nI (1)), (nI (12)), (nI (0)), (m_ld v), (m_wt v), (m_wm v), (m_ln v), (m_lz v), (m_in v), (m_ty v), (m_he v), (m_wa v), (m_fa v), (m_cm v), (m_cz v)) R) := hD
        refine lv_if_eq (tgt := 54) hx hb dX11_adds_48 (by decide) (fun c9 => absurd c9 (by decide)) (fun c9 => ?_)
        refine lv_bipush (v := (-3)) hx hb dX11_adds_51 (by decide) ?_
        have e9 : F_adds y v x1 x2 = ((-3), ((m_g v), (m_fl v), (m_ch v), (m_sv v), (nI (1)), (nI (12)), (nI (0)), (m_ld v), (m_wt v), (m_wm v), (m_ln v), (m_lz v), (m_in v), (m_ty v), (m_he v), (m_wa v), (m_fa v), (m_cm v), (m_cz v))) := (by simp only [F_adds, mRef, mG, mGF, mGFC, ixI, setAt, setG, yMove, nI_sub1, eq_true c4_1, c17_7, eq_true c34_8, p_in, p_worn, p_wi, p_creak, p_le0, p_lt1, p_rng, pmT, pmC, not_true_eq_false, not_false_eq_true, if_true, if_false, and_true, true_and, and_false, false_and, or_true, true_or, or_false, false_or, and_self, or_self, iff_true, true_iff, iff_false, false_iff, decide_eq_true_eq, decide_true, decide_false, Int32.add_zero, Nat.add_zero, ne_eq, Bool.false_eq_true, eq_self])
        exact zIret () hx hb hr hlocks hK (by show va_P D vwCl (MW ct o (F_adds y v x1 x2).2 R) H; rw [e9]; exact hP) (by show va_D A (MW ct o (F_adds y v x1 x2).2 R); rw [e9]; exact hD) hS dX11_adds_53 (show (-3) = (F_adds y v x1 x2).1 from (by rw [e9]))
    · skip
      refine lv_bipush (v := (-2)) hx hb dX11_adds_20 (by decide) ?_
      have e9 : F_adds y v x1 x2 = ((-2), v) := (by simp only [F_adds, mRef, mG, mGF, mGFC, ixI, setAt, setG, yMove, nI_sub1, eq_true c4_1, c17_7, p_in, p_worn, p_wi, p_creak, p_le0, p_lt1, p_rng, pmT, pmC, not_true_eq_false, not_false_eq_true, if_true, if_false, and_true, true_and, and_false, false_and, or_true, true_or, or_false, false_or, and_self, or_self, iff_true, true_iff, iff_false, false_iff, decide_eq_true_eq, decide_true, decide_false, Int32.add_zero, Nat.add_zero, ne_eq, Bool.false_eq_true, eq_self])
      exact zIret () hx hb hr hlocks hK (by show va_P D vwCl (MW ct o (F_adds y v x1 x2).2 R) H; rw [e9]; exact hP) (by show va_D A (MW ct o (F_adds y v x1 x2).2 R); rw [e9]; exact hD) hS dX11_adds_22 (show (-2) = (F_adds y v x1 x2).1 from (by rw [e9]))
abbrev rmX11_addsCart : Room := { frames := 1, cells := 0, slots := 0, locals := 23 }
theorem in_X11_addsCart_X11 : ∀ w ∈ u_ws RX11 TX11 19, w ∈ wsX11_addsCart := by decide +kernel
set_option maxHeartbeats 4000000 in
set_option maxRecDepth 100000 in
theorem kX11_addsCart {D : va_G} {ct : Nat → ClassId} {l : Launch} (o : Nat → Nat) (v : MS) (R : va_W) (x1 : Int32) (y : YS) (hB : y_n y ≤ 12 ∧ y_cn y ≤ 4 ∧ y_rn y ≤ 5) (hq : RelI y (m_g v)) : MI D ct l yX11_addsCart wsX11_addsCart rmX11_addsCart (MW ct o v R) [.ref (o 0), .int (x1)] (fun r0 (_ : Unit) => r0 = (F_addC y v x1).1) (fun _ : Unit => MW ct o (F_addC y v x1).2 R) := by
  refine MIof (cc := cX11_addsCart) (maxL := 3) (ret := (some .int)) (by decide) rfl (Nat.le_of_ble_eq_true rfl) ?_
  intro p e s m args below meth c A H locs F hP hK hD hS hA ls hl
  obtain ⟨hx, hb, hr, hlocks, hml, hown, hts, hin⟩ := F
  have hl : lv_has ls 3 [(0, .ref (o 0)), (1, .int (x1))] := hl
  have hn : y_n y ≤ 12 := hB.1
  have hcn : y_cn y ≤ 4 := hB.2.1
  have hrn : y_rn y ≤ 5 := hB.2.2
  have h_X11 := in_X11_addsCart_X11
  have f9 := hts (.fieldLink RX11 9 "CartArgumentsModel" "all" "[I") (by decide +kernel)
  refine lv_iload_n hx hb dX11_addsCart_0 rfl (lv_at hl 1 rfl) ?_
  refine lv_iconst (v := nI (1)) hx hb dX11_addsCart_1 (by decide) ?_
  refine lv_bipush (v := nI (60)) hx hb dX11_addsCart_2 (by decide) ?_
  refine zSI [.int (x1), .int (nI (1)), .int (nI (60))] [] (kX11_in (MW ct o v R) (x1) (nI (1)) (nI (60))) hx hb hml hown hts (va_cwS 3 hts gX11_addsCart_X11_in rfl rfl rfl (by decide +kernel) ⟨(Nat.le_of_ble_eq_true rfl), (Nat.le_of_ble_eq_true rfl)⟩) hK hP hD hS hA rfl hl.1 rfl (Nat.le_of_ble_eq_true rfl) dX11_addsCart_4 ⟨(Nat.le_of_ble_eq_true rfl), (Nat.le_of_ble_eq_true rfl)⟩ (fun r_4 _ H locs hr_4 hP hD hS => ?_)
  subst hr_4
  have hP : va_P D vwCl (MW ct o v R) H := hP
  have hD : va_D A (MW ct o v R) := hD
  refine zB_if_ne (tgt := 13) hx hb dX11_addsCart_7 (by decide) (fun c7_1 => ?_) (fun c7_1 => ?_)
  · skip
    refine lv_aload_n hx hb dX11_addsCart_13 rfl (lv_at hl 0 rfl) ?_
    refine va_get (ci := 10) (v := .ref (o 1)) hx hb hts h_X11 hown hK hP 0 rfl rfl 0 (by decide) f9 (fun _ h9 => h9) rfl dX11_addsCart_14 ?_
    refine lv_iconst (v := nI (1)) hx hb dX11_addsCart_17 (by decide) ?_
    refine zIald (n := 972) (f := m_g v) (i := 1) hx hb hK hP 1 rfl (by omega) (by decide) dX11_addsCart_18 ?_
    refine zTop (y := nI (y_cn y)) hq.2.1 ?_
    refine lv_istore_n (lv' := [(2, .int (nI (y_cn y))), (0, .ref (o 0)), (1, .int (x1))]) hx hb dX11_addsCart_19 rfl hl (by decide) rfl (fun ls hl => ?_)
    refine lv_aload_n hx hb dX11_addsCart_20 rfl (lv_at hl 1 rfl) ?_
    refine lv_iload_n hx hb dX11_addsCart_21 rfl (lv_at hl 0 rfl) ?_
    refine lv_iconst (v := nI (4)) hx hb dX11_addsCart_22 (by decide) ?_
    refine zN_icmp_ne (tgt := 30) hx hb (by omega) (by omega) dX11_addsCart_23 (by decide) (fun c23_2 => ?_) (fun c23_2 => ?_)
    · skip
      refine lv_iconst (v := nI (0)) hx hb dX11_addsCart_30 (by decide) ?_
      refine lv_iconst (v := nI (1)) hx hb dX11_addsCart_31 (by decide) ?_
      refine lv_iconst (v := nI (4)) hx hb dX11_addsCart_32 (by decide) ?_
      refine zVI [.int (nI (0)), .int (nI (1)), .int (nI (4))] [] (kX11_refuses_f (o) (v) (R) (nI (1)) (nI (4))) hx hb hml hown hts (cwV 3 hts gX11_addsCart_X11_refuses rfl rfl rfl (by decide +kernel) ⟨(Nat.le_of_ble_eq_true rfl), (Nat.le_of_ble_eq_true rfl)⟩) hK hP hD hS hA (va_recv hK hP (ci := 10) (q0 := 0) rfl rfl) rfl hl.1 rfl (Nat.le_of_ble_eq_true rfl) dX11_addsCart_33 ⟨(Nat.le_of_ble_eq_true rfl), (Nat.le_of_ble_eq_true rfl)⟩ (fun r_33 _ H locs hr_33 hP hD hS => ?_)
      subst hr_33
      have hP : va_P D vwCl (MW ct o v R) H := hP
      have hD : va_D A (MW ct o v R) := hD
      refine lv_if_eq (tgt := 42) hx hb dX11_addsCart_36 (by decide) (fun c9 => ?_) (fun c9 => absurd (by decide) c9)
      refine lv_aload_n hx hb dX11_addsCart_42 rfl (lv_at hl 1 rfl) ?_
      refine va_get (ci := 10) (v := .ref (o 1)) hx hb hts h_X11 hown hK hP 0 rfl rfl 0 (by decide) f9 (fun _ h9 => h9) rfl dX11_addsCart_43 ?_
      refine lv_iconst (v := nI (1)) hx hb dX11_addsCart_46 (by decide) ?_
      refine lv_dup2_11 hx hb dX11_addsCart_47 rfl rfl ?_
      refine zIald (n := 972) (f := m_g v) (i := 1) hx hb hK hP 1 rfl (by omega) (by decide) dX11_addsCart_48 ?_
      refine zTop (y := nI (y_cn y)) hq.2.1 ?_
      refine lv_iconst (v := nI (1)) hx hb dX11_addsCart_49 (by decide) ?_
      refine zNadd hx hb dX11_addsCart_50 ?_
      refine zIast (n := 972) (f := m_g v) (i := 1) hx hb hK hP hD hS 1 rfl (by omega) (by decide) dX11_addsCart_51 (fun H locs hP hD hS => ?_)
      have hP : va_P D vwCl (MW ct o ((upd (m_g v) (1) (nI ((y_cn y + 1)))), m_fl v, m_ch v, m_sv v, m_why v, m_det v, m_li v, m_ld v, m_wt v, m_wm v, m_ln v, m_lz v, m_in v, m_ty v, m_he v, m_wa v, m_fa v, m_cm v, m_cz v) R) H := hP
      have hD : va_D A (MW ct o ((upd (m_g v) (1) (nI ((y_cn y + 1)))), m_fl v, m_ch v, m_sv v, m_why v, m_det v, m_li v, m_ld v, m_wt v, m_wm v, m_ln v, m_lz v, m_in v, m_ty v, m_he v, m_wa v, m_fa v, m_cm v, m_cz v) R) := hD
      refine lv_aload_n hx hb dX11_addsCart_52 rfl (lv_at hl 1 rfl) ?_
      refine va_get (ci := 10) (v := .ref (o 1)) hx hb hts h_X11 hown hK hP 0 rfl rfl 0 (by decide) f9 (fun _ h9 => h9) rfl dX11_addsCart_53 ?_
      refine lv_bipush (v := nI (53)) hx hb dX11_addsCart_56 (by decide) ?_
      refine lv_iconst (v := nI (2)) hx hb dX11_addsCart_58 (by decide) ?_
      refine lv_iload_n hx hb dX11_addsCart_59 rfl (lv_at hl 0 rfl) ?_
      refine zNmul hx hb dX11_addsCart_60 ?_
      refine zNadd hx hb dX11_addsCart_61 ?_
      refine lv_iload_n hx hb dX11_addsCart_62 rfl (lv_at hl 2 rfl) ?_
      refine zIast (n := 972) (f := (upd (m_g v) (1) (nI ((y_cn y + 1))))) (i := (53 + (2 * y_cn y))) hx hb hK hP hD hS 1 rfl (by omega) (by decide) dX11_addsCart_63 (fun H locs hP hD hS => ?_)
      have hP : va_P D vwCl (MW ct o ((upd ((upd (m_g v) (1) (nI ((y_cn y + 1))))) ((53 + (2 * y_cn y))) (x1)), m_fl v, m_ch v, m_sv v, m_why v, m_det v, m_li v, m_ld v, m_wt v, m_wm v, m_ln v, m_lz v, m_in v, m_ty v, m_he v, m_wa v, m_fa v, m_cm v, m_cz v) R) H := hP
      have hD : va_D A (MW ct o ((upd ((upd (m_g v) (1) (nI ((y_cn y + 1))))) ((53 + (2 * y_cn y))) (x1)), m_fl v, m_ch v, m_sv v, m_why v, m_det v, m_li v, m_ld v, m_wt v, m_wm v, m_ln v, m_lz v, m_in v, m_ty v, m_he v, m_wa v, m_fa v, m_cm v, m_cz v) R) := hD
      refine lv_aload_n hx hb dX11_addsCart_64 rfl (lv_at hl 1 rfl) ?_
      refine va_get (ci := 10) (v := .ref (o 1)) hx hb hts h_X11 hown hK hP 0 rfl rfl 0 (by decide) f9 (fun _ h9 => h9) rfl dX11_addsCart_65 ?_
      refine lv_bipush (v := nI (53)) hx hb dX11_addsCart_68 (by decide) ?_
      refine lv_iconst (v := nI (2)) hx hb dX11_addsCart_70 (by decide) ?_
      refine lv_iload_n hx hb dX11_addsCart_71 rfl (lv_at hl 0 rfl) ?_
      refine zNmul hx hb dX11_addsCart_72 ?_
      refine zNadd hx hb dX11_addsCart_73 ?_
      refine lv_iconst (v := nI (1)) hx hb dX11_addsCart_74 (by decide) ?_
      refine zNadd hx hb dX11_addsCart_75 ?_
      refine lv_iconst (v := nI (0)) hx hb dX11_addsCart_76 (by decide) ?_
      refine zIast (n := 972) (f := (upd ((upd (m_g v) (1) (nI ((y_cn y + 1))))) ((53 + (2 * y_cn y))) (x1))) (i := ((53 + (2 * y_cn y)) + 1)) hx hb hK hP hD hS 1 rfl (by omega) (by decide) dX11_addsCart_77 (fun H locs hP hD hS => ?_)
      have hP : va_P D vwCl (MW ct o ((upd ((upd ((upd (m_g v) (1) (nI ((y_cn y + 1))))) ((53 + (2 * y_cn y))) (x1))) (((53 + (2 * y_cn y)) + 1)) (nI (0))), m_fl v, m_ch v, m_sv v, m_why v, m_det v, m_li v, m_ld v, m_wt v, m_wm v, m_ln v, m_lz v, m_in v, m_ty v, m_he v, m_wa v, m_fa v, m_cm v, m_cz v) R) H := hP
      have hD : va_D A (MW ct o ((upd ((upd ((upd (m_g v) (1) (nI ((y_cn y + 1))))) ((53 + (2 * y_cn y))) (x1))) (((53 + (2 * y_cn y)) + 1)) (nI (0))), m_fl v, m_ch v, m_sv v, m_why v, m_det v, m_li v, m_ld v, m_wt v, m_wm v, m_ln v, m_lz v, m_in v, m_ty v, m_he v, m_wa v, m_fa v, m_cm v, m_cz v) R) := hD
      refine lv_iload_n hx hb dX11_addsCart_78 rfl (lv_at hl 0 rfl) ?_
      have e9 : F_addC y v x1 = (nI (y_cn y), ((upd ((upd ((upd (m_g v) (1) (nI ((y_cn y + 1))))) ((53 + (2 * y_cn y))) (x1))) (((53 + (2 * y_cn y)) + 1)) (nI (0))), m_fl v, m_ch v, m_sv v, m_why v, m_det v, m_li v, m_ld v, m_wt v, m_wm v, m_ln v, m_lz v, m_in v, m_ty v, m_he v, m_wa v, m_fa v, m_cm v, m_cz v)) := (by simp only [F_addC, mRef, mG, mGF, mGFC, ixI, setAt, setG, yMove, nI_sub1, c7_1, c23_2, p_in, p_worn, p_wi, p_creak, p_le0, p_lt1, p_rng, pmT, pmC, not_true_eq_false, not_false_eq_true, if_true, if_false, and_true, true_and, and_false, false_and, or_true, true_or, or_false, false_or, and_self, or_self, iff_true, true_iff, iff_false, false_iff, decide_eq_true_eq, decide_true, decide_false, Int32.add_zero, Nat.add_zero, ne_eq, Bool.false_eq_true, eq_self])
      exact zIret () hx hb hr hlocks hK (by show va_P D vwCl (MW ct o (F_addC y v x1).2 R) H; rw [e9]; exact hP) (by show va_D A (MW ct o (F_addC y v x1).2 R); rw [e9]; exact hD) hS dX11_addsCart_79 (show nI (y_cn y) = (F_addC y v x1).1 from (by rw [e9]))
    · skip
      refine lv_iconst (v := nI (1)) hx hb dX11_addsCart_26 (by decide) ?_
      refine lv_goto (tgt := 31) hx hb dX11_addsCart_27 (by decide) ?_
      refine lv_iconst (v := nI (1)) hx hb dX11_addsCart_31 (by decide) ?_
      refine lv_iconst (v := nI (4)) hx hb dX11_addsCart_32 (by decide) ?_
      refine zVI [.int (nI (1)), .int (nI (1)), .int (nI (4))] [] (kX11_refuses_t (o) (v) (R) (nI (1)) (nI (4))) hx hb hml hown hts (cwV 3 hts gX11_addsCart_X11_refuses rfl rfl rfl (by decide +kernel) ⟨(Nat.le_of_ble_eq_true rfl), (Nat.le_of_ble_eq_true rfl)⟩) hK hP hD hS hA (va_recv hK hP (ci := 10) (q0 := 0) rfl rfl) rfl hl.1 rfl (Nat.le_of_ble_eq_true rfl) dX11_addsCart_33 ⟨(Nat.le_of_ble_eq_true rfl), (Nat.le_of_ble_eq_true rfl)⟩ (fun r_33 _ H locs hr_33 hP hD hS => ?_)
      subst hr_33
      have hP : va_P D vwCl (MW ct o ((m_g v), (m_fl v), (m_ch v), (m_sv v), (nI (1)), (nI (4)), (nI (0)), (m_ld v), (m_wt v), (m_wm v), (m_ln v), (m_lz v), (m_in v), (m_ty v), (m_he v), (m_wa v), (m_fa v), (m_cm v), (m_cz v)) R) H := hP
      have hD : va_D A (MW ct o ((m_g v), (m_fl v), (m_ch v), (m_sv v), (nI (1)), (nI (4)), (nI (0)), (m_ld v), (m_wt v), (m_wm v), (m_ln v), (m_lz v), (m_in v), (m_ty v), (m_he v), (m_wa v), (m_fa v), (m_cm v), (m_cz v)) R) := hD
      refine lv_if_eq (tgt := 42) hx hb dX11_addsCart_36 (by decide) (fun c9 => absurd c9 (by decide)) (fun c9 => ?_)
      refine lv_bipush (v := (-3)) hx hb dX11_addsCart_39 (by decide) ?_
      have e9 : F_addC y v x1 = ((-3), ((m_g v), (m_fl v), (m_ch v), (m_sv v), (nI (1)), (nI (4)), (nI (0)), (m_ld v), (m_wt v), (m_wm v), (m_ln v), (m_lz v), (m_in v), (m_ty v), (m_he v), (m_wa v), (m_fa v), (m_cm v), (m_cz v))) := (by simp only [F_addC, mRef, mG, mGF, mGFC, ixI, setAt, setG, yMove, nI_sub1, c7_1, eq_true c23_2, p_in, p_worn, p_wi, p_creak, p_le0, p_lt1, p_rng, pmT, pmC, not_true_eq_false, not_false_eq_true, if_true, if_false, and_true, true_and, and_false, false_and, or_true, true_or, or_false, false_or, and_self, or_self, iff_true, true_iff, iff_false, false_iff, decide_eq_true_eq, decide_true, decide_false, Int32.add_zero, Nat.add_zero, ne_eq, Bool.false_eq_true, eq_self])
      exact zIret () hx hb hr hlocks hK (by show va_P D vwCl (MW ct o (F_addC y v x1).2 R) H; rw [e9]; exact hP) (by show va_D A (MW ct o (F_addC y v x1).2 R); rw [e9]; exact hD) hS dX11_addsCart_41 (show (-3) = (F_addC y v x1).1 from (by rw [e9]))
  · skip
    refine lv_bipush (v := (-2)) hx hb dX11_addsCart_10 (by decide) ?_
    have e9 : F_addC y v x1 = ((-2), v) := (by simp only [F_addC, mRef, mG, mGF, mGFC, ixI, setAt, setG, yMove, nI_sub1, c7_1, p_in, p_worn, p_wi, p_creak, p_le0, p_lt1, p_rng, pmT, pmC, not_true_eq_false, not_false_eq_true, if_true, if_false, and_true, true_and, and_false, false_and, or_true, true_or, or_false, false_or, and_self, or_self, iff_true, true_iff, iff_false, false_iff, decide_eq_true_eq, decide_true, decide_false, Int32.add_zero, Nat.add_zero, ne_eq, Bool.false_eq_true, eq_self])
    exact zIret () hx hb hr hlocks hK (by show va_P D vwCl (MW ct o (F_addC y v x1).2 R) H; rw [e9]; exact hP) (by show va_D A (MW ct o (F_addC y v x1).2 R); rw [e9]; exact hD) hS dX11_addsCart_12 (show (-2) = (F_addC y v x1).1 from (by rw [e9]))
abbrev rmX11_addsRoad : Room := { frames := 1, cells := 0, slots := 0, locals := 23 }
theorem in_X11_addsRoad_X11 : ∀ w ∈ u_ws RX11 TX11 19, w ∈ wsX11_addsRoad := by decide +kernel
set_option maxHeartbeats 4000000 in
set_option maxRecDepth 100000 in
theorem kX11_addsRoad {D : va_G} {ct : Nat → ClassId} {l : Launch} (o : Nat → Nat) (v : MS) (R : va_W) (x1 : Int32) (x2 : Int32) (x3 : Int32) (y : YS) (hB : y_n y ≤ 12 ∧ y_cn y ≤ 4 ∧ y_rn y ≤ 5) (hq : RelI y (m_g v)) : MI D ct l yX11_addsRoad wsX11_addsRoad rmX11_addsRoad (MW ct o v R) [.ref (o 0), .int (x1), .int (x2), .int (x3)] (fun r0 (_ : Unit) => r0 = (F_addR y v x1 x2 x3).1) (fun _ : Unit => MW ct o (F_addR y v x1 x2 x3).2 R) := by
  refine MIof (cc := cX11_addsRoad) (maxL := 5) (ret := (some .int)) (by decide) rfl (Nat.le_of_ble_eq_true rfl) ?_
  intro p e s m args below meth c A H locs F hP hK hD hS hA ls hl
  obtain ⟨hx, hb, hr, hlocks, hml, hown, hts, hin⟩ := F
  have hl : lv_has ls 5 [(0, .ref (o 0)), (1, .int (x1)), (2, .int (x2)), (3, .int (x3))] := hl
  have hn : y_n y ≤ 12 := hB.1
  have hcn : y_cn y ≤ 4 := hB.2.1
  have hrn : y_rn y ≤ 5 := hB.2.2
  have h_X11 := in_X11_addsRoad_X11
  have f9 := hts (.fieldLink RX11 9 "CartArgumentsModel" "all" "[I") (by decide +kernel)
  refine lv_iload_n hx hb dX11_addsRoad_0 rfl (lv_at hl 1 rfl) ?_
  refine lv_iconst (v := nI (1)) hx hb dX11_addsRoad_1 (by decide) ?_
  refine lv_bipush (v := nI (99)) hx hb dX11_addsRoad_2 (by decide) ?_
  refine zSI [.int (x1), .int (nI (1)), .int (nI (99))] [] (kX11_in (MW ct o v R) (x1) (nI (1)) (nI (99))) hx hb hml hown hts (va_cwS 3 hts gX11_addsRoad_X11_in rfl rfl rfl (by decide +kernel) ⟨(Nat.le_of_ble_eq_true rfl), (Nat.le_of_ble_eq_true rfl)⟩) hK hP hD hS hA rfl hl.1 rfl (Nat.le_of_ble_eq_true rfl) dX11_addsRoad_4 ⟨(Nat.le_of_ble_eq_true rfl), (Nat.le_of_ble_eq_true rfl)⟩ (fun r_4 _ H locs hr_4 hP hD hS => ?_)
  subst hr_4
  have hP : va_P D vwCl (MW ct o v R) H := hP
  have hD : va_D A (MW ct o v R) := hD
  refine zB_if_eq (tgt := 30) hx hb dX11_addsRoad_7 (by decide) (fun c7_1 => ?_) (fun c7_1 => ?_)
  · skip
    refine lv_bipush (v := (-2)) hx hb dX11_addsRoad_30 (by decide) ?_
    have e9 : F_addR y v x1 x2 x3 = ((-2), v) := (by simp only [F_addR, mRef, mG, mGF, mGFC, ixI, setAt, setG, yMove, nI_sub1, c7_1, p_in, p_worn, p_wi, p_creak, p_le0, p_lt1, p_rng, pmT, pmC, not_true_eq_false, not_false_eq_true, if_true, if_false, and_true, true_and, and_false, false_and, or_true, true_or, or_false, false_or, and_self, or_self, iff_true, true_iff, iff_false, false_iff, decide_eq_true_eq, decide_true, decide_false, Int32.add_zero, Nat.add_zero, ne_eq, Bool.false_eq_true, eq_self])
    exact zIret () hx hb hr hlocks hK (by show va_P D vwCl (MW ct o (F_addR y v x1 x2 x3).2 R) H; rw [e9]; exact hP) (by show va_D A (MW ct o (F_addR y v x1 x2 x3).2 R); rw [e9]; exact hD) hS dX11_addsRoad_32 (show (-2) = (F_addR y v x1 x2 x3).1 from (by rw [e9]))
  · skip
    refine lv_iload_n hx hb dX11_addsRoad_10 rfl (lv_at hl 2 rfl) ?_
    refine lv_iconst (v := nI (1)) hx hb dX11_addsRoad_11 (by decide) ?_
    refine lv_bipush (v := nI (9)) hx hb dX11_addsRoad_12 (by decide) ?_
    refine zSI [.int (x2), .int (nI (1)), .int (nI (9))] [] (kX11_in (MW ct o v R) (x2) (nI (1)) (nI (9))) hx hb hml hown hts (va_cwS 3 hts gX11_addsRoad_X11_in rfl rfl rfl (by decide +kernel) ⟨(Nat.le_of_ble_eq_true rfl), (Nat.le_of_ble_eq_true rfl)⟩) hK hP hD hS hA rfl hl.1 rfl (Nat.le_of_ble_eq_true rfl) dX11_addsRoad_14 ⟨(Nat.le_of_ble_eq_true rfl), (Nat.le_of_ble_eq_true rfl)⟩ (fun r_14 _ H locs hr_14 hP hD hS => ?_)
    subst hr_14
    have hP : va_P D vwCl (MW ct o v R) H := hP
    have hD : va_D A (MW ct o v R) := hD
    refine zB_if_eq (tgt := 30) hx hb dX11_addsRoad_17 (by decide) (fun c17_2 => ?_) (fun c17_2 => ?_)
    · skip
      refine lv_bipush (v := (-2)) hx hb dX11_addsRoad_30 (by decide) ?_
      have e9 : F_addR y v x1 x2 x3 = ((-2), v) := (by simp only [F_addR, mRef, mG, mGF, mGFC, ixI, setAt, setG, yMove, nI_sub1, c7_1, c17_2, p_in, p_worn, p_wi, p_creak, p_le0, p_lt1, p_rng, pmT, pmC, not_true_eq_false, not_false_eq_true, if_true, if_false, and_true, true_and, and_false, false_and, or_true, true_or, or_false, false_or, and_self, or_self, iff_true, true_iff, iff_false, false_iff, decide_eq_true_eq, decide_true, decide_false, Int32.add_zero, Nat.add_zero, ne_eq, Bool.false_eq_true, eq_self])
      exact zIret () hx hb hr hlocks hK (by show va_P D vwCl (MW ct o (F_addR y v x1 x2 x3).2 R) H; rw [e9]; exact hP) (by show va_D A (MW ct o (F_addR y v x1 x2 x3).2 R); rw [e9]; exact hD) hS dX11_addsRoad_32 (show (-2) = (F_addR y v x1 x2 x3).1 from (by rw [e9]))
    · skip
      refine lv_iload_n hx hb dX11_addsRoad_20 rfl (lv_at hl 3 rfl) ?_
      refine lv_iconst (v := nI (0)) hx hb dX11_addsRoad_21 (by decide) ?_
      refine lv_bipush (v := nI (9)) hx hb dX11_addsRoad_22 (by decide) ?_
      refine zSI [.int (x3), .int (nI (0)), .int (nI (9))] [] (kX11_in (MW ct o v R) (x3) (nI (0)) (nI (9))) hx hb hml hown hts (va_cwS 3 hts gX11_addsRoad_X11_in rfl rfl rfl (by decide +kernel) ⟨(Nat.le_of_ble_eq_true rfl), (Nat.le_of_ble_eq_true rfl)⟩) hK hP hD hS hA rfl hl.1 rfl (Nat.le_of_ble_eq_true rfl) dX11_addsRoad_24 ⟨(Nat.le_of_ble_eq_true rfl), (Nat.le_of_ble_eq_true rfl)⟩ (fun r_24 _ H locs hr_24 hP hD hS => ?_)
      subst hr_24
      have hP : va_P D vwCl (MW ct o v R) H := hP
      have hD : va_D A (MW ct o v R) := hD
      refine zB_if_ne (tgt := 33) hx hb dX11_addsRoad_27 (by decide) (fun c27_3 => ?_) (fun c27_3 => ?_)
      · skip
        refine lv_aload_n hx hb dX11_addsRoad_33 rfl (lv_at hl 0 rfl) ?_
        refine va_get (ci := 10) (v := .ref (o 1)) hx hb hts h_X11 hown hK hP 0 rfl rfl 0 (by decide) f9 (fun _ h9 => h9) rfl dX11_addsRoad_34 ?_
        refine lv_iconst (v := nI (2)) hx hb dX11_addsRoad_37 (by decide) ?_
        refine zIald (n := 972) (f := m_g v) (i := 2) hx hb hK hP 1 rfl (by omega) (by decide) dX11_addsRoad_38 ?_
        refine zTop (y := nI (y_rn y)) hq.2.2.1 ?_
        refine lv_istore (lv' := [(4, .int (nI (y_rn y))), (0, .ref (o 0)), (1, .int (x1)), (2, .int (x2)), (3, .int (x3))]) hx hb dX11_addsRoad_39 hl (by decide) rfl (fun ls hl => ?_)
        refine lv_aload_n hx hb dX11_addsRoad_41 rfl (lv_at hl 1 rfl) ?_
        refine lv_iload hx hb dX11_addsRoad_42 (lv_at hl 0 rfl) ?_
        refine lv_iconst (v := nI (5)) hx hb dX11_addsRoad_44 (by decide) ?_
        refine zN_icmp_ne (tgt := 52) hx hb (by omega) (by omega) dX11_addsRoad_45 (by decide) (fun c45_4 => ?_) (fun c45_4 => ?_)
        · skip
          refine lv_iconst (v := nI (0)) hx hb dX11_addsRoad_52 (by decide) ?_
          refine lv_iconst (v := nI (1)) hx hb dX11_addsRoad_53 (by decide) ?_
          refine lv_iconst (v := nI (5)) hx hb dX11_addsRoad_54 (by decide) ?_
          refine zVI [.int (nI (0)), .int (nI (1)), .int (nI (5))] [] (kX11_refuses_f (o) (v) (R) (nI (1)) (nI (5))) hx hb hml hown hts (cwV 3 hts gX11_addsRoad_X11_refuses rfl rfl rfl (by decide +kernel) ⟨(Nat.le_of_ble_eq_true rfl), (Nat.le_of_ble_eq_true rfl)⟩) hK hP hD hS hA (va_recv hK hP (ci := 10) (q0 := 0) rfl rfl) rfl hl.1 rfl (Nat.le_of_ble_eq_true rfl) dX11_addsRoad_55 ⟨(Nat.le_of_ble_eq_true rfl), (Nat.le_of_ble_eq_true rfl)⟩ (fun r_55 _ H locs hr_55 hP hD hS => ?_)
          subst hr_55
          have hP : va_P D vwCl (MW ct o v R) H := hP
          have hD : va_D A (MW ct o v R) := hD
          refine lv_if_eq (tgt := 64) hx hb dX11_addsRoad_58 (by decide) (fun c9 => ?_) (fun c9 => absurd (by decide) c9)
          refine lv_aload_n hx hb dX11_addsRoad_64 rfl (lv_at hl 1 rfl) ?_
          refine va_get (ci := 10) (v := .ref (o 1)) hx hb hts h_X11 hown hK hP 0 rfl rfl 0 (by decide) f9 (fun _ h9 => h9) rfl dX11_addsRoad_65 ?_
          refine lv_iconst (v := nI (2)) hx hb dX11_addsRoad_68 (by decide) ?_
          refine lv_dup2_11 hx hb dX11_addsRoad_69 rfl rfl ?_
          refine zIald (n := 972) (f := m_g v) (i := 2) hx hb hK hP 1 rfl (by omega) (by decide) dX11_addsRoad_70 ?_
          refine zTop (y := nI (y_rn y)) hq.2.2.1 ?_
          refine lv_iconst (v := nI (1)) hx hb dX11_addsRoad_71 (by decide) ?_
          refine zNadd hx hb dX11_addsRoad_72 ?_
          refine zIast (n := 972) (f := m_g v) (i := 2) hx hb hK hP hD hS 1 rfl (by omega) (by decide) dX11_addsRoad_73 (fun H locs hP hD hS => ?_)
          have hP : va_P D vwCl (MW ct o ((upd (m_g v) (2) (nI ((y_rn y + 1)))), m_fl v, m_ch v, m_sv v, m_why v, m_det v, m_li v, m_ld v, m_wt v, m_wm v, m_ln v, m_lz v, m_in v, m_ty v, m_he v, m_wa v, m_fa v, m_cm v, m_cz v) R) H := hP
          have hD : va_D A (MW ct o ((upd (m_g v) (2) (nI ((y_rn y + 1)))), m_fl v, m_ch v, m_sv v, m_why v, m_det v, m_li v, m_ld v, m_wt v, m_wm v, m_ln v, m_lz v, m_in v, m_ty v, m_he v, m_wa v, m_fa v, m_cm v, m_cz v) R) := hD
          refine lv_aload_n hx hb dX11_addsRoad_74 rfl (lv_at hl 1 rfl) ?_
          refine va_get (ci := 10) (v := .ref (o 1)) hx hb hts h_X11 hown hK hP 0 rfl rfl 0 (by decide) f9 (fun _ h9 => h9) rfl dX11_addsRoad_75 ?_
          refine lv_bipush (v := nI (61)) hx hb dX11_addsRoad_78 (by decide) ?_
          refine lv_iconst (v := nI (4)) hx hb dX11_addsRoad_80 (by decide) ?_
          refine lv_iload hx hb dX11_addsRoad_81 (lv_at hl 0 rfl) ?_
          refine zNmul hx hb dX11_addsRoad_83 ?_
          refine zNadd hx hb dX11_addsRoad_84 ?_
          refine lv_iload_n hx hb dX11_addsRoad_85 rfl (lv_at hl 2 rfl) ?_
          refine zIast (n := 972) (f := (upd (m_g v) (2) (nI ((y_rn y + 1))))) (i := (61 + (4 * y_rn y))) hx hb hK hP hD hS 1 rfl (by omega) (by decide) dX11_addsRoad_86 (fun H locs hP hD hS => ?_)
          have hP : va_P D vwCl (MW ct o ((upd ((upd (m_g v) (2) (nI ((y_rn y + 1))))) ((61 + (4 * y_rn y))) (x1)), m_fl v, m_ch v, m_sv v, m_why v, m_det v, m_li v, m_ld v, m_wt v, m_wm v, m_ln v, m_lz v, m_in v, m_ty v, m_he v, m_wa v, m_fa v, m_cm v, m_cz v) R) H := hP
          have hD : va_D A (MW ct o ((upd ((upd (m_g v) (2) (nI ((y_rn y + 1))))) ((61 + (4 * y_rn y))) (x1)), m_fl v, m_ch v, m_sv v, m_why v, m_det v, m_li v, m_ld v, m_wt v, m_wm v, m_ln v, m_lz v, m_in v, m_ty v, m_he v, m_wa v, m_fa v, m_cm v, m_cz v) R) := hD
          refine lv_aload_n hx hb dX11_addsRoad_87 rfl (lv_at hl 1 rfl) ?_
          refine va_get (ci := 10) (v := .ref (o 1)) hx hb hts h_X11 hown hK hP 0 rfl rfl 0 (by decide) f9 (fun _ h9 => h9) rfl dX11_addsRoad_88 ?_
          refine lv_bipush (v := nI (61)) hx hb dX11_addsRoad_91 (by decide) ?_
          refine lv_iconst (v := nI (4)) hx hb dX11_addsRoad_93 (by decide) ?_
          refine lv_iload hx hb dX11_addsRoad_94 (lv_at hl 0 rfl) ?_
          refine zNmul hx hb dX11_addsRoad_96 ?_
          refine zNadd hx hb dX11_addsRoad_97 ?_
          refine lv_iconst (v := nI (1)) hx hb dX11_addsRoad_98 (by decide) ?_
          refine zNadd hx hb dX11_addsRoad_99 ?_
          refine lv_iload_n hx hb dX11_addsRoad_100 rfl (lv_at hl 3 rfl) ?_
          refine zIast (n := 972) (f := (upd ((upd (m_g v) (2) (nI ((y_rn y + 1))))) ((61 + (4 * y_rn y))) (x1))) (i := ((61 + (4 * y_rn y)) + 1)) hx hb hK hP hD hS 1 rfl (by omega) (by decide) dX11_addsRoad_101 (fun H locs hP hD hS => ?_)
          have hP : va_P D vwCl (MW ct o ((upd ((upd ((upd (m_g v) (2) (nI ((y_rn y + 1))))) ((61 + (4 * y_rn y))) (x1))) (((61 + (4 * y_rn y)) + 1)) (x2)), m_fl v, m_ch v, m_sv v, m_why v, m_det v, m_li v, m_ld v, m_wt v, m_wm v, m_ln v, m_lz v, m_in v, m_ty v, m_he v, m_wa v, m_fa v, m_cm v, m_cz v) R) H := hP
          have hD : va_D A (MW ct o ((upd ((upd ((upd (m_g v) (2) (nI ((y_rn y + 1))))) ((61 + (4 * y_rn y))) (x1))) (((61 + (4 * y_rn y)) + 1)) (x2)), m_fl v, m_ch v, m_sv v, m_why v, m_det v, m_li v, m_ld v, m_wt v, m_wm v, m_ln v, m_lz v, m_in v, m_ty v, m_he v, m_wa v, m_fa v, m_cm v, m_cz v) R) := hD
          refine lv_aload_n hx hb dX11_addsRoad_102 rfl (lv_at hl 1 rfl) ?_
          refine va_get (ci := 10) (v := .ref (o 1)) hx hb hts h_X11 hown hK hP 0 rfl rfl 0 (by decide) f9 (fun _ h9 => h9) rfl dX11_addsRoad_103 ?_
          refine lv_bipush (v := nI (61)) hx hb dX11_addsRoad_106 (by decide) ?_
          refine lv_iconst (v := nI (4)) hx hb dX11_addsRoad_108 (by decide) ?_
          refine lv_iload hx hb dX11_addsRoad_109 (lv_at hl 0 rfl) ?_
          refine zNmul hx hb dX11_addsRoad_111 ?_
          refine zNadd hx hb dX11_addsRoad_112 ?_
          refine lv_iconst (v := nI (2)) hx hb dX11_addsRoad_113 (by decide) ?_
          refine zNadd hx hb dX11_addsRoad_114 ?_
          refine lv_iload_n hx hb dX11_addsRoad_115 rfl (lv_at hl 4 rfl) ?_
          refine zIast (n := 972) (f := (upd ((upd ((upd (m_g v) (2) (nI ((y_rn y + 1))))) ((61 + (4 * y_rn y))) (x1))) (((61 + (4 * y_rn y)) + 1)) (x2))) (i := ((61 + (4 * y_rn y)) + 2)) hx hb hK hP hD hS 1 rfl (by omega) (by decide) dX11_addsRoad_116 (fun H locs hP hD hS => ?_)
          have hP : va_P D vwCl (MW ct o ((upd ((upd ((upd ((upd (m_g v) (2) (nI ((y_rn y + 1))))) ((61 + (4 * y_rn y))) (x1))) (((61 + (4 * y_rn y)) + 1)) (x2))) (((61 + (4 * y_rn y)) + 2)) (x3)), m_fl v, m_ch v, m_sv v, m_why v, m_det v, m_li v, m_ld v, m_wt v, m_wm v, m_ln v, m_lz v, m_in v, m_ty v, m_he v, m_wa v, m_fa v, m_cm v, m_cz v) R) H := hP
          have hD : va_D A (MW ct o ((upd ((upd ((upd ((upd (m_g v) (2) (nI ((y_rn y + 1))))) ((61 + (4 * y_rn y))) (x1))) (((61 + (4 * y_rn y)) + 1)) (x2))) (((61 + (4 * y_rn y)) + 2)) (x3)), m_fl v, m_ch v, m_sv v, m_why v, m_det v, m_li v, m_ld v, m_wt v, m_wm v, m_ln v, m_lz v, m_in v, m_ty v, m_he v, m_wa v, m_fa v, m_cm v, m_cz v) R) := hD
          refine lv_aload_n hx hb dX11_addsRoad_117 rfl (lv_at hl 1 rfl) ?_
          refine va_get (ci := 10) (v := .ref (o 1)) hx hb hts h_X11 hown hK hP 0 rfl rfl 0 (by decide) f9 (fun _ h9 => h9) rfl dX11_addsRoad_118 ?_
          refine lv_bipush (v := nI (61)) hx hb dX11_addsRoad_121 (by decide) ?_
          refine lv_iconst (v := nI (4)) hx hb dX11_addsRoad_123 (by decide) ?_
          refine lv_iload hx hb dX11_addsRoad_124 (lv_at hl 0 rfl) ?_
          refine zNmul hx hb dX11_addsRoad_126 ?_
          refine zNadd hx hb dX11_addsRoad_127 ?_
          refine lv_iconst (v := nI (3)) hx hb dX11_addsRoad_128 (by decide) ?_
          refine zNadd hx hb dX11_addsRoad_129 ?_
          refine lv_iconst (v := nI (0)) hx hb dX11_addsRoad_130 (by decide) ?_
          refine zIast (n := 972) (f := (upd ((upd ((upd ((upd (m_g v) (2) (nI ((y_rn y + 1))))) ((61 + (4 * y_rn y))) (x1))) (((61 + (4 * y_rn y)) + 1)) (x2))) (((61 + (4 * y_rn y)) + 2)) (x3))) (i := ((61 + (4 * y_rn y)) + 3)) hx hb hK hP hD hS 1 rfl (by omega) (by decide) dX11_addsRoad_131 (fun H locs hP hD hS => ?_)
          have hP : va_P D vwCl (MW ct o ((upd ((upd ((upd ((upd ((upd (m_g v) (2) (nI ((y_rn y + 1))))) ((61 + (4 * y_rn y))) (x1))) (((61 + (4 * y_rn y)) + 1)) (x2))) (((61 + (4 * y_rn y)) + 2)) (x3))) (((61 + (4 * y_rn y)) + 3)) (nI (0))), m_fl v, m_ch v, m_sv v, m_why v, m_det v, m_li v, m_ld v, m_wt v, m_wm v, m_ln v, m_lz v, m_in v, m_ty v, m_he v, m_wa v, m_fa v, m_cm v, m_cz v) R) H := hP
          have hD : va_D A (MW ct o ((upd ((upd ((upd ((upd ((upd (m_g v) (2) (nI ((y_rn y + 1))))) ((61 + (4 * y_rn y))) (x1))) (((61 + (4 * y_rn y)) + 1)) (x2))) (((61 + (4 * y_rn y)) + 2)) (x3))) (((61 + (4 * y_rn y)) + 3)) (nI (0))), m_fl v, m_ch v, m_sv v, m_why v, m_det v, m_li v, m_ld v, m_wt v, m_wm v, m_ln v, m_lz v, m_in v, m_ty v, m_he v, m_wa v, m_fa v, m_cm v, m_cz v) R) := hD
          refine lv_iload hx hb dX11_addsRoad_132 (lv_at hl 0 rfl) ?_
          have e9 : F_addR y v x1 x2 x3 = (nI (y_rn y), ((upd ((upd ((upd ((upd ((upd (m_g v) (2) (nI ((y_rn y + 1))))) ((61 + (4 * y_rn y))) (x1))) (((61 + (4 * y_rn y)) + 1)) (x2))) (((61 + (4 * y_rn y)) + 2)) (x3))) (((61 + (4 * y_rn y)) + 3)) (nI (0))), m_fl v, m_ch v, m_sv v, m_why v, m_det v, m_li v, m_ld v, m_wt v, m_wm v, m_ln v, m_lz v, m_in v, m_ty v, m_he v, m_wa v, m_fa v, m_cm v, m_cz v)) := (by simp only [F_addR, mRef, mG, mGF, mGFC, ixI, setAt, setG, yMove, nI_sub1, c7_1, c17_2, c27_3, c45_4, p_in, p_worn, p_wi, p_creak, p_le0, p_lt1, p_rng, pmT, pmC, not_true_eq_false, not_false_eq_true, if_true, if_false, and_true, true_and, and_false, false_and, or_true, true_or, or_false, false_or, and_self, or_self, iff_true, true_iff, iff_false, false_iff, decide_eq_true_eq, decide_true, decide_false, Int32.add_zero, Nat.add_zero, ne_eq, Bool.false_eq_true, eq_self])
          exact zIret () hx hb hr hlocks hK (by show va_P D vwCl (MW ct o (F_addR y v x1 x2 x3).2 R) H; rw [e9]; exact hP) (by show va_D A (MW ct o (F_addR y v x1 x2 x3).2 R); rw [e9]; exact hD) hS dX11_addsRoad_134 (show nI (y_rn y) = (F_addR y v x1 x2 x3).1 from (by rw [e9]))
        · skip
          refine lv_iconst (v := nI (1)) hx hb dX11_addsRoad_48 (by decide) ?_
          refine lv_goto (tgt := 53) hx hb dX11_addsRoad_49 (by decide) ?_
          refine lv_iconst (v := nI (1)) hx hb dX11_addsRoad_53 (by decide) ?_
          refine lv_iconst (v := nI (5)) hx hb dX11_addsRoad_54 (by decide) ?_
          refine zVI [.int (nI (1)), .int (nI (1)), .int (nI (5))] [] (kX11_refuses_t (o) (v) (R) (nI (1)) (nI (5))) hx hb hml hown hts (cwV 3 hts gX11_addsRoad_X11_refuses rfl rfl rfl (by decide +kernel) ⟨(Nat.le_of_ble_eq_true rfl), (Nat.le_of_ble_eq_true rfl)⟩) hK hP hD hS hA (va_recv hK hP (ci := 10) (q0 := 0) rfl rfl) rfl hl.1 rfl (Nat.le_of_ble_eq_true rfl) dX11_addsRoad_55 ⟨(Nat.le_of_ble_eq_true rfl), (Nat.le_of_ble_eq_true rfl)⟩ (fun r_55 _ H locs hr_55 hP hD hS => ?_)
          subst hr_55
          have hP : va_P D vwCl (MW ct o ((m_g v), (m_fl v), (m_ch v), (m_sv v), (nI (1)), (nI (5)), (nI (0)), (m_ld v), (m_wt v), (m_wm v), (m_ln v), (m_lz v), (m_in v), (m_ty v), (m_he v), (m_wa v), (m_fa v), (m_cm v), (m_cz v)) R) H := hP
          have hD : va_D A (MW ct o ((m_g v), (m_fl v), (m_ch v), (m_sv v), (nI (1)), (nI (5)), (nI (0)), (m_ld v), (m_wt v), (m_wm v), (m_ln v), (m_lz v), (m_in v), (m_ty v), (m_he v), (m_wa v), (m_fa v), (m_cm v), (m_cz v)) R) := hD
          refine lv_if_eq (tgt := 64) hx hb dX11_addsRoad_58 (by decide) (fun c9 => absurd c9 (by decide)) (fun c9 => ?_)
          refine lv_bipush (v := (-3)) hx hb dX11_addsRoad_61 (by decide) ?_
          have e9 : F_addR y v x1 x2 x3 = ((-3), ((m_g v), (m_fl v), (m_ch v), (m_sv v), (nI (1)), (nI (5)), (nI (0)), (m_ld v), (m_wt v), (m_wm v), (m_ln v), (m_lz v), (m_in v), (m_ty v), (m_he v), (m_wa v), (m_fa v), (m_cm v), (m_cz v))) := (by simp only [F_addR, mRef, mG, mGF, mGFC, ixI, setAt, setG, yMove, nI_sub1, c7_1, c17_2, c27_3, eq_true c45_4, p_in, p_worn, p_wi, p_creak, p_le0, p_lt1, p_rng, pmT, pmC, not_true_eq_false, not_false_eq_true, if_true, if_false, and_true, true_and, and_false, false_and, or_true, true_or, or_false, false_or, and_self, or_self, iff_true, true_iff, iff_false, false_iff, decide_eq_true_eq, decide_true, decide_false, Int32.add_zero, Nat.add_zero, ne_eq, Bool.false_eq_true, eq_self])
          exact zIret () hx hb hr hlocks hK (by show va_P D vwCl (MW ct o (F_addR y v x1 x2 x3).2 R) H; rw [e9]; exact hP) (by show va_D A (MW ct o (F_addR y v x1 x2 x3).2 R); rw [e9]; exact hD) hS dX11_addsRoad_63 (show (-3) = (F_addR y v x1 x2 x3).1 from (by rw [e9]))
      · skip
        refine lv_bipush (v := (-2)) hx hb dX11_addsRoad_30 (by decide) ?_
        have e9 : F_addR y v x1 x2 x3 = ((-2), v) := (by simp only [F_addR, mRef, mG, mGF, mGFC, ixI, setAt, setG, yMove, nI_sub1, c7_1, c17_2, c27_3, p_in, p_worn, p_wi, p_creak, p_le0, p_lt1, p_rng, pmT, pmC, not_true_eq_false, not_false_eq_true, if_true, if_false, and_true, true_and, and_false, false_and, or_true, true_or, or_false, false_or, and_self, or_self, iff_true, true_iff, iff_false, false_iff, decide_eq_true_eq, decide_true, decide_false, Int32.add_zero, Nat.add_zero, ne_eq, Bool.false_eq_true, eq_self])
        exact zIret () hx hb hr hlocks hK (by show va_P D vwCl (MW ct o (F_addR y v x1 x2 x3).2 R) H; rw [e9]; exact hP) (by show va_D A (MW ct o (F_addR y v x1 x2 x3).2 R); rw [e9]; exact hD) hS dX11_addsRoad_32 (show (-2) = (F_addR y v x1 x2 x3).1 from (by rw [e9]))
abbrev rmX11_loads : Room := { frames := 4, cells := 0, slots := 0, locals := 90 }
theorem in_X11_loads_X11 : ∀ w ∈ u_ws RX11 TX11 19, w ∈ wsX11_loads := by decide +kernel
set_option maxHeartbeats 4000000 in
set_option maxRecDepth 100000 in
theorem kX11_loads {D : va_G} {ct : Nat → ClassId} {l : Launch} (o : Nat → Nat) (v : MS) (R : va_W) (x1 : Int32) (x2 : Int32) (x3 : Int32) (y : YS) (hB : y_n y ≤ 12 ∧ y_cn y ≤ 4 ∧ y_rn y ≤ 5) (hq : RelI y (m_g v)) : MI D ct l yX11_loads wsX11_loads rmX11_loads (MW ct o v R) [.ref (o 0), .int (x1), .int (x2), .int (x3)] (fun r0 (_ : Unit) => r0 = (F_put y v x1 x2 x3).1) (fun _ : Unit => MW ct o (F_put y v x1 x2 x3).2 R) := by
  refine MIof (cc := cX11_loads) (maxL := 7) (ret := (some .int)) (by decide) rfl (Nat.le_of_ble_eq_true rfl) ?_
  intro p e s m args below meth c A H locs F hP hK hD hS hA ls hl
  obtain ⟨hx, hb, hr, hlocks, hml, hown, hts, hin⟩ := F
  have hl : lv_has ls 7 [(0, .ref (o 0)), (1, .int (x1)), (2, .int (x2)), (3, .int (x3))] := hl
  have hn : y_n y ≤ 12 := hB.1
  have hcn : y_cn y ≤ 4 := hB.2.1
  have hrn : y_rn y ≤ 5 := hB.2.2
  have h_X11 := in_X11_loads_X11
  have f9 := hts (.fieldLink RX11 9 "CartArgumentsModel" "all" "[I") (by decide +kernel)
  refine lv_aload_n hx hb dX11_loads_0 rfl (lv_at hl 0 rfl) ?_
  refine lv_iload_n hx hb dX11_loads_1 rfl (lv_at hl 1 rfl) ?_
  refine zVI [.int (x1)] [] (kX11_isThing (o) (v) (R) (x1) (y) (show y_n (y) ≤ 12 ∧ y_cn (y) ≤ 4 ∧ y_rn (y) ≤ 5 from hB) (show RelI (y) (m_g v) from hq)) hx hb hml hown hts (cwV 1 hts gX11_loads_X11_isThing rfl rfl rfl (by decide +kernel) ⟨(Nat.le_of_ble_eq_true rfl), (Nat.le_of_ble_eq_true rfl)⟩) hK hP hD hS hA (va_recv hK hP (ci := 10) (q0 := 0) rfl rfl) rfl hl.1 rfl (Nat.le_of_ble_eq_true rfl) dX11_loads_2 ⟨(Nat.le_of_ble_eq_true rfl), (Nat.le_of_ble_eq_true rfl)⟩ (fun r_2 _ H locs hr_2 hP hD hS => ?_)
  subst hr_2
  have hP : va_P D vwCl (MW ct o v R) H := hP
  have hD : va_D A (MW ct o v R) := hD
  refine zB_if_eq (tgt := 16) hx hb dX11_loads_5 (by decide) (fun c5_1 => ?_) (fun c5_1 => ?_)
  · skip
    refine lv_iconst (v := (-1)) hx hb dX11_loads_16 (by decide) ?_
    have e9 : F_put y v x1 x2 x3 = ((-1), v) := (by simp only [F_put, mRef, mG, mGF, mGFC, ixI, setAt, setG, yMove, nI_sub1, nI_add, c5_1, p_in, p_worn, p_wi, p_creak, p_le0, p_lt1, p_rng, pmT, pmC, not_true_eq_false, not_false_eq_true, if_true, if_false, and_true, true_and, and_false, false_and, or_true, true_or, or_false, false_or, and_self, or_self, iff_true, true_iff, iff_false, false_iff, decide_eq_true_eq, decide_true, decide_false, Int32.add_zero, Nat.add_zero, ne_eq, Bool.false_eq_true, eq_self])
    exact zIret () hx hb hr hlocks hK (by show va_P D vwCl (MW ct o (F_put y v x1 x2 x3).2 R) H; rw [e9]; exact hP) (by show va_D A (MW ct o (F_put y v x1 x2 x3).2 R); rw [e9]; exact hD) hS dX11_loads_17 (show (-1) = (F_put y v x1 x2 x3).1 from (by rw [e9]))
  · skip
    obtain ⟨k1, hk1, ek1⟩ := p_in_ex (n := y_n y) (by omega) c5_1
    subst ek1
    have hclk1 : (nI k1).toNatClampNeg = k1 := nI_clamp (by omega)
    refine lv_aload_n hx hb dX11_loads_8 rfl (lv_at hl 0 rfl) ?_
    refine lv_iload_n hx hb dX11_loads_9 rfl (lv_at hl 2 rfl) ?_
    refine zVI [.int (x2)] [] (kX11_isCart (o) (v) (R) (x2) (y) (show y_n (y) ≤ 12 ∧ y_cn (y) ≤ 4 ∧ y_rn (y) ≤ 5 from hB) (show RelI (y) (m_g v) from hq)) hx hb hml hown hts (cwV 1 hts gX11_loads_X11_isCart rfl rfl rfl (by decide +kernel) ⟨(Nat.le_of_ble_eq_true rfl), (Nat.le_of_ble_eq_true rfl)⟩) hK hP hD hS hA (va_recv hK hP (ci := 10) (q0 := 0) rfl rfl) rfl hl.1 rfl (Nat.le_of_ble_eq_true rfl) dX11_loads_10 ⟨(Nat.le_of_ble_eq_true rfl), (Nat.le_of_ble_eq_true rfl)⟩ (fun r_10 _ H locs hr_10 hP hD hS => ?_)
    subst hr_10
    have hP : va_P D vwCl (MW ct o v R) H := hP
    have hD : va_D A (MW ct o v R) := hD
    refine zB_if_ne (tgt := 18) hx hb dX11_loads_13 (by decide) (fun c13_2 => ?_) (fun c13_2 => ?_)
    · skip
      obtain ⟨k2, hk2, ek2⟩ := p_in_ex (n := y_cn y) (by omega) c13_2
      subst ek2
      have hclk2 : (nI k2).toNatClampNeg = k2 := nI_clamp (by omega)
      refine lv_iload_n hx hb dX11_loads_18 rfl (lv_at hl 3 rfl) ?_
      refine lv_iconst (v := nI (0)) hx hb dX11_loads_19 (by decide) ?_
      refine lv_bipush (v := nI (6)) hx hb dX11_loads_20 (by decide) ?_
      refine zSI [.int (x3), .int (nI (0)), .int (nI (6))] [] (kX11_in (MW ct o v R) (x3) (nI (0)) (nI (6))) hx hb hml hown hts (va_cwS 3 hts gX11_loads_X11_in rfl rfl rfl (by decide +kernel) ⟨(Nat.le_of_ble_eq_true rfl), (Nat.le_of_ble_eq_true rfl)⟩) hK hP hD hS hA rfl hl.1 rfl (Nat.le_of_ble_eq_true rfl) dX11_loads_22 ⟨(Nat.le_of_ble_eq_true rfl), (Nat.le_of_ble_eq_true rfl)⟩ (fun r_22 _ H locs hr_22 hP hD hS => ?_)
      subst hr_22
      have hP : va_P D vwCl (MW ct o v R) H := hP
      have hD : va_D A (MW ct o v R) := hD
      refine zB_if_ne (tgt := 31) hx hb dX11_loads_25 (by decide) (fun c25_3 => ?_) (fun c25_3 => ?_)
      · skip
        refine lv_aload_n hx hb dX11_loads_31 rfl (lv_at hl 0 rfl) ?_
        refine lv_iload_n hx hb dX11_loads_32 rfl (lv_at hl 1 rfl) ?_
        refine lv_iconst (v := nI (0)) hx hb dX11_loads_33 (by decide) ?_
        refine zVI [.int (nI (k1)), .int (nI (0))] [] (kX11_t (o) (v) (R) (k1) (0) (show (k1) < 12 from by omega) (show (0) < 4 from by omega)) hx hb hml hown hts (cwV 2 hts gX11_loads_X11_t rfl rfl rfl (by decide +kernel) ⟨(Nat.le_of_ble_eq_true rfl), (Nat.le_of_ble_eq_true rfl)⟩) hK hP hD hS hA (va_recv hK hP (ci := 10) (q0 := 0) rfl rfl) rfl hl.1 rfl (Nat.le_of_ble_eq_true rfl) dX11_loads_34 ⟨(Nat.le_of_ble_eq_true rfl), (Nat.le_of_ble_eq_true rfl)⟩ (fun r_34 _ H locs hr_34 hP hD hS => ?_)
        subst hr_34
        have hP : va_P D vwCl (MW ct o v R) H := hP
        have hD : va_D A (MW ct o v R) := hD
        refine zTop (y := (y_kd y (k1))) (rel_kd hq (k := k1) (by omega)) ?_
        refine lv_iconst (v := nI (1)) hx hb dX11_loads_37 (by decide) ?_
        refine lv_icmp_ne (tgt := 45) hx hb dX11_loads_38 (by decide) (fun c38_4 => ?_) (fun c38_4 => ?_)
        · skip
          refine lv_iconst (v := nI (0)) hx hb dX11_loads_45 (by decide) ?_
          refine lv_istore (lv' := [(4, .int (nI (0))), (0, .ref (o 0)), (1, .int (nI (k1))), (2, .int (nI (k2))), (3, .int (x3))]) hx hb dX11_loads_46 hl (by decide) rfl (fun ls hl => ?_)
          refine lv_aload_n hx hb dX11_loads_48 rfl (lv_at hl 1 rfl) ?_
          refine lv_iload_n hx hb dX11_loads_49 rfl (lv_at hl 3 rfl) ?_
          refine lv_iload_n hx hb dX11_loads_50 rfl (lv_at hl 4 rfl) ?_
          refine zVI [.int (nI (k2)), .int (x3)] [] (kX11_thingAt (o) (v) (R) (k2) (x3) (y) (show y_n (y) ≤ 12 ∧ y_cn (y) ≤ 4 ∧ y_rn (y) ≤ 5 from hB) (show RelI (y) (m_g v) from hq) (show (k2) < 4 from by omega)) hx hb hml hown hts (cwV 2 hts gX11_loads_X11_thingAt rfl rfl rfl (by decide +kernel) ⟨(Nat.le_of_ble_eq_true rfl), (Nat.le_of_ble_eq_true rfl)⟩) hK hP hD hS hA (va_recv hK hP (ci := 10) (q0 := 0) rfl rfl) rfl hl.1 rfl (Nat.le_of_ble_eq_true rfl) dX11_loads_51 ⟨(Nat.le_of_ble_eq_true rfl), (Nat.le_of_ble_eq_true rfl)⟩ (fun r_51 _ H locs hr_51 hP hD hS => ?_)
          subst hr_51
          have hP : va_P D vwCl (MW ct o v R) H := hP
          have hD : va_D A (MW ct o v R) := hD
          refine lv_istore (lv' := [(5, .int ((t_at (y) (nI (k2)) (x3)))), (4, .int (nI (0))), (0, .ref (o 0)), (1, .int (nI (k1))), (2, .int (nI (k2))), (3, .int (x3))]) hx hb dX11_loads_54 hl (by decide) rfl (fun ls hl => ?_)
          refine lv_iload hx hb dX11_loads_56 (lv_at hl 1 rfl) ?_
          refine lv_if_eq (tgt := 78) hx hb dX11_loads_58 (by decide) (fun c9 => ?_) (fun c9 => absurd (by decide) c9)
          refine lv_iconst (v := nI (0)) hx hb dX11_loads_78 (by decide) ?_
          refine lv_istore (lv' := [(6, .int (nI (0))), (5, .int ((t_at (y) (nI (k2)) (x3)))), (4, .int (nI (0))), (0, .ref (o 0)), (1, .int (nI (k1))), (2, .int (nI (k2))), (3, .int (x3))]) hx hb dX11_loads_79 hl (by decide) rfl (fun ls hl => ?_)
          refine lv_aload_n hx hb dX11_loads_81 rfl (lv_at hl 3 rfl) ?_
          refine lv_aload_n hx hb dX11_loads_82 rfl (lv_at hl 3 rfl) ?_
          refine lv_iload_n hx hb dX11_loads_83 rfl (lv_at hl 4 rfl) ?_
          refine lv_iconst (v := nI (2)) hx hb dX11_loads_84 (by decide) ?_
          refine zVI [.int (nI (k1)), .int (nI (2))] [.ref (o 0)] (kX11_t (o) (v) (R) (k1) (2) (show (k1) < 12 from by omega) (show (2) < 4 from by omega)) hx hb hml hown hts (cwV 2 hts gX11_loads_X11_t rfl rfl rfl (by decide +kernel) ⟨(Nat.le_of_ble_eq_true rfl), (Nat.le_of_ble_eq_true rfl)⟩) hK hP hD hS hA (va_recv hK hP (ci := 10) (q0 := 0) rfl rfl) rfl hl.1 rfl (Nat.le_of_ble_eq_true rfl) dX11_loads_85 ⟨(Nat.le_of_ble_eq_true rfl), (Nat.le_of_ble_eq_true rfl)⟩ (fun r_85 _ H locs hr_85 hP hD hS => ?_)
          subst hr_85
          have hP : va_P D vwCl (MW ct o v R) H := hP
          have hD : va_D A (MW ct o v R) := hD
          rcases (hq.2.2.2.1 k1 (by omega)).2.2 with ⟨e1, e2, e3, e4⟩ | ⟨cc9, q9, hc9, hq9, e1, e2, e3, e4⟩
          · skip
            refine zTop (y := nI (0)) e3 ?_
            refine lv_if_le (tgt := 95) hx hb dX11_loads_88 (by decide) (fun c9 => ?_) (fun c9 => absurd (by decide) c9)
            refine lv_iconst (v := nI (0)) hx hb dX11_loads_95 (by decide) ?_
            refine lv_iconst (v := nI (2)) hx hb dX11_loads_96 (by decide) ?_
            refine lv_aload_n hx hb dX11_loads_97 rfl (lv_at hl 3 rfl) ?_
            refine lv_iload_n hx hb dX11_loads_98 rfl (lv_at hl 4 rfl) ?_
            refine lv_iconst (v := nI (2)) hx hb dX11_loads_99 (by decide) ?_
            refine zVI [.int (nI (k1)), .int (nI (2))] [.int (nI (2)), .int (nI (0)), .ref (o 0)] (kX11_t (o) (v) (R) (k1) (2) (show (k1) < 12 from by omega) (show (2) < 4 from by omega)) hx hb hml hown hts (cwV 2 hts gX11_loads_X11_t rfl rfl rfl (by decide +kernel) ⟨(Nat.le_of_ble_eq_true rfl), (Nat.le_of_ble_eq_true rfl)⟩) hK hP hD hS hA (va_recv hK hP (ci := 10) (q0 := 0) rfl rfl) rfl hl.1 rfl (Nat.le_of_ble_eq_true rfl) dX11_loads_100 ⟨(Nat.le_of_ble_eq_true rfl), (Nat.le_of_ble_eq_true rfl)⟩ (fun r_100 _ H locs hr_100 hP hD hS => ?_)
            subst hr_100
            have hP : va_P D vwCl (MW ct o v R) H := hP
            have hD : va_D A (MW ct o v R) := hD
            refine zTop (y := nI (0)) e3 ?_
            refine lv_iconst (v := nI (1)) hx hb dX11_loads_103 (by decide) ?_
            refine lv_isub hx hb dX11_loads_104 ?_
            refine zVI [.int (nI (0)), .int (nI (2)), .int ((nI (0) - nI (1)))] [] (kX11_refuses_f (o) (v) (R) (nI (2)) ((nI (0) - nI (1)))) hx hb hml hown hts (cwV 3 hts gX11_loads_X11_refuses rfl rfl rfl (by decide +kernel) ⟨(Nat.le_of_ble_eq_true rfl), (Nat.le_of_ble_eq_true rfl)⟩) hK hP hD hS hA (va_recv hK hP (ci := 10) (q0 := 0) rfl rfl) rfl hl.1 rfl (Nat.le_of_ble_eq_true rfl) dX11_loads_105 ⟨(Nat.le_of_ble_eq_true rfl), (Nat.le_of_ble_eq_true rfl)⟩ (fun r_105 _ H locs hr_105 hP hD hS => ?_)
            subst hr_105
            have hP : va_P D vwCl (MW ct o v R) H := hP
            have hD : va_D A (MW ct o v R) := hD
            refine lv_if_ne (tgt := 183) hx hb dX11_loads_108 (by decide) (fun c9 => absurd (by decide) c9) (fun c9 => ?_)
            refine lv_aload_n hx hb dX11_loads_111 rfl (lv_at hl 3 rfl) ?_
            refine lv_iload hx hb dX11_loads_112 (lv_at hl 2 rfl) ?_
            refine lv_iload_n hx hb dX11_loads_114 rfl (lv_at hl 6 rfl) ?_
            refine lv_bipush (v := nI (6)) hx hb dX11_loads_115 (by decide) ?_
            refine lv_icmp_ne (tgt := 124) hx hb dX11_loads_117 (by decide) (fun c117_8 => ?_) (fun c117_8 => ?_)
            · skip
              refine lv_iconst (v := nI (0)) hx hb dX11_loads_124 (by decide) ?_
              refine lv_icmp_eq (tgt := 132) hx hb dX11_loads_125 (by decide) (fun c9 => ?_) (fun c9 => absurd (by decide) c9)
              refine lv_iconst (v := nI (0)) hx hb dX11_loads_132 (by decide) ?_
              refine lv_iconst (v := nI (3)) hx hb dX11_loads_133 (by decide) ?_
              refine lv_iload_n hx hb dX11_loads_134 rfl (lv_at hl 6 rfl) ?_
              refine zVI [.int (nI (0)), .int (nI (3)), .int (x3)] [] (kX11_refuses_f (o) (v) (R) (nI (3)) (x3)) hx hb hml hown hts (cwV 3 hts gX11_loads_X11_refuses rfl rfl rfl (by decide +kernel) ⟨(Nat.le_of_ble_eq_true rfl), (Nat.le_of_ble_eq_true rfl)⟩) hK hP hD hS hA (va_recv hK hP (ci := 10) (q0 := 0) rfl rfl) rfl hl.1 rfl (Nat.le_of_ble_eq_true rfl) dX11_loads_135 ⟨(Nat.le_of_ble_eq_true rfl), (Nat.le_of_ble_eq_true rfl)⟩ (fun r_135 _ H locs hr_135 hP hD hS => ?_)
              subst hr_135
              have hP : va_P D vwCl (MW ct o v R) H := hP
              have hD : va_D A (MW ct o v R) := hD
              refine lv_if_ne (tgt := 183) hx hb dX11_loads_138 (by decide) (fun c9 => absurd (by decide) c9) (fun c9 => ?_)
              refine lv_aload_n hx hb dX11_loads_141 rfl (lv_at hl 3 rfl) ?_
              refine lv_iload hx hb dX11_loads_142 (lv_at hl 1 rfl) ?_
              refine lv_bipush (v := (-4)) hx hb dX11_loads_144 (by decide) ?_
              refine lv_icmp_eq (tgt := 153) hx hb dX11_loads_146 (by decide) (fun c146_11 => ?_) (fun c146_11 => ?_)
              · skip
                refine lv_iconst (v := nI (0)) hx hb dX11_loads_153 (by decide) ?_
                refine lv_iconst (v := nI (4)) hx hb dX11_loads_154 (by decide) ?_
                refine lv_iload hx hb dX11_loads_155 (lv_at hl 1 rfl) ?_
                refine zVI [.int (nI (0)), .int (nI (4)), .int ((t_at (y) (nI (k2)) (x3)))] [] (kX11_refuses_f (o) (v) (R) (nI (4)) ((t_at (y) (nI (k2)) (x3)))) hx hb hml hown hts (cwV 3 hts gX11_loads_X11_refuses rfl rfl rfl (by decide +kernel) ⟨(Nat.le_of_ble_eq_true rfl), (Nat.le_of_ble_eq_true rfl)⟩) hK hP hD hS hA (va_recv hK hP (ci := 10) (q0 := 0) rfl rfl) rfl hl.1 rfl (Nat.le_of_ble_eq_true rfl) dX11_loads_157 ⟨(Nat.le_of_ble_eq_true rfl), (Nat.le_of_ble_eq_true rfl)⟩ (fun r_157 _ H locs hr_157 hP hD hS => ?_)
                subst hr_157
                have hP : va_P D vwCl (MW ct o v R) H := hP
                have hD : va_D A (MW ct o v R) := hD
                refine lv_if_ne (tgt := 183) hx hb dX11_loads_160 (by decide) (fun c9 => absurd (by decide) c9) (fun c9 => ?_)
                refine lv_aload_n hx hb dX11_loads_163 rfl (lv_at hl 3 rfl) ?_
                refine lv_iload hx hb dX11_loads_164 (lv_at hl 0 rfl) ?_
                refine lv_if_le (tgt := 173) hx hb dX11_loads_166 (by decide) (fun c9 => ?_) (fun c9 => absurd (by decide) c9)
                refine lv_iconst (v := nI (0)) hx hb dX11_loads_173 (by decide) ?_
                refine lv_iconst (v := nI (5)) hx hb dX11_loads_174 (by decide) ?_
                refine lv_iload hx hb dX11_loads_175 (lv_at hl 0 rfl) ?_
                refine zVI [.int (nI (0)), .int (nI (5)), .int (nI (0))] [] (kX11_refuses_f (o) (v) (R) (nI (5)) (nI (0))) hx hb hml hown hts (cwV 3 hts gX11_loads_X11_refuses rfl rfl rfl (by decide +kernel) ⟨(Nat.le_of_ble_eq_true rfl), (Nat.le_of_ble_eq_true rfl)⟩) hK hP hD hS hA (va_recv hK hP (ci := 10) (q0 := 0) rfl rfl) rfl hl.1 rfl (Nat.le_of_ble_eq_true rfl) dX11_loads_177 ⟨(Nat.le_of_ble_eq_true rfl), (Nat.le_of_ble_eq_true rfl)⟩ (fun r_177 _ H locs hr_177 hP hD hS => ?_)
                subst hr_177
                have hP : va_P D vwCl (MW ct o v R) H := hP
                have hD : va_D A (MW ct o v R) := hD
                refine lv_if_eq (tgt := 186) hx hb dX11_loads_180 (by decide) (fun c9 => ?_) (fun c9 => absurd (by decide) c9)
                obtain ⟨k3, hk3, ek3⟩ := rng_ex (by decide) (by decide) c25_3
                subst ek3
                refine lv_aload_n hx hb dX11_loads_186 rfl (lv_at hl 3 rfl) ?_
                refine va_get (ci := 10) (v := .ref (o 1)) hx hb hts h_X11 hown hK hP 0 rfl rfl 0 (by decide) f9 (fun _ h9 => h9) rfl dX11_loads_187 ?_
                refine lv_iconst (v := nI (5)) hx hb dX11_loads_190 (by decide) ?_
                refine lv_iconst (v := nI (4)) hx hb dX11_loads_191 (by decide) ?_
                refine lv_iload_n hx hb dX11_loads_192 rfl (lv_at hl 4 rfl) ?_
                refine zNmul hx hb dX11_loads_193 ?_
                refine zNadd hx hb dX11_loads_194 ?_
                refine lv_iconst (v := nI (2)) hx hb dX11_loads_195 (by decide) ?_
                refine zNadd hx hb dX11_loads_196 ?_
                refine lv_iload_n hx hb dX11_loads_197 rfl (lv_at hl 5 rfl) ?_
                refine lv_iconst (v := nI (1)) hx hb dX11_loads_198 (by decide) ?_
                refine zNadd hx hb dX11_loads_199 ?_
                refine zIast (n := 972) (f := m_g v) (i := ((5 + (4 * k1)) + 2)) hx hb hK hP hD hS 1 rfl (by omega) (by decide) dX11_loads_200 (fun H locs hP hD hS => ?_)
                have hP : va_P D vwCl (MW ct o ((upd (m_g v) (((5 + (4 * k1)) + 2)) (nI ((k2 + 1)))), m_fl v, m_ch v, m_sv v, m_why v, m_det v, m_li v, m_ld v, m_wt v, m_wm v, m_ln v, m_lz v, m_in v, m_ty v, m_he v, m_wa v, m_fa v, m_cm v, m_cz v) R) H := hP
                have hD : va_D A (MW ct o ((upd (m_g v) (((5 + (4 * k1)) + 2)) (nI ((k2 + 1)))), m_fl v, m_ch v, m_sv v, m_why v, m_det v, m_li v, m_ld v, m_wt v, m_wm v, m_ln v, m_lz v, m_in v, m_ty v, m_he v, m_wa v, m_fa v, m_cm v, m_cz v) R) := hD
                refine lv_aload_n hx hb dX11_loads_201 rfl (lv_at hl 3 rfl) ?_
                refine va_get (ci := 10) (v := .ref (o 1)) hx hb hts h_X11 hown hK hP 0 rfl rfl 0 (by decide) f9 (fun _ h9 => h9) rfl dX11_loads_202 ?_
                refine lv_iconst (v := nI (5)) hx hb dX11_loads_205 (by decide) ?_
                refine lv_iconst (v := nI (4)) hx hb dX11_loads_206 (by decide) ?_
                refine lv_iload_n hx hb dX11_loads_207 rfl (lv_at hl 4 rfl) ?_
                refine zNmul hx hb dX11_loads_208 ?_
                refine zNadd hx hb dX11_loads_209 ?_
                refine lv_iconst (v := nI (3)) hx hb dX11_loads_210 (by decide) ?_
                refine zNadd hx hb dX11_loads_211 ?_
                refine lv_iload_n hx hb dX11_loads_212 rfl (lv_at hl 6 rfl) ?_
                refine zIast (n := 972) (f := (upd (m_g v) (((5 + (4 * k1)) + 2)) (nI ((k2 + 1))))) (i := ((5 + (4 * k1)) + 3)) hx hb hK hP hD hS 1 rfl (by omega) (by decide) dX11_loads_213 (fun H locs hP hD hS => ?_)
                have hP : va_P D vwCl (MW ct o ((upd ((upd (m_g v) (((5 + (4 * k1)) + 2)) (nI ((k2 + 1))))) (((5 + (4 * k1)) + 3)) (nI (k3))), m_fl v, m_ch v, m_sv v, m_why v, m_det v, m_li v, m_ld v, m_wt v, m_wm v, m_ln v, m_lz v, m_in v, m_ty v, m_he v, m_wa v, m_fa v, m_cm v, m_cz v) R) H := hP
                have hD : va_D A (MW ct o ((upd ((upd (m_g v) (((5 + (4 * k1)) + 2)) (nI ((k2 + 1))))) (((5 + (4 * k1)) + 3)) (nI (k3))), m_fl v, m_ch v, m_sv v, m_why v, m_det v, m_li v, m_ld v, m_wt v, m_wm v, m_ln v, m_lz v, m_in v, m_ty v, m_he v, m_wa v, m_fa v, m_cm v, m_cz v) R) := hD
                refine lv_aload_n hx hb dX11_loads_214 rfl (lv_at hl 3 rfl) ?_
                refine lv_iload_n hx hb dX11_loads_215 rfl (lv_at hl 5 rfl) ?_
                refine zVI [.int (nI (k2))] [] (kX11_weightOf (o) (((upd ((upd (m_g v) (((5 + (4 * k1)) + 2)) (nI ((k2 + 1))))) (((5 + (4 * k1)) + 3)) (nI (k3))), m_fl v, m_ch v, m_sv v, m_why v, m_det v, m_li v, m_ld v, m_wt v, m_wm v, m_ln v, m_lz v, m_in v, m_ty v, m_he v, m_wa v, m_fa v, m_cm v, m_cz v)) (R) (k2) (yMove y (upd (y_cu y) k1 (nI k2)) (upd (y_pl y) k1 (nI k3))) (show y_n (yMove y (upd (y_cu y) k1 (nI k2)) (upd (y_pl y) k1 (nI k3))) ≤ 12 ∧ y_cn (yMove y (upd (y_cu y) k1 (nI k2)) (upd (y_pl y) k1 (nI k3))) ≤ 4 ∧ y_rn (yMove y (upd (y_cu y) k1 (nI k2)) (upd (y_pl y) k1 (nI k3))) ≤ 5 from hB) (show RelI (yMove y (upd (y_cu y) k1 (nI k2)) (upd (y_pl y) k1 (nI k3))) ((upd ((upd (m_g v) (((5 + (4 * k1)) + 2)) (nI ((k2 + 1))))) (((5 + (4 * k1)) + 3)) (nI (k3)))) from RelI_put hB hq hk1 (by omega) (by omega)) (show (k2) < 4 from by omega)) hx hb hml hown hts (cwV 1 hts gX11_loads_X11_weightOf rfl rfl rfl (by decide +kernel) ⟨(Nat.le_of_ble_eq_true rfl), (Nat.le_of_ble_eq_true rfl)⟩) hK hP hD hS hA (va_recv hK hP (ci := 10) (q0 := 0) rfl rfl) rfl hl.1 rfl (Nat.le_of_ble_eq_true rfl) dX11_loads_216 ⟨(Nat.le_of_ble_eq_true rfl), (Nat.le_of_ble_eq_true rfl)⟩ (fun r_216 _ H locs hr_216 hP hD hS => ?_)
                subst hr_216
                have hP : va_P D vwCl (MW ct o ((upd ((upd (m_g v) (((5 + (4 * k1)) + 2)) (nI ((k2 + 1))))) (((5 + (4 * k1)) + 3)) (nI (k3))), m_fl v, m_ch v, m_sv v, m_why v, m_det v, m_li v, m_ld v, m_wt v, m_wm v, m_ln v, m_lz v, m_in v, m_ty v, m_he v, m_wa v, m_fa v, m_cm v, m_cz v) R) H := hP
                have hD : va_D A (MW ct o ((upd ((upd (m_g v) (((5 + (4 * k1)) + 2)) (nI ((k2 + 1))))) (((5 + (4 * k1)) + 3)) (nI (k3))), m_fl v, m_ch v, m_sv v, m_why v, m_det v, m_li v, m_ld v, m_wt v, m_wm v, m_ln v, m_lz v, m_in v, m_ty v, m_he v, m_wa v, m_fa v, m_cm v, m_cz v) R) := hD
                have e9 : F_put y v (nI k1) (nI k2) (nI k3) = ((t_all (yMove y (upd (y_cu y) k1 (nI k2)) (upd (y_pl y) k1 (nI k3))) (nI (k2))), ((upd ((upd (m_g v) (((5 + (4 * k1)) + 2)) (nI ((k2 + 1))))) (((5 + (4 * k1)) + 3)) (nI (k3))), m_fl v, m_ch v, m_sv v, m_why v, m_det v, m_li v, m_ld v, m_wt v, m_wm v, m_ln v, m_lz v, m_in v, m_ty v, m_he v, m_wa v, m_fa v, m_cm v, m_cz v)) := (by simp only [F_put, mRef, mG, mGF, mGFC, ixI, setAt, setG, yMove, nI_sub1, nI_add, c5_1, hclk1, c13_2, hclk2, c25_3, c38_4, e1, e2, c117_8, eq_true c146_11, p_in, p_worn, p_wi, p_creak, p_le0, p_lt1, p_rng, pmT, pmC, not_true_eq_false, not_false_eq_true, if_true, if_false, and_true, true_and, and_false, false_and, or_true, true_or, or_false, false_or, and_self, or_self, iff_true, true_iff, iff_false, false_iff, decide_eq_true_eq, decide_true, decide_false, Int32.add_zero, Nat.add_zero, ne_eq, Bool.false_eq_true, eq_self])
                exact zIret () hx hb hr hlocks hK (by show va_P D vwCl (MW ct o (F_put y v (nI k1) (nI k2) (nI k3)).2 R) H; rw [e9]; exact hP) (by show va_D A (MW ct o (F_put y v (nI k1) (nI k2) (nI k3)).2 R); rw [e9]; exact hD) hS dX11_loads_219 (show (t_all (yMove y (upd (y_cu y) k1 (nI k2)) (upd (y_pl y) k1 (nI k3))) (nI (k2))) = (F_put y v (nI k1) (nI k2) (nI k3)).1 from (by rw [e9]))
              · skip
                refine lv_iconst (v := nI (1)) hx hb dX11_loads_149 (by decide) ?_
                refine lv_goto (tgt := 154) hx hb dX11_loads_150 (by decide) ?_
                refine lv_iconst (v := nI (4)) hx hb dX11_loads_154 (by decide) ?_
                refine lv_iload hx hb dX11_loads_155 (lv_at hl 1 rfl) ?_
                refine zVI [.int (nI (1)), .int (nI (4)), .int ((t_at (y) (nI (k2)) (x3)))] [] (kX11_refuses_t (o) (v) (R) (nI (4)) ((t_at (y) (nI (k2)) (x3)))) hx hb hml hown hts (cwV 3 hts gX11_loads_X11_refuses rfl rfl rfl (by decide +kernel) ⟨(Nat.le_of_ble_eq_true rfl), (Nat.le_of_ble_eq_true rfl)⟩) hK hP hD hS hA (va_recv hK hP (ci := 10) (q0 := 0) rfl rfl) rfl hl.1 rfl (Nat.le_of_ble_eq_true rfl) dX11_loads_157 ⟨(Nat.le_of_ble_eq_true rfl), (Nat.le_of_ble_eq_true rfl)⟩ (fun r_157 _ H locs hr_157 hP hD hS => ?_)
                subst hr_157
                have hP : va_P D vwCl (MW ct o ((m_g v), (m_fl v), (m_ch v), (m_sv v), (nI (4)), ((t_at (y) (nI (k2)) (x3))), (nI (0)), (m_ld v), (m_wt v), (m_wm v), (m_ln v), (m_lz v), (m_in v), (m_ty v), (m_he v), (m_wa v), (m_fa v), (m_cm v), (m_cz v)) R) H := hP
                have hD : va_D A (MW ct o ((m_g v), (m_fl v), (m_ch v), (m_sv v), (nI (4)), ((t_at (y) (nI (k2)) (x3))), (nI (0)), (m_ld v), (m_wt v), (m_wm v), (m_ln v), (m_lz v), (m_in v), (m_ty v), (m_he v), (m_wa v), (m_fa v), (m_cm v), (m_cz v)) R) := hD
                refine lv_if_ne (tgt := 183) hx hb dX11_loads_160 (by decide) (fun c9 => ?_) (fun c9 => absurd c9 (by decide))
                refine lv_bipush (v := (-3)) hx hb dX11_loads_183 (by decide) ?_
                have e9 : F_put y v (nI k1) (nI k2) x3 = ((-3), ((m_g v), (m_fl v), (m_ch v), (m_sv v), (nI (4)), ((t_at (y) (nI (k2)) (x3))), (nI (0)), (m_ld v), (m_wt v), (m_wm v), (m_ln v), (m_lz v), (m_in v), (m_ty v), (m_he v), (m_wa v), (m_fa v), (m_cm v), (m_cz v))) := (by simp only [F_put, mRef, mG, mGF, mGFC, ixI, setAt, setG, yMove, nI_sub1, nI_add, c5_1, hclk1, c13_2, hclk2, c25_3, c38_4, e1, e2, c117_8, c146_11, p_in, p_worn, p_wi, p_creak, p_le0, p_lt1, p_rng, pmT, pmC, not_true_eq_false, not_false_eq_true, if_true, if_false, and_true, true_and, and_false, false_and, or_true, true_or, or_false, false_or, and_self, or_self, iff_true, true_iff, iff_false, false_iff, decide_eq_true_eq, decide_true, decide_false, Int32.add_zero, Nat.add_zero, ne_eq, Bool.false_eq_true, eq_self])
                exact zIret () hx hb hr hlocks hK (by show va_P D vwCl (MW ct o (F_put y v (nI k1) (nI k2) x3).2 R) H; rw [e9]; exact hP) (by show va_D A (MW ct o (F_put y v (nI k1) (nI k2) x3).2 R); rw [e9]; exact hD) hS dX11_loads_185 (show (-3) = (F_put y v (nI k1) (nI k2) x3).1 from (by rw [e9]))
            · skip
              refine lv_iconst (v := nI (1)) hx hb dX11_loads_120 (by decide) ?_
              refine lv_goto (tgt := 125) hx hb dX11_loads_121 (by decide) ?_
              refine lv_icmp_eq (tgt := 132) hx hb dX11_loads_125 (by decide) (fun c9 => absurd c9 (by decide)) (fun c9 => ?_)
              refine lv_iconst (v := nI (1)) hx hb dX11_loads_128 (by decide) ?_
              refine lv_goto (tgt := 133) hx hb dX11_loads_129 (by decide) ?_
              refine lv_iconst (v := nI (3)) hx hb dX11_loads_133 (by decide) ?_
              refine lv_iload_n hx hb dX11_loads_134 rfl (lv_at hl 6 rfl) ?_
              refine zVI [.int (nI (1)), .int (nI (3)), .int (x3)] [] (kX11_refuses_t (o) (v) (R) (nI (3)) (x3)) hx hb hml hown hts (cwV 3 hts gX11_loads_X11_refuses rfl rfl rfl (by decide +kernel) ⟨(Nat.le_of_ble_eq_true rfl), (Nat.le_of_ble_eq_true rfl)⟩) hK hP hD hS hA (va_recv hK hP (ci := 10) (q0 := 0) rfl rfl) rfl hl.1 rfl (Nat.le_of_ble_eq_true rfl) dX11_loads_135 ⟨(Nat.le_of_ble_eq_true rfl), (Nat.le_of_ble_eq_true rfl)⟩ (fun r_135 _ H locs hr_135 hP hD hS => ?_)
              subst hr_135
              have hP : va_P D vwCl (MW ct o ((m_g v), (m_fl v), (m_ch v), (m_sv v), (nI (3)), (x3), (nI (0)), (m_ld v), (m_wt v), (m_wm v), (m_ln v), (m_lz v), (m_in v), (m_ty v), (m_he v), (m_wa v), (m_fa v), (m_cm v), (m_cz v)) R) H := hP
              have hD : va_D A (MW ct o ((m_g v), (m_fl v), (m_ch v), (m_sv v), (nI (3)), (x3), (nI (0)), (m_ld v), (m_wt v), (m_wm v), (m_ln v), (m_lz v), (m_in v), (m_ty v), (m_he v), (m_wa v), (m_fa v), (m_cm v), (m_cz v)) R) := hD
              refine lv_if_ne (tgt := 183) hx hb dX11_loads_138 (by decide) (fun c9 => ?_) (fun c9 => absurd c9 (by decide))
              refine lv_bipush (v := (-3)) hx hb dX11_loads_183 (by decide) ?_
              have e9 : F_put y v (nI k1) (nI k2) x3 = ((-3), ((m_g v), (m_fl v), (m_ch v), (m_sv v), (nI (3)), (x3), (nI (0)), (m_ld v), (m_wt v), (m_wm v), (m_ln v), (m_lz v), (m_in v), (m_ty v), (m_he v), (m_wa v), (m_fa v), (m_cm v), (m_cz v))) := (by simp only [F_put, mRef, mG, mGF, mGFC, ixI, setAt, setG, yMove, nI_sub1, nI_add, c5_1, hclk1, c13_2, hclk2, c25_3, c38_4, e1, e2, eq_true c117_8, p_in, p_worn, p_wi, p_creak, p_le0, p_lt1, p_rng, pmT, pmC, not_true_eq_false, not_false_eq_true, if_true, if_false, and_true, true_and, and_false, false_and, or_true, true_or, or_false, false_or, and_self, or_self, iff_true, true_iff, iff_false, false_iff, decide_eq_true_eq, decide_true, decide_false, Int32.add_zero, Nat.add_zero, ne_eq, Bool.false_eq_true, eq_self])
              exact zIret () hx hb hr hlocks hK (by show va_P D vwCl (MW ct o (F_put y v (nI k1) (nI k2) x3).2 R) H; rw [e9]; exact hP) (by show va_D A (MW ct o (F_put y v (nI k1) (nI k2) x3).2 R); rw [e9]; exact hD) hS dX11_loads_185 (show (-3) = (F_put y v (nI k1) (nI k2) x3).1 from (by rw [e9]))
          · skip
            refine zTop (y := nI (cc9 + 1)) e3 ?_
            refine zN_if_le (tgt := 95) hx hb (by omega) dX11_loads_88 (by decide) (fun c88_18 => ?_) (fun c88_18 => ?_)
            · skip
              exact absurd c88_18 (by omega)
            · skip
              refine lv_iconst (v := nI (1)) hx hb dX11_loads_91 (by decide) ?_
              refine lv_goto (tgt := 96) hx hb dX11_loads_92 (by decide) ?_
              refine lv_iconst (v := nI (2)) hx hb dX11_loads_96 (by decide) ?_
              refine lv_aload_n hx hb dX11_loads_97 rfl (lv_at hl 3 rfl) ?_
              refine lv_iload_n hx hb dX11_loads_98 rfl (lv_at hl 4 rfl) ?_
              refine lv_iconst (v := nI (2)) hx hb dX11_loads_99 (by decide) ?_
              refine zVI [.int (nI (k1)), .int (nI (2))] [.int (nI (2)), .int (nI (1)), .ref (o 0)] (kX11_t (o) (v) (R) (k1) (2) (show (k1) < 12 from by omega) (show (2) < 4 from by omega)) hx hb hml hown hts (cwV 2 hts gX11_loads_X11_t rfl rfl rfl (by decide +kernel) ⟨(Nat.le_of_ble_eq_true rfl), (Nat.le_of_ble_eq_true rfl)⟩) hK hP hD hS hA (va_recv hK hP (ci := 10) (q0 := 0) rfl rfl) rfl hl.1 rfl (Nat.le_of_ble_eq_true rfl) dX11_loads_100 ⟨(Nat.le_of_ble_eq_true rfl), (Nat.le_of_ble_eq_true rfl)⟩ (fun r_100 _ H locs hr_100 hP hD hS => ?_)
              subst hr_100
              have hP : va_P D vwCl (MW ct o v R) H := hP
              have hD : va_D A (MW ct o v R) := hD
              refine zTop (y := nI (cc9 + 1)) e3 ?_
              refine lv_iconst (v := nI (1)) hx hb dX11_loads_103 (by decide) ?_
              refine lv_isub hx hb dX11_loads_104 ?_
              refine zVI [.int (nI (1)), .int (nI (2)), .int ((nI (cc9 + 1) - nI (1)))] [] (kX11_refuses_t (o) (v) (R) (nI (2)) ((nI (cc9 + 1) - nI (1)))) hx hb hml hown hts (cwV 3 hts gX11_loads_X11_refuses rfl rfl rfl (by decide +kernel) ⟨(Nat.le_of_ble_eq_true rfl), (Nat.le_of_ble_eq_true rfl)⟩) hK hP hD hS hA (va_recv hK hP (ci := 10) (q0 := 0) rfl rfl) rfl hl.1 rfl (Nat.le_of_ble_eq_true rfl) dX11_loads_105 ⟨(Nat.le_of_ble_eq_true rfl), (Nat.le_of_ble_eq_true rfl)⟩ (fun r_105 _ H locs hr_105 hP hD hS => ?_)
              subst hr_105
              have hP : va_P D vwCl (MW ct o ((m_g v), (m_fl v), (m_ch v), (m_sv v), (nI (2)), ((nI (cc9 + 1) - nI (1))), (nI (0)), (m_ld v), (m_wt v), (m_wm v), (m_ln v), (m_lz v), (m_in v), (m_ty v), (m_he v), (m_wa v), (m_fa v), (m_cm v), (m_cz v)) R) H := hP
              have hD : va_D A (MW ct o ((m_g v), (m_fl v), (m_ch v), (m_sv v), (nI (2)), ((nI (cc9 + 1) - nI (1))), (nI (0)), (m_ld v), (m_wt v), (m_wm v), (m_ln v), (m_lz v), (m_in v), (m_ty v), (m_he v), (m_wa v), (m_fa v), (m_cm v), (m_cz v)) R) := hD
              refine lv_if_ne (tgt := 183) hx hb dX11_loads_108 (by decide) (fun c9 => ?_) (fun c9 => absurd c9 (by decide))
              refine lv_bipush (v := (-3)) hx hb dX11_loads_183 (by decide) ?_
              have e9 : F_put y v (nI k1) (nI k2) x3 = ((-3), ((m_g v), (m_fl v), (m_ch v), (m_sv v), (nI (2)), ((nI (cc9 + 1) - nI (1))), (nI (0)), (m_ld v), (m_wt v), (m_wm v), (m_ln v), (m_lz v), (m_in v), (m_ty v), (m_he v), (m_wa v), (m_fa v), (m_cm v), (m_cz v))) := (by simp only [F_put, mRef, mG, mGF, mGFC, ixI, setAt, setG, yMove, nI_sub1, nI_add, c5_1, hclk1, c13_2, hclk2, c25_3, c38_4, e1, e2, nI_ne4 (k := cc9) (by omega), c88_18, p_in, p_worn, p_wi, p_creak, p_le0, p_lt1, p_rng, pmT, pmC, not_true_eq_false, not_false_eq_true, if_true, if_false, and_true, true_and, and_false, false_and, or_true, true_or, or_false, false_or, and_self, or_self, iff_true, true_iff, iff_false, false_iff, decide_eq_true_eq, decide_true, decide_false, Int32.add_zero, Nat.add_zero, ne_eq, Bool.false_eq_true, eq_self])
              exact zIret () hx hb hr hlocks hK (by show va_P D vwCl (MW ct o (F_put y v (nI k1) (nI k2) x3).2 R) H; rw [e9]; exact hP) (by show va_D A (MW ct o (F_put y v (nI k1) (nI k2) x3).2 R); rw [e9]; exact hD) hS dX11_loads_185 (show (-3) = (F_put y v (nI k1) (nI k2) x3).1 from (by rw [e9]))
        · skip
          refine lv_iconst (v := nI (1)) hx hb dX11_loads_41 (by decide) ?_
          refine lv_goto (tgt := 46) hx hb dX11_loads_42 (by decide) ?_
          refine lv_istore (lv' := [(4, .int (nI (1))), (0, .ref (o 0)), (1, .int (nI (k1))), (2, .int (nI (k2))), (3, .int (x3))]) hx hb dX11_loads_46 hl (by decide) rfl (fun ls hl => ?_)
          refine lv_aload_n hx hb dX11_loads_48 rfl (lv_at hl 1 rfl) ?_
          refine lv_iload_n hx hb dX11_loads_49 rfl (lv_at hl 3 rfl) ?_
          refine lv_iload_n hx hb dX11_loads_50 rfl (lv_at hl 4 rfl) ?_
          refine zVI [.int (nI (k2)), .int (x3)] [] (kX11_thingAt (o) (v) (R) (k2) (x3) (y) (show y_n (y) ≤ 12 ∧ y_cn (y) ≤ 4 ∧ y_rn (y) ≤ 5 from hB) (show RelI (y) (m_g v) from hq) (show (k2) < 4 from by omega)) hx hb hml hown hts (cwV 2 hts gX11_loads_X11_thingAt rfl rfl rfl (by decide +kernel) ⟨(Nat.le_of_ble_eq_true rfl), (Nat.le_of_ble_eq_true rfl)⟩) hK hP hD hS hA (va_recv hK hP (ci := 10) (q0 := 0) rfl rfl) rfl hl.1 rfl (Nat.le_of_ble_eq_true rfl) dX11_loads_51 ⟨(Nat.le_of_ble_eq_true rfl), (Nat.le_of_ble_eq_true rfl)⟩ (fun r_51 _ H locs hr_51 hP hD hS => ?_)
          subst hr_51
          have hP : va_P D vwCl (MW ct o v R) H := hP
          have hD : va_D A (MW ct o v R) := hD
          refine lv_istore (lv' := [(5, .int ((t_at (y) (nI (k2)) (x3)))), (4, .int (nI (1))), (0, .ref (o 0)), (1, .int (nI (k1))), (2, .int (nI (k2))), (3, .int (x3))]) hx hb dX11_loads_54 hl (by decide) rfl (fun ls hl => ?_)
          refine lv_iload hx hb dX11_loads_56 (lv_at hl 1 rfl) ?_
          refine lv_if_eq (tgt := 78) hx hb dX11_loads_58 (by decide) (fun c9 => absurd c9 (by decide)) (fun c9 => ?_)
          refine lv_aload_n hx hb dX11_loads_61 rfl (lv_at hl 2 rfl) ?_
          refine lv_iload_n hx hb dX11_loads_62 rfl (lv_at hl 3 rfl) ?_
          refine lv_iconst (v := nI (1)) hx hb dX11_loads_63 (by decide) ?_
          refine zVI [.int (nI (k1)), .int (nI (1))] [] (kX11_t (o) (v) (R) (k1) (1) (show (k1) < 12 from by omega) (show (1) < 4 from by omega)) hx hb hml hown hts (cwV 2 hts gX11_loads_X11_t rfl rfl rfl (by decide +kernel) ⟨(Nat.le_of_ble_eq_true rfl), (Nat.le_of_ble_eq_true rfl)⟩) hK hP hD hS hA (va_recv hK hP (ci := 10) (q0 := 0) rfl rfl) rfl hl.1 rfl (Nat.le_of_ble_eq_true rfl) dX11_loads_64 ⟨(Nat.le_of_ble_eq_true rfl), (Nat.le_of_ble_eq_true rfl)⟩ (fun r_64 _ H locs hr_64 hP hD hS => ?_)
          subst hr_64
          have hP : va_P D vwCl (MW ct o v R) H := hP
          have hD : va_D A (MW ct o v R) := hD
          refine zTop (y := (y_w y (k1))) (rel_w hq (k := k1) (by omega)) ?_
          refine lv_aload_n hx hb dX11_loads_67 rfl (lv_at hl 2 rfl) ?_
          refine lv_iload_n hx hb dX11_loads_68 rfl (lv_at hl 4 rfl) ?_
          refine lv_iconst (v := nI (0)) hx hb dX11_loads_69 (by decide) ?_
          refine lv_iconst (v := nI (1)) hx hb dX11_loads_70 (by decide) ?_
          refine zVI [.int (nI (k2)), .int (nI (0)), .int (nI (1))] [.int ((y_w y (k1)))] (kX11_onCart_w (o) (v) (R) (k2) (nI (0)) (y) (show y_n (y) ≤ 12 ∧ y_cn (y) ≤ 4 ∧ y_rn (y) ≤ 5 from hB) (show RelI (y) (m_g v) from hq) (show (k2) < 4 from by omega)) hx hb hml hown hts (cwV 3 hts gX11_loads_X11_onCart rfl rfl rfl (by decide +kernel) ⟨(Nat.le_of_ble_eq_true rfl), (Nat.le_of_ble_eq_true rfl)⟩) hK hP hD hS hA (va_recv hK hP (ci := 10) (q0 := 0) rfl rfl) rfl hl.1 rfl (Nat.le_of_ble_eq_true rfl) dX11_loads_71 ⟨(Nat.le_of_ble_eq_true rfl), (Nat.le_of_ble_eq_true rfl)⟩ (fun r_71 _ H locs hr_71 hP hD hS => ?_)
          subst hr_71
          have hP : va_P D vwCl (MW ct o v R) H := hP
          have hD : va_D A (MW ct o v R) := hD
          refine lv_isub hx hb dX11_loads_74 ?_
          refine lv_goto (tgt := 79) hx hb dX11_loads_75 (by decide) ?_
          refine lv_istore (lv' := [(6, .int (((y_w y (k1)) - (t_wo (y) (nI (k2)) (nI (0)))))), (5, .int ((t_at (y) (nI (k2)) (x3)))), (4, .int (nI (1))), (0, .ref (o 0)), (1, .int (nI (k1))), (2, .int (nI (k2))), (3, .int (x3))]) hx hb dX11_loads_79 hl (by decide) rfl (fun ls hl => ?_)
          refine lv_aload_n hx hb dX11_loads_81 rfl (lv_at hl 3 rfl) ?_
          refine lv_aload_n hx hb dX11_loads_82 rfl (lv_at hl 3 rfl) ?_
          refine lv_iload_n hx hb dX11_loads_83 rfl (lv_at hl 4 rfl) ?_
          refine lv_iconst (v := nI (2)) hx hb dX11_loads_84 (by decide) ?_
          refine zVI [.int (nI (k1)), .int (nI (2))] [.ref (o 0)] (kX11_t (o) (v) (R) (k1) (2) (show (k1) < 12 from by omega) (show (2) < 4 from by omega)) hx hb hml hown hts (cwV 2 hts gX11_loads_X11_t rfl rfl rfl (by decide +kernel) ⟨(Nat.le_of_ble_eq_true rfl), (Nat.le_of_ble_eq_true rfl)⟩) hK hP hD hS hA (va_recv hK hP (ci := 10) (q0 := 0) rfl rfl) rfl hl.1 rfl (Nat.le_of_ble_eq_true rfl) dX11_loads_85 ⟨(Nat.le_of_ble_eq_true rfl), (Nat.le_of_ble_eq_true rfl)⟩ (fun r_85 _ H locs hr_85 hP hD hS => ?_)
          subst hr_85
          have hP : va_P D vwCl (MW ct o v R) H := hP
          have hD : va_D A (MW ct o v R) := hD
          rcases (hq.2.2.2.1 k1 (by omega)).2.2 with ⟨e1, e2, e3, e4⟩ | ⟨cc9, q9, hc9, hq9, e1, e2, e3, e4⟩
          · skip
            refine zTop (y := nI (0)) e3 ?_
            refine lv_if_le (tgt := 95) hx hb dX11_loads_88 (by decide) (fun c9 => ?_) (fun c9 => absurd (by decide) c9)
            refine lv_iconst (v := nI (0)) hx hb dX11_loads_95 (by decide) ?_
            refine lv_iconst (v := nI (2)) hx hb dX11_loads_96 (by decide) ?_
            refine lv_aload_n hx hb dX11_loads_97 rfl (lv_at hl 3 rfl) ?_
            refine lv_iload_n hx hb dX11_loads_98 rfl (lv_at hl 4 rfl) ?_
            refine lv_iconst (v := nI (2)) hx hb dX11_loads_99 (by decide) ?_
            refine zVI [.int (nI (k1)), .int (nI (2))] [.int (nI (2)), .int (nI (0)), .ref (o 0)] (kX11_t (o) (v) (R) (k1) (2) (show (k1) < 12 from by omega) (show (2) < 4 from by omega)) hx hb hml hown hts (cwV 2 hts gX11_loads_X11_t rfl rfl rfl (by decide +kernel) ⟨(Nat.le_of_ble_eq_true rfl), (Nat.le_of_ble_eq_true rfl)⟩) hK hP hD hS hA (va_recv hK hP (ci := 10) (q0 := 0) rfl rfl) rfl hl.1 rfl (Nat.le_of_ble_eq_true rfl) dX11_loads_100 ⟨(Nat.le_of_ble_eq_true rfl), (Nat.le_of_ble_eq_true rfl)⟩ (fun r_100 _ H locs hr_100 hP hD hS => ?_)
            subst hr_100
            have hP : va_P D vwCl (MW ct o v R) H := hP
            have hD : va_D A (MW ct o v R) := hD
            refine zTop (y := nI (0)) e3 ?_
            refine lv_iconst (v := nI (1)) hx hb dX11_loads_103 (by decide) ?_
            refine lv_isub hx hb dX11_loads_104 ?_
            refine zVI [.int (nI (0)), .int (nI (2)), .int ((nI (0) - nI (1)))] [] (kX11_refuses_f (o) (v) (R) (nI (2)) ((nI (0) - nI (1)))) hx hb hml hown hts (cwV 3 hts gX11_loads_X11_refuses rfl rfl rfl (by decide +kernel) ⟨(Nat.le_of_ble_eq_true rfl), (Nat.le_of_ble_eq_true rfl)⟩) hK hP hD hS hA (va_recv hK hP (ci := 10) (q0 := 0) rfl rfl) rfl hl.1 rfl (Nat.le_of_ble_eq_true rfl) dX11_loads_105 ⟨(Nat.le_of_ble_eq_true rfl), (Nat.le_of_ble_eq_true rfl)⟩ (fun r_105 _ H locs hr_105 hP hD hS => ?_)
            subst hr_105
            have hP : va_P D vwCl (MW ct o v R) H := hP
            have hD : va_D A (MW ct o v R) := hD
            refine lv_if_ne (tgt := 183) hx hb dX11_loads_108 (by decide) (fun c9 => absurd (by decide) c9) (fun c9 => ?_)
            refine lv_aload_n hx hb dX11_loads_111 rfl (lv_at hl 3 rfl) ?_
            refine lv_iload hx hb dX11_loads_112 (lv_at hl 2 rfl) ?_
            refine lv_iload_n hx hb dX11_loads_114 rfl (lv_at hl 6 rfl) ?_
            refine lv_bipush (v := nI (6)) hx hb dX11_loads_115 (by decide) ?_
            refine lv_icmp_ne (tgt := 124) hx hb dX11_loads_117 (by decide) (fun c117_23 => ?_) (fun c117_23 => ?_)
            · skip
              refine lv_iconst (v := nI (0)) hx hb dX11_loads_124 (by decide) ?_
              refine lv_icmp_eq (tgt := 132) hx hb dX11_loads_125 (by decide) (fun c9 => absurd c9 (by decide)) (fun c9 => ?_)
              refine lv_iconst (v := nI (1)) hx hb dX11_loads_128 (by decide) ?_
              refine lv_goto (tgt := 133) hx hb dX11_loads_129 (by decide) ?_
              refine lv_iconst (v := nI (3)) hx hb dX11_loads_133 (by decide) ?_
              refine lv_iload_n hx hb dX11_loads_134 rfl (lv_at hl 6 rfl) ?_
              refine zVI [.int (nI (1)), .int (nI (3)), .int (x3)] [] (kX11_refuses_t (o) (v) (R) (nI (3)) (x3)) hx hb hml hown hts (cwV 3 hts gX11_loads_X11_refuses rfl rfl rfl (by decide +kernel) ⟨(Nat.le_of_ble_eq_true rfl), (Nat.le_of_ble_eq_true rfl)⟩) hK hP hD hS hA (va_recv hK hP (ci := 10) (q0 := 0) rfl rfl) rfl hl.1 rfl (Nat.le_of_ble_eq_true rfl) dX11_loads_135 ⟨(Nat.le_of_ble_eq_true rfl), (Nat.le_of_ble_eq_true rfl)⟩ (fun r_135 _ H locs hr_135 hP hD hS => ?_)
              subst hr_135
              have hP : va_P D vwCl (MW ct o ((m_g v), (m_fl v), (m_ch v), (m_sv v), (nI (3)), (x3), (nI (0)), (m_ld v), (m_wt v), (m_wm v), (m_ln v), (m_lz v), (m_in v), (m_ty v), (m_he v), (m_wa v), (m_fa v), (m_cm v), (m_cz v)) R) H := hP
              have hD : va_D A (MW ct o ((m_g v), (m_fl v), (m_ch v), (m_sv v), (nI (3)), (x3), (nI (0)), (m_ld v), (m_wt v), (m_wm v), (m_ln v), (m_lz v), (m_in v), (m_ty v), (m_he v), (m_wa v), (m_fa v), (m_cm v), (m_cz v)) R) := hD
              refine lv_if_ne (tgt := 183) hx hb dX11_loads_138 (by decide) (fun c9 => ?_) (fun c9 => absurd c9 (by decide))
              refine lv_bipush (v := (-3)) hx hb dX11_loads_183 (by decide) ?_
              have e9 : F_put y v (nI k1) (nI k2) x3 = ((-3), ((m_g v), (m_fl v), (m_ch v), (m_sv v), (nI (3)), (x3), (nI (0)), (m_ld v), (m_wt v), (m_wm v), (m_ln v), (m_lz v), (m_in v), (m_ty v), (m_he v), (m_wa v), (m_fa v), (m_cm v), (m_cz v))) := (by simp only [F_put, mRef, mG, mGF, mGFC, ixI, setAt, setG, yMove, nI_sub1, nI_add, c5_1, hclk1, c13_2, hclk2, c25_3, eq_true c38_4, e1, e2, c117_23, p_in, p_worn, p_wi, p_creak, p_le0, p_lt1, p_rng, pmT, pmC, not_true_eq_false, not_false_eq_true, if_true, if_false, and_true, true_and, and_false, false_and, or_true, true_or, or_false, false_or, and_self, or_self, iff_true, true_iff, iff_false, false_iff, decide_eq_true_eq, decide_true, decide_false, Int32.add_zero, Nat.add_zero, ne_eq, Bool.false_eq_true, eq_self])
              exact zIret () hx hb hr hlocks hK (by show va_P D vwCl (MW ct o (F_put y v (nI k1) (nI k2) x3).2 R) H; rw [e9]; exact hP) (by show va_D A (MW ct o (F_put y v (nI k1) (nI k2) x3).2 R); rw [e9]; exact hD) hS dX11_loads_185 (show (-3) = (F_put y v (nI k1) (nI k2) x3).1 from (by rw [e9]))
            · skip
              refine lv_iconst (v := nI (1)) hx hb dX11_loads_120 (by decide) ?_
              refine lv_goto (tgt := 125) hx hb dX11_loads_121 (by decide) ?_
              refine lv_icmp_eq (tgt := 132) hx hb dX11_loads_125 (by decide) (fun c9 => ?_) (fun c9 => absurd (by decide) c9)
              refine lv_iconst (v := nI (0)) hx hb dX11_loads_132 (by decide) ?_
              refine lv_iconst (v := nI (3)) hx hb dX11_loads_133 (by decide) ?_
              refine lv_iload_n hx hb dX11_loads_134 rfl (lv_at hl 6 rfl) ?_
              refine zVI [.int (nI (0)), .int (nI (3)), .int (x3)] [] (kX11_refuses_f (o) (v) (R) (nI (3)) (x3)) hx hb hml hown hts (cwV 3 hts gX11_loads_X11_refuses rfl rfl rfl (by decide +kernel) ⟨(Nat.le_of_ble_eq_true rfl), (Nat.le_of_ble_eq_true rfl)⟩) hK hP hD hS hA (va_recv hK hP (ci := 10) (q0 := 0) rfl rfl) rfl hl.1 rfl (Nat.le_of_ble_eq_true rfl) dX11_loads_135 ⟨(Nat.le_of_ble_eq_true rfl), (Nat.le_of_ble_eq_true rfl)⟩ (fun r_135 _ H locs hr_135 hP hD hS => ?_)
              subst hr_135
              have hP : va_P D vwCl (MW ct o v R) H := hP
              have hD : va_D A (MW ct o v R) := hD
              refine lv_if_ne (tgt := 183) hx hb dX11_loads_138 (by decide) (fun c9 => absurd (by decide) c9) (fun c9 => ?_)
              refine lv_aload_n hx hb dX11_loads_141 rfl (lv_at hl 3 rfl) ?_
              refine lv_iload hx hb dX11_loads_142 (lv_at hl 1 rfl) ?_
              refine lv_bipush (v := (-4)) hx hb dX11_loads_144 (by decide) ?_
              refine lv_icmp_eq (tgt := 153) hx hb dX11_loads_146 (by decide) (fun c146_28 => ?_) (fun c146_28 => ?_)
              · skip
                refine lv_iconst (v := nI (0)) hx hb dX11_loads_153 (by decide) ?_
                refine lv_iconst (v := nI (4)) hx hb dX11_loads_154 (by decide) ?_
                refine lv_iload hx hb dX11_loads_155 (lv_at hl 1 rfl) ?_
                refine zVI [.int (nI (0)), .int (nI (4)), .int ((t_at (y) (nI (k2)) (x3)))] [] (kX11_refuses_f (o) (v) (R) (nI (4)) ((t_at (y) (nI (k2)) (x3)))) hx hb hml hown hts (cwV 3 hts gX11_loads_X11_refuses rfl rfl rfl (by decide +kernel) ⟨(Nat.le_of_ble_eq_true rfl), (Nat.le_of_ble_eq_true rfl)⟩) hK hP hD hS hA (va_recv hK hP (ci := 10) (q0 := 0) rfl rfl) rfl hl.1 rfl (Nat.le_of_ble_eq_true rfl) dX11_loads_157 ⟨(Nat.le_of_ble_eq_true rfl), (Nat.le_of_ble_eq_true rfl)⟩ (fun r_157 _ H locs hr_157 hP hD hS => ?_)
                subst hr_157
                have hP : va_P D vwCl (MW ct o v R) H := hP
                have hD : va_D A (MW ct o v R) := hD
                refine lv_if_ne (tgt := 183) hx hb dX11_loads_160 (by decide) (fun c9 => absurd (by decide) c9) (fun c9 => ?_)
                refine lv_aload_n hx hb dX11_loads_163 rfl (lv_at hl 3 rfl) ?_
                refine lv_iload hx hb dX11_loads_164 (lv_at hl 0 rfl) ?_
                refine lv_if_le (tgt := 173) hx hb dX11_loads_166 (by decide) (fun c166_30 => ?_) (fun c166_30 => ?_)
                · skip
                  refine lv_iconst (v := nI (0)) hx hb dX11_loads_173 (by decide) ?_
                  refine lv_iconst (v := nI (5)) hx hb dX11_loads_174 (by decide) ?_
                  refine lv_iload hx hb dX11_loads_175 (lv_at hl 0 rfl) ?_
                  refine zVI [.int (nI (0)), .int (nI (5)), .int (((y_w y (k1)) - (t_wo (y) (nI (k2)) (nI (0)))))] [] (kX11_refuses_f (o) (v) (R) (nI (5)) (((y_w y (k1)) - (t_wo (y) (nI (k2)) (nI (0)))))) hx hb hml hown hts (cwV 3 hts gX11_loads_X11_refuses rfl rfl rfl (by decide +kernel) ⟨(Nat.le_of_ble_eq_true rfl), (Nat.le_of_ble_eq_true rfl)⟩) hK hP hD hS hA (va_recv hK hP (ci := 10) (q0 := 0) rfl rfl) rfl hl.1 rfl (Nat.le_of_ble_eq_true rfl) dX11_loads_177 ⟨(Nat.le_of_ble_eq_true rfl), (Nat.le_of_ble_eq_true rfl)⟩ (fun r_177 _ H locs hr_177 hP hD hS => ?_)
                  subst hr_177
                  have hP : va_P D vwCl (MW ct o v R) H := hP
                  have hD : va_D A (MW ct o v R) := hD
                  refine lv_if_eq (tgt := 186) hx hb dX11_loads_180 (by decide) (fun c9 => ?_) (fun c9 => absurd (by decide) c9)
                  obtain ⟨k3, hk3, ek3⟩ := rng_ex (by decide) (by decide) c25_3
                  subst ek3
                  refine lv_aload_n hx hb dX11_loads_186 rfl (lv_at hl 3 rfl) ?_
                  refine va_get (ci := 10) (v := .ref (o 1)) hx hb hts h_X11 hown hK hP 0 rfl rfl 0 (by decide) f9 (fun _ h9 => h9) rfl dX11_loads_187 ?_
                  refine lv_iconst (v := nI (5)) hx hb dX11_loads_190 (by decide) ?_
                  refine lv_iconst (v := nI (4)) hx hb dX11_loads_191 (by decide) ?_
                  refine lv_iload_n hx hb dX11_loads_192 rfl (lv_at hl 4 rfl) ?_
                  refine zNmul hx hb dX11_loads_193 ?_
                  refine zNadd hx hb dX11_loads_194 ?_
                  refine lv_iconst (v := nI (2)) hx hb dX11_loads_195 (by decide) ?_
                  refine zNadd hx hb dX11_loads_196 ?_
                  refine lv_iload_n hx hb dX11_loads_197 rfl (lv_at hl 5 rfl) ?_
                  refine lv_iconst (v := nI (1)) hx hb dX11_loads_198 (by decide) ?_
                  refine zNadd hx hb dX11_loads_199 ?_
                  refine zIast (n := 972) (f := m_g v) (i := ((5 + (4 * k1)) + 2)) hx hb hK hP hD hS 1 rfl (by omega) (by decide) dX11_loads_200 (fun H locs hP hD hS => ?_)
                  have hP : va_P D vwCl (MW ct o ((upd (m_g v) (((5 + (4 * k1)) + 2)) (nI ((k2 + 1)))), m_fl v, m_ch v, m_sv v, m_why v, m_det v, m_li v, m_ld v, m_wt v, m_wm v, m_ln v, m_lz v, m_in v, m_ty v, m_he v, m_wa v, m_fa v, m_cm v, m_cz v) R) H := hP
                  have hD : va_D A (MW ct o ((upd (m_g v) (((5 + (4 * k1)) + 2)) (nI ((k2 + 1)))), m_fl v, m_ch v, m_sv v, m_why v, m_det v, m_li v, m_ld v, m_wt v, m_wm v, m_ln v, m_lz v, m_in v, m_ty v, m_he v, m_wa v, m_fa v, m_cm v, m_cz v) R) := hD
                  refine lv_aload_n hx hb dX11_loads_201 rfl (lv_at hl 3 rfl) ?_
                  refine va_get (ci := 10) (v := .ref (o 1)) hx hb hts h_X11 hown hK hP 0 rfl rfl 0 (by decide) f9 (fun _ h9 => h9) rfl dX11_loads_202 ?_
                  refine lv_iconst (v := nI (5)) hx hb dX11_loads_205 (by decide) ?_
                  refine lv_iconst (v := nI (4)) hx hb dX11_loads_206 (by decide) ?_
                  refine lv_iload_n hx hb dX11_loads_207 rfl (lv_at hl 4 rfl) ?_
                  refine zNmul hx hb dX11_loads_208 ?_
                  refine zNadd hx hb dX11_loads_209 ?_
                  refine lv_iconst (v := nI (3)) hx hb dX11_loads_210 (by decide) ?_
                  refine zNadd hx hb dX11_loads_211 ?_
                  refine lv_iload_n hx hb dX11_loads_212 rfl (lv_at hl 6 rfl) ?_
                  refine zIast (n := 972) (f := (upd (m_g v) (((5 + (4 * k1)) + 2)) (nI ((k2 + 1))))) (i := ((5 + (4 * k1)) + 3)) hx hb hK hP hD hS 1 rfl (by omega) (by decide) dX11_loads_213 (fun H locs hP hD hS => ?_)
                  have hP : va_P D vwCl (MW ct o ((upd ((upd (m_g v) (((5 + (4 * k1)) + 2)) (nI ((k2 + 1))))) (((5 + (4 * k1)) + 3)) (nI (k3))), m_fl v, m_ch v, m_sv v, m_why v, m_det v, m_li v, m_ld v, m_wt v, m_wm v, m_ln v, m_lz v, m_in v, m_ty v, m_he v, m_wa v, m_fa v, m_cm v, m_cz v) R) H := hP
                  have hD : va_D A (MW ct o ((upd ((upd (m_g v) (((5 + (4 * k1)) + 2)) (nI ((k2 + 1))))) (((5 + (4 * k1)) + 3)) (nI (k3))), m_fl v, m_ch v, m_sv v, m_why v, m_det v, m_li v, m_ld v, m_wt v, m_wm v, m_ln v, m_lz v, m_in v, m_ty v, m_he v, m_wa v, m_fa v, m_cm v, m_cz v) R) := hD
                  refine lv_aload_n hx hb dX11_loads_214 rfl (lv_at hl 3 rfl) ?_
                  refine lv_iload_n hx hb dX11_loads_215 rfl (lv_at hl 5 rfl) ?_
                  refine zVI [.int (nI (k2))] [] (kX11_weightOf (o) (((upd ((upd (m_g v) (((5 + (4 * k1)) + 2)) (nI ((k2 + 1))))) (((5 + (4 * k1)) + 3)) (nI (k3))), m_fl v, m_ch v, m_sv v, m_why v, m_det v, m_li v, m_ld v, m_wt v, m_wm v, m_ln v, m_lz v, m_in v, m_ty v, m_he v, m_wa v, m_fa v, m_cm v, m_cz v)) (R) (k2) (yMove y (upd (y_cu y) k1 (nI k2)) (upd (y_pl y) k1 (nI k3))) (show y_n (yMove y (upd (y_cu y) k1 (nI k2)) (upd (y_pl y) k1 (nI k3))) ≤ 12 ∧ y_cn (yMove y (upd (y_cu y) k1 (nI k2)) (upd (y_pl y) k1 (nI k3))) ≤ 4 ∧ y_rn (yMove y (upd (y_cu y) k1 (nI k2)) (upd (y_pl y) k1 (nI k3))) ≤ 5 from hB) (show RelI (yMove y (upd (y_cu y) k1 (nI k2)) (upd (y_pl y) k1 (nI k3))) ((upd ((upd (m_g v) (((5 + (4 * k1)) + 2)) (nI ((k2 + 1))))) (((5 + (4 * k1)) + 3)) (nI (k3)))) from RelI_put hB hq hk1 (by omega) (by omega)) (show (k2) < 4 from by omega)) hx hb hml hown hts (cwV 1 hts gX11_loads_X11_weightOf rfl rfl rfl (by decide +kernel) ⟨(Nat.le_of_ble_eq_true rfl), (Nat.le_of_ble_eq_true rfl)⟩) hK hP hD hS hA (va_recv hK hP (ci := 10) (q0 := 0) rfl rfl) rfl hl.1 rfl (Nat.le_of_ble_eq_true rfl) dX11_loads_216 ⟨(Nat.le_of_ble_eq_true rfl), (Nat.le_of_ble_eq_true rfl)⟩ (fun r_216 _ H locs hr_216 hP hD hS => ?_)
                  subst hr_216
                  have hP : va_P D vwCl (MW ct o ((upd ((upd (m_g v) (((5 + (4 * k1)) + 2)) (nI ((k2 + 1))))) (((5 + (4 * k1)) + 3)) (nI (k3))), m_fl v, m_ch v, m_sv v, m_why v, m_det v, m_li v, m_ld v, m_wt v, m_wm v, m_ln v, m_lz v, m_in v, m_ty v, m_he v, m_wa v, m_fa v, m_cm v, m_cz v) R) H := hP
                  have hD : va_D A (MW ct o ((upd ((upd (m_g v) (((5 + (4 * k1)) + 2)) (nI ((k2 + 1))))) (((5 + (4 * k1)) + 3)) (nI (k3))), m_fl v, m_ch v, m_sv v, m_why v, m_det v, m_li v, m_ld v, m_wt v, m_wm v, m_ln v, m_lz v, m_in v, m_ty v, m_he v, m_wa v, m_fa v, m_cm v, m_cz v) R) := hD
                  have e9 : F_put y v (nI k1) (nI k2) (nI k3) = ((t_all (yMove y (upd (y_cu y) k1 (nI k2)) (upd (y_pl y) k1 (nI k3))) (nI (k2))), ((upd ((upd (m_g v) (((5 + (4 * k1)) + 2)) (nI ((k2 + 1))))) (((5 + (4 * k1)) + 3)) (nI (k3))), m_fl v, m_ch v, m_sv v, m_why v, m_det v, m_li v, m_ld v, m_wt v, m_wm v, m_ln v, m_lz v, m_in v, m_ty v, m_he v, m_wa v, m_fa v, m_cm v, m_cz v)) := (by simp only [F_put, mRef, mG, mGF, mGFC, ixI, setAt, setG, yMove, nI_sub1, nI_add, c5_1, hclk1, c13_2, hclk2, c25_3, eq_true c38_4, e1, e2, eq_true c117_23, eq_true c146_28, c166_30, p_in, p_worn, p_wi, p_creak, p_le0, p_lt1, p_rng, pmT, pmC, not_true_eq_false, not_false_eq_true, if_true, if_false, and_true, true_and, and_false, false_and, or_true, true_or, or_false, false_or, and_self, or_self, iff_true, true_iff, iff_false, false_iff, decide_eq_true_eq, decide_true, decide_false, Int32.add_zero, Nat.add_zero, ne_eq, Bool.false_eq_true, eq_self])
                  exact zIret () hx hb hr hlocks hK (by show va_P D vwCl (MW ct o (F_put y v (nI k1) (nI k2) (nI k3)).2 R) H; rw [e9]; exact hP) (by show va_D A (MW ct o (F_put y v (nI k1) (nI k2) (nI k3)).2 R); rw [e9]; exact hD) hS dX11_loads_219 (show (t_all (yMove y (upd (y_cu y) k1 (nI k2)) (upd (y_pl y) k1 (nI k3))) (nI (k2))) = (F_put y v (nI k1) (nI k2) (nI k3)).1 from (by rw [e9]))
                · skip
                  refine lv_iconst (v := nI (1)) hx hb dX11_loads_169 (by decide) ?_
                  refine lv_goto (tgt := 174) hx hb dX11_loads_170 (by decide) ?_
                  refine lv_iconst (v := nI (5)) hx hb dX11_loads_174 (by decide) ?_
                  refine lv_iload hx hb dX11_loads_175 (lv_at hl 0 rfl) ?_
                  refine zVI [.int (nI (1)), .int (nI (5)), .int (((y_w y (k1)) - (t_wo (y) (nI (k2)) (nI (0)))))] [] (kX11_refuses_t (o) (v) (R) (nI (5)) (((y_w y (k1)) - (t_wo (y) (nI (k2)) (nI (0)))))) hx hb hml hown hts (cwV 3 hts gX11_loads_X11_refuses rfl rfl rfl (by decide +kernel) ⟨(Nat.le_of_ble_eq_true rfl), (Nat.le_of_ble_eq_true rfl)⟩) hK hP hD hS hA (va_recv hK hP (ci := 10) (q0 := 0) rfl rfl) rfl hl.1 rfl (Nat.le_of_ble_eq_true rfl) dX11_loads_177 ⟨(Nat.le_of_ble_eq_true rfl), (Nat.le_of_ble_eq_true rfl)⟩ (fun r_177 _ H locs hr_177 hP hD hS => ?_)
                  subst hr_177
                  have hP : va_P D vwCl (MW ct o ((m_g v), (m_fl v), (m_ch v), (m_sv v), (nI (5)), (((y_w y (k1)) - (t_wo (y) (nI (k2)) (nI (0))))), (nI (0)), (m_ld v), (m_wt v), (m_wm v), (m_ln v), (m_lz v), (m_in v), (m_ty v), (m_he v), (m_wa v), (m_fa v), (m_cm v), (m_cz v)) R) H := hP
                  have hD : va_D A (MW ct o ((m_g v), (m_fl v), (m_ch v), (m_sv v), (nI (5)), (((y_w y (k1)) - (t_wo (y) (nI (k2)) (nI (0))))), (nI (0)), (m_ld v), (m_wt v), (m_wm v), (m_ln v), (m_lz v), (m_in v), (m_ty v), (m_he v), (m_wa v), (m_fa v), (m_cm v), (m_cz v)) R) := hD
                  refine lv_if_eq (tgt := 186) hx hb dX11_loads_180 (by decide) (fun c9 => absurd c9 (by decide)) (fun c9 => ?_)
                  refine lv_bipush (v := (-3)) hx hb dX11_loads_183 (by decide) ?_
                  have e9 : F_put y v (nI k1) (nI k2) x3 = ((-3), ((m_g v), (m_fl v), (m_ch v), (m_sv v), (nI (5)), (((y_w y (k1)) - (t_wo (y) (nI (k2)) (nI (0))))), (nI (0)), (m_ld v), (m_wt v), (m_wm v), (m_ln v), (m_lz v), (m_in v), (m_ty v), (m_he v), (m_wa v), (m_fa v), (m_cm v), (m_cz v))) := (by simp only [F_put, mRef, mG, mGF, mGFC, ixI, setAt, setG, yMove, nI_sub1, nI_add, c5_1, hclk1, c13_2, hclk2, c25_3, eq_true c38_4, e1, e2, eq_true c117_23, eq_true c146_28, c166_30, p_in, p_worn, p_wi, p_creak, p_le0, p_lt1, p_rng, pmT, pmC, not_true_eq_false, not_false_eq_true, if_true, if_false, and_true, true_and, and_false, false_and, or_true, true_or, or_false, false_or, and_self, or_self, iff_true, true_iff, iff_false, false_iff, decide_eq_true_eq, decide_true, decide_false, Int32.add_zero, Nat.add_zero, ne_eq, Bool.false_eq_true, eq_self])
                  exact zIret () hx hb hr hlocks hK (by show va_P D vwCl (MW ct o (F_put y v (nI k1) (nI k2) x3).2 R) H; rw [e9]; exact hP) (by show va_D A (MW ct o (F_put y v (nI k1) (nI k2) x3).2 R); rw [e9]; exact hD) hS dX11_loads_185 (show (-3) = (F_put y v (nI k1) (nI k2) x3).1 from (by rw [e9]))
              · skip
                refine lv_iconst (v := nI (1)) hx hb dX11_loads_149 (by decide) ?_
                refine lv_goto (tgt := 154) hx hb dX11_loads_150 (by decide) ?_
                refine lv_iconst (v := nI (4)) hx hb dX11_loads_154 (by decide) ?_
                refine lv_iload hx hb dX11_loads_155 (lv_at hl 1 rfl) ?_
                refine zVI [.int (nI (1)), .int (nI (4)), .int ((t_at (y) (nI (k2)) (x3)))] [] (kX11_refuses_t (o) (v) (R) (nI (4)) ((t_at (y) (nI (k2)) (x3)))) hx hb hml hown hts (cwV 3 hts gX11_loads_X11_refuses rfl rfl rfl (by decide +kernel) ⟨(Nat.le_of_ble_eq_true rfl), (Nat.le_of_ble_eq_true rfl)⟩) hK hP hD hS hA (va_recv hK hP (ci := 10) (q0 := 0) rfl rfl) rfl hl.1 rfl (Nat.le_of_ble_eq_true rfl) dX11_loads_157 ⟨(Nat.le_of_ble_eq_true rfl), (Nat.le_of_ble_eq_true rfl)⟩ (fun r_157 _ H locs hr_157 hP hD hS => ?_)
                subst hr_157
                have hP : va_P D vwCl (MW ct o ((m_g v), (m_fl v), (m_ch v), (m_sv v), (nI (4)), ((t_at (y) (nI (k2)) (x3))), (nI (0)), (m_ld v), (m_wt v), (m_wm v), (m_ln v), (m_lz v), (m_in v), (m_ty v), (m_he v), (m_wa v), (m_fa v), (m_cm v), (m_cz v)) R) H := hP
                have hD : va_D A (MW ct o ((m_g v), (m_fl v), (m_ch v), (m_sv v), (nI (4)), ((t_at (y) (nI (k2)) (x3))), (nI (0)), (m_ld v), (m_wt v), (m_wm v), (m_ln v), (m_lz v), (m_in v), (m_ty v), (m_he v), (m_wa v), (m_fa v), (m_cm v), (m_cz v)) R) := hD
                refine lv_if_ne (tgt := 183) hx hb dX11_loads_160 (by decide) (fun c9 => ?_) (fun c9 => absurd c9 (by decide))
                refine lv_bipush (v := (-3)) hx hb dX11_loads_183 (by decide) ?_
                have e9 : F_put y v (nI k1) (nI k2) x3 = ((-3), ((m_g v), (m_fl v), (m_ch v), (m_sv v), (nI (4)), ((t_at (y) (nI (k2)) (x3))), (nI (0)), (m_ld v), (m_wt v), (m_wm v), (m_ln v), (m_lz v), (m_in v), (m_ty v), (m_he v), (m_wa v), (m_fa v), (m_cm v), (m_cz v))) := (by simp only [F_put, mRef, mG, mGF, mGFC, ixI, setAt, setG, yMove, nI_sub1, nI_add, c5_1, hclk1, c13_2, hclk2, c25_3, eq_true c38_4, e1, e2, eq_true c117_23, c146_28, p_in, p_worn, p_wi, p_creak, p_le0, p_lt1, p_rng, pmT, pmC, not_true_eq_false, not_false_eq_true, if_true, if_false, and_true, true_and, and_false, false_and, or_true, true_or, or_false, false_or, and_self, or_self, iff_true, true_iff, iff_false, false_iff, decide_eq_true_eq, decide_true, decide_false, Int32.add_zero, Nat.add_zero, ne_eq, Bool.false_eq_true, eq_self])
                exact zIret () hx hb hr hlocks hK (by show va_P D vwCl (MW ct o (F_put y v (nI k1) (nI k2) x3).2 R) H; rw [e9]; exact hP) (by show va_D A (MW ct o (F_put y v (nI k1) (nI k2) x3).2 R); rw [e9]; exact hD) hS dX11_loads_185 (show (-3) = (F_put y v (nI k1) (nI k2) x3).1 from (by rw [e9]))
          · skip
            refine zTop (y := nI (cc9 + 1)) e3 ?_
            refine zN_if_le (tgt := 95) hx hb (by omega) dX11_loads_88 (by decide) (fun c88_34 => ?_) (fun c88_34 => ?_)
            · skip
              exact absurd c88_34 (by omega)
            · skip
              refine lv_iconst (v := nI (1)) hx hb dX11_loads_91 (by decide) ?_
              refine lv_goto (tgt := 96) hx hb dX11_loads_92 (by decide) ?_
              refine lv_iconst (v := nI (2)) hx hb dX11_loads_96 (by decide) ?_
              refine lv_aload_n hx hb dX11_loads_97 rfl (lv_at hl 3 rfl) ?_
              refine lv_iload_n hx hb dX11_loads_98 rfl (lv_at hl 4 rfl) ?_
              refine lv_iconst (v := nI (2)) hx hb dX11_loads_99 (by decide) ?_
              refine zVI [.int (nI (k1)), .int (nI (2))] [.int (nI (2)), .int (nI (1)), .ref (o 0)] (kX11_t (o) (v) (R) (k1) (2) (show (k1) < 12 from by omega) (show (2) < 4 from by omega)) hx hb hml hown hts (cwV 2 hts gX11_loads_X11_t rfl rfl rfl (by decide +kernel) ⟨(Nat.le_of_ble_eq_true rfl), (Nat.le_of_ble_eq_true rfl)⟩) hK hP hD hS hA (va_recv hK hP (ci := 10) (q0 := 0) rfl rfl) rfl hl.1 rfl (Nat.le_of_ble_eq_true rfl) dX11_loads_100 ⟨(Nat.le_of_ble_eq_true rfl), (Nat.le_of_ble_eq_true rfl)⟩ (fun r_100 _ H locs hr_100 hP hD hS => ?_)
              subst hr_100
              have hP : va_P D vwCl (MW ct o v R) H := hP
              have hD : va_D A (MW ct o v R) := hD
              refine zTop (y := nI (cc9 + 1)) e3 ?_
              refine lv_iconst (v := nI (1)) hx hb dX11_loads_103 (by decide) ?_
              refine lv_isub hx hb dX11_loads_104 ?_
              refine zVI [.int (nI (1)), .int (nI (2)), .int ((nI (cc9 + 1) - nI (1)))] [] (kX11_refuses_t (o) (v) (R) (nI (2)) ((nI (cc9 + 1) - nI (1)))) hx hb hml hown hts (cwV 3 hts gX11_loads_X11_refuses rfl rfl rfl (by decide +kernel) ⟨(Nat.le_of_ble_eq_true rfl), (Nat.le_of_ble_eq_true rfl)⟩) hK hP hD hS hA (va_recv hK hP (ci := 10) (q0 := 0) rfl rfl) rfl hl.1 rfl (Nat.le_of_ble_eq_true rfl) dX11_loads_105 ⟨(Nat.le_of_ble_eq_true rfl), (Nat.le_of_ble_eq_true rfl)⟩ (fun r_105 _ H locs hr_105 hP hD hS => ?_)
              subst hr_105
              have hP : va_P D vwCl (MW ct o ((m_g v), (m_fl v), (m_ch v), (m_sv v), (nI (2)), ((nI (cc9 + 1) - nI (1))), (nI (0)), (m_ld v), (m_wt v), (m_wm v), (m_ln v), (m_lz v), (m_in v), (m_ty v), (m_he v), (m_wa v), (m_fa v), (m_cm v), (m_cz v)) R) H := hP
              have hD : va_D A (MW ct o ((m_g v), (m_fl v), (m_ch v), (m_sv v), (nI (2)), ((nI (cc9 + 1) - nI (1))), (nI (0)), (m_ld v), (m_wt v), (m_wm v), (m_ln v), (m_lz v), (m_in v), (m_ty v), (m_he v), (m_wa v), (m_fa v), (m_cm v), (m_cz v)) R) := hD
              refine lv_if_ne (tgt := 183) hx hb dX11_loads_108 (by decide) (fun c9 => ?_) (fun c9 => absurd c9 (by decide))
              refine lv_bipush (v := (-3)) hx hb dX11_loads_183 (by decide) ?_
              have e9 : F_put y v (nI k1) (nI k2) x3 = ((-3), ((m_g v), (m_fl v), (m_ch v), (m_sv v), (nI (2)), ((nI (cc9 + 1) - nI (1))), (nI (0)), (m_ld v), (m_wt v), (m_wm v), (m_ln v), (m_lz v), (m_in v), (m_ty v), (m_he v), (m_wa v), (m_fa v), (m_cm v), (m_cz v))) := (by simp only [F_put, mRef, mG, mGF, mGFC, ixI, setAt, setG, yMove, nI_sub1, nI_add, c5_1, hclk1, c13_2, hclk2, c25_3, eq_true c38_4, e1, e2, nI_ne4 (k := cc9) (by omega), c88_34, p_in, p_worn, p_wi, p_creak, p_le0, p_lt1, p_rng, pmT, pmC, not_true_eq_false, not_false_eq_true, if_true, if_false, and_true, true_and, and_false, false_and, or_true, true_or, or_false, false_or, and_self, or_self, iff_true, true_iff, iff_false, false_iff, decide_eq_true_eq, decide_true, decide_false, Int32.add_zero, Nat.add_zero, ne_eq, Bool.false_eq_true, eq_self])
              exact zIret () hx hb hr hlocks hK (by show va_P D vwCl (MW ct o (F_put y v (nI k1) (nI k2) x3).2 R) H; rw [e9]; exact hP) (by show va_D A (MW ct o (F_put y v (nI k1) (nI k2) x3).2 R); rw [e9]; exact hD) hS dX11_loads_185 (show (-3) = (F_put y v (nI k1) (nI k2) x3).1 from (by rw [e9]))
      · skip
        refine lv_bipush (v := (-2)) hx hb dX11_loads_28 (by decide) ?_
        have e9 : F_put y v (nI k1) (nI k2) x3 = ((-2), v) := (by simp only [F_put, mRef, mG, mGF, mGFC, ixI, setAt, setG, yMove, nI_sub1, nI_add, c5_1, hclk1, c13_2, hclk2, c25_3, p_in, p_worn, p_wi, p_creak, p_le0, p_lt1, p_rng, pmT, pmC, not_true_eq_false, not_false_eq_true, if_true, if_false, and_true, true_and, and_false, false_and, or_true, true_or, or_false, false_or, and_self, or_self, iff_true, true_iff, iff_false, false_iff, decide_eq_true_eq, decide_true, decide_false, Int32.add_zero, Nat.add_zero, ne_eq, Bool.false_eq_true, eq_self])
        exact zIret () hx hb hr hlocks hK (by show va_P D vwCl (MW ct o (F_put y v (nI k1) (nI k2) x3).2 R) H; rw [e9]; exact hP) (by show va_D A (MW ct o (F_put y v (nI k1) (nI k2) x3).2 R); rw [e9]; exact hD) hS dX11_loads_30 (show (-2) = (F_put y v (nI k1) (nI k2) x3).1 from (by rw [e9]))
    · skip
      refine lv_iconst (v := (-1)) hx hb dX11_loads_16 (by decide) ?_
      have e9 : F_put y v (nI k1) x2 x3 = ((-1), v) := (by simp only [F_put, mRef, mG, mGF, mGFC, ixI, setAt, setG, yMove, nI_sub1, nI_add, c5_1, hclk1, c13_2, p_in, p_worn, p_wi, p_creak, p_le0, p_lt1, p_rng, pmT, pmC, not_true_eq_false, not_false_eq_true, if_true, if_false, and_true, true_and, and_false, false_and, or_true, true_or, or_false, false_or, and_self, or_self, iff_true, true_iff, iff_false, false_iff, decide_eq_true_eq, decide_true, decide_false, Int32.add_zero, Nat.add_zero, ne_eq, Bool.false_eq_true, eq_self])
      exact zIret () hx hb hr hlocks hK (by show va_P D vwCl (MW ct o (F_put y v (nI k1) x2 x3).2 R) H; rw [e9]; exact hP) (by show va_D A (MW ct o (F_put y v (nI k1) x2 x3).2 R); rw [e9]; exact hD) hS dX11_loads_17 (show (-1) = (F_put y v (nI k1) x2 x3).1 from (by rw [e9]))
abbrev rmX11_unloads : Room := { frames := 3, cells := 0, slots := 0, locals := 69 }
theorem in_X11_unloads_X11 : ∀ w ∈ u_ws RX11 TX11 19, w ∈ wsX11_unloads := by decide +kernel
set_option maxHeartbeats 4000000 in
set_option maxRecDepth 100000 in
theorem kX11_unloads {D : va_G} {ct : Nat → ClassId} {l : Launch} (o : Nat → Nat) (v : MS) (R : va_W) (x1 : Int32) (y : YS) (hB : y_n y ≤ 12 ∧ y_cn y ≤ 4 ∧ y_rn y ≤ 5) (hq : RelI y (m_g v)) : MI D ct l yX11_unloads wsX11_unloads rmX11_unloads (MW ct o v R) [.ref (o 0), .int (x1)] (fun r0 (_ : Unit) => r0 = (F_off y v x1).1) (fun _ : Unit => MW ct o (F_off y v x1).2 R) := by
  refine MIof (cc := cX11_unloads) (maxL := 4) (ret := (some .int)) (by decide) rfl (Nat.le_of_ble_eq_true rfl) ?_
  intro p e s m args below meth c A H locs F hP hK hD hS hA ls hl
  obtain ⟨hx, hb, hr, hlocks, hml, hown, hts, hin⟩ := F
  have hl : lv_has ls 4 [(0, .ref (o 0)), (1, .int (x1))] := hl
  have hn : y_n y ≤ 12 := hB.1
  have hcn : y_cn y ≤ 4 := hB.2.1
  have hrn : y_rn y ≤ 5 := hB.2.2
  have h_X11 := in_X11_unloads_X11
  have f9 := hts (.fieldLink RX11 9 "CartArgumentsModel" "all" "[I") (by decide +kernel)
  refine lv_aload_n hx hb dX11_unloads_0 rfl (lv_at hl 0 rfl) ?_
  refine lv_iload_n hx hb dX11_unloads_1 rfl (lv_at hl 1 rfl) ?_
  refine zVI [.int (x1)] [] (kX11_isThing (o) (v) (R) (x1) (y) (show y_n (y) ≤ 12 ∧ y_cn (y) ≤ 4 ∧ y_rn (y) ≤ 5 from hB) (show RelI (y) (m_g v) from hq)) hx hb hml hown hts (cwV 1 hts gX11_unloads_X11_isThing rfl rfl rfl (by decide +kernel) ⟨(Nat.le_of_ble_eq_true rfl), (Nat.le_of_ble_eq_true rfl)⟩) hK hP hD hS hA (va_recv hK hP (ci := 10) (q0 := 0) rfl rfl) rfl hl.1 rfl (Nat.le_of_ble_eq_true rfl) dX11_unloads_2 ⟨(Nat.le_of_ble_eq_true rfl), (Nat.le_of_ble_eq_true rfl)⟩ (fun r_2 _ H locs hr_2 hP hD hS => ?_)
  subst hr_2
  have hP : va_P D vwCl (MW ct o v R) H := hP
  have hD : va_D A (MW ct o v R) := hD
  refine zB_if_ne (tgt := 10) hx hb dX11_unloads_5 (by decide) (fun c5_1 => ?_) (fun c5_1 => ?_)
  · skip
    obtain ⟨k1, hk1, ek1⟩ := p_in_ex (n := y_n y) (by omega) c5_1
    subst ek1
    have hclk1 : (nI k1).toNatClampNeg = k1 := nI_clamp (by omega)
    refine lv_aload_n hx hb dX11_unloads_10 rfl (lv_at hl 0 rfl) ?_
    refine lv_iload_n hx hb dX11_unloads_11 rfl (lv_at hl 1 rfl) ?_
    refine lv_iconst (v := nI (2)) hx hb dX11_unloads_12 (by decide) ?_
    refine zVI [.int (nI (k1)), .int (nI (2))] [] (kX11_t (o) (v) (R) (k1) (2) (show (k1) < 12 from by omega) (show (2) < 4 from by omega)) hx hb hml hown hts (cwV 2 hts gX11_unloads_X11_t rfl rfl rfl (by decide +kernel) ⟨(Nat.le_of_ble_eq_true rfl), (Nat.le_of_ble_eq_true rfl)⟩) hK hP hD hS hA (va_recv hK hP (ci := 10) (q0 := 0) rfl rfl) rfl hl.1 rfl (Nat.le_of_ble_eq_true rfl) dX11_unloads_13 ⟨(Nat.le_of_ble_eq_true rfl), (Nat.le_of_ble_eq_true rfl)⟩ (fun r_13 _ H locs hr_13 hP hD hS => ?_)
    subst hr_13
    have hP : va_P D vwCl (MW ct o v R) H := hP
    have hD : va_D A (MW ct o v R) := hD
    rcases (hq.2.2.2.1 k1 (by omega)).2.2 with ⟨e1, e2, e3, e4⟩ | ⟨cc9, q9, hc9, hq9, e1, e2, e3, e4⟩
    · skip
      refine zTop (y := nI (0)) e3 ?_
      refine lv_iconst (v := nI (1)) hx hb dX11_unloads_16 (by decide) ?_
      refine lv_isub hx hb dX11_unloads_17 ?_
      refine zTop (y := (-1)) (by decide) ?_
      refine lv_istore_n (lv' := [(2, .int ((-1))), (0, .ref (o 0)), (1, .int (nI (k1)))]) hx hb dX11_unloads_18 rfl hl (by decide) rfl (fun ls hl => ?_)
      refine lv_iload_n hx hb dX11_unloads_19 rfl (lv_at hl 0 rfl) ?_
      refine lv_if_lt (tgt := 33) hx hb dX11_unloads_20 (by decide) (fun c9 => ?_) (fun c9 => absurd (by decide) c9)
      refine lv_iconst (v := nI (0)) hx hb dX11_unloads_33 (by decide) ?_
      refine lv_goto (tgt := 59) hx hb dX11_unloads_34 (by decide) ?_
      refine lv_istore_n (lv' := [(3, .int (nI (0))), (2, .int ((-1))), (0, .ref (o 0)), (1, .int (nI (k1)))]) hx hb dX11_unloads_59 rfl hl (by decide) rfl (fun ls hl => ?_)
      refine lv_aload_n hx hb dX11_unloads_60 rfl (lv_at hl 2 rfl) ?_
      refine lv_iload_n hx hb dX11_unloads_61 rfl (lv_at hl 1 rfl) ?_
      refine lv_if_ge (tgt := 69) hx hb dX11_unloads_62 (by decide) (fun c9 => absurd c9 (by decide)) (fun c9 => ?_)
      refine lv_iconst (v := nI (1)) hx hb dX11_unloads_65 (by decide) ?_
      refine lv_goto (tgt := 70) hx hb dX11_unloads_66 (by decide) ?_
      refine lv_bipush (v := nI (6)) hx hb dX11_unloads_70 (by decide) ?_
      refine lv_iload_n hx hb dX11_unloads_72 rfl (lv_at hl 3 rfl) ?_
      refine zVI [.int (nI (1)), .int (nI (6)), .int (nI (k1))] [] (kX11_refuses_t (o) (v) (R) (nI (6)) (nI (k1))) hx hb hml hown hts (cwV 3 hts gX11_unloads_X11_refuses rfl rfl rfl (by decide +kernel) ⟨(Nat.le_of_ble_eq_true rfl), (Nat.le_of_ble_eq_true rfl)⟩) hK hP hD hS hA (va_recv hK hP (ci := 10) (q0 := 0) rfl rfl) rfl hl.1 rfl (Nat.le_of_ble_eq_true rfl) dX11_unloads_73 ⟨(Nat.le_of_ble_eq_true rfl), (Nat.le_of_ble_eq_true rfl)⟩ (fun r_73 _ H locs hr_73 hP hD hS => ?_)
      subst hr_73
      have hP : va_P D vwCl (MW ct o ((m_g v), (m_fl v), (m_ch v), (m_sv v), (nI (6)), (nI (k1)), (nI (0)), (m_ld v), (m_wt v), (m_wm v), (m_ln v), (m_lz v), (m_in v), (m_ty v), (m_he v), (m_wa v), (m_fa v), (m_cm v), (m_cz v)) R) H := hP
      have hD : va_D A (MW ct o ((m_g v), (m_fl v), (m_ch v), (m_sv v), (nI (6)), (nI (k1)), (nI (0)), (m_ld v), (m_wt v), (m_wm v), (m_ln v), (m_lz v), (m_in v), (m_ty v), (m_he v), (m_wa v), (m_fa v), (m_cm v), (m_cz v)) R) := hD
      refine lv_if_ne (tgt := 97) hx hb dX11_unloads_76 (by decide) (fun c9 => ?_) (fun c9 => absurd c9 (by decide))
      refine lv_bipush (v := (-3)) hx hb dX11_unloads_97 (by decide) ?_
      have e9 : F_off y v (nI k1) = ((-3), ((m_g v), (m_fl v), (m_ch v), (m_sv v), (nI (6)), (nI (k1)), (nI (0)), (m_ld v), (m_wt v), (m_wm v), (m_ln v), (m_lz v), (m_in v), (m_ty v), (m_he v), (m_wa v), (m_fa v), (m_cm v), (m_cz v))) := (by simp only [F_off, mRef, mG, mGF, mGFC, ixI, setAt, setG, yMove, nI_sub1, c5_1, hclk1, e1, e2, p_in, p_worn, p_wi, p_creak, p_le0, p_lt1, p_rng, pmT, pmC, not_true_eq_false, not_false_eq_true, if_true, if_false, and_true, true_and, and_false, false_and, or_true, true_or, or_false, false_or, and_self, or_self, iff_true, true_iff, iff_false, false_iff, decide_eq_true_eq, decide_true, decide_false, Int32.add_zero, Nat.add_zero, ne_eq, Bool.false_eq_true, eq_self])
      exact zIret () hx hb hr hlocks hK (by show va_P D vwCl (MW ct o (F_off y v (nI k1)).2 R) H; rw [e9]; exact hP) (by show va_D A (MW ct o (F_off y v (nI k1)).2 R); rw [e9]; exact hD) hS dX11_unloads_99 (show (-3) = (F_off y v (nI k1)).1 from (by rw [e9]))
    · skip
      refine zTop (y := nI (cc9 + 1)) e3 ?_
      refine lv_iconst (v := nI (1)) hx hb dX11_unloads_16 (by decide) ?_
      refine lv_isub hx hb dX11_unloads_17 ?_
      refine zTop (y := nI cc9) (nI_sub1 _) ?_
      refine lv_istore_n (lv' := [(2, .int (nI (cc9))), (0, .ref (o 0)), (1, .int (nI (k1)))]) hx hb dX11_unloads_18 rfl hl (by decide) rfl (fun ls hl => ?_)
      refine lv_iload_n hx hb dX11_unloads_19 rfl (lv_at hl 0 rfl) ?_
      refine zN_if_lt (tgt := 33) hx hb (by omega) dX11_unloads_20 (by decide) ?_
      refine lv_aload_n hx hb dX11_unloads_23 rfl (lv_at hl 1 rfl) ?_
      refine lv_iload_n hx hb dX11_unloads_24 rfl (lv_at hl 2 rfl) ?_
      refine lv_iconst (v := nI (0)) hx hb dX11_unloads_25 (by decide) ?_
      refine zVI [.int (nI (k1)), .int (nI (0))] [] (kX11_t (o) (v) (R) (k1) (0) (show (k1) < 12 from by omega) (show (0) < 4 from by omega)) hx hb hml hown hts (cwV 2 hts gX11_unloads_X11_t rfl rfl rfl (by decide +kernel) ⟨(Nat.le_of_ble_eq_true rfl), (Nat.le_of_ble_eq_true rfl)⟩) hK hP hD hS hA (va_recv hK hP (ci := 10) (q0 := 0) rfl rfl) rfl hl.1 rfl (Nat.le_of_ble_eq_true rfl) dX11_unloads_26 ⟨(Nat.le_of_ble_eq_true rfl), (Nat.le_of_ble_eq_true rfl)⟩ (fun r_26 _ H locs hr_26 hP hD hS => ?_)
      subst hr_26
      have hP : va_P D vwCl (MW ct o v R) H := hP
      have hD : va_D A (MW ct o v R) := hD
      refine zTop (y := (y_kd y (k1))) (rel_kd hq (k := k1) (by omega)) ?_
      refine lv_iconst (v := nI (1)) hx hb dX11_unloads_29 (by decide) ?_
      refine lv_icmp_ne (tgt := 37) hx hb dX11_unloads_30 (by decide) (fun c30_6 => ?_) (fun c30_6 => ?_)
      · skip
        refine lv_aload_n hx hb dX11_unloads_37 rfl (lv_at hl 1 rfl) ?_
        refine lv_iload_n hx hb dX11_unloads_38 rfl (lv_at hl 0 rfl) ?_
        refine lv_iconst (v := nI (1)) hx hb dX11_unloads_39 (by decide) ?_
        refine lv_iconst (v := nI (1)) hx hb dX11_unloads_40 (by decide) ?_
        refine zVI [.int (nI (cc9)), .int (nI (1)), .int (nI (1))] [] (kX11_onCart_w (o) (v) (R) (cc9) (nI (1)) (y) (show y_n (y) ≤ 12 ∧ y_cn (y) ≤ 4 ∧ y_rn (y) ≤ 5 from hB) (show RelI (y) (m_g v) from hq) (show (cc9) < 4 from by omega)) hx hb hml hown hts (cwV 3 hts gX11_unloads_X11_onCart rfl rfl rfl (by decide +kernel) ⟨(Nat.le_of_ble_eq_true rfl), (Nat.le_of_ble_eq_true rfl)⟩) hK hP hD hS hA (va_recv hK hP (ci := 10) (q0 := 0) rfl rfl) rfl hl.1 rfl (Nat.le_of_ble_eq_true rfl) dX11_unloads_41 ⟨(Nat.le_of_ble_eq_true rfl), (Nat.le_of_ble_eq_true rfl)⟩ (fun r_41 _ H locs hr_41 hP hD hS => ?_)
        subst hr_41
        have hP : va_P D vwCl (MW ct o v R) H := hP
        have hD : va_D A (MW ct o v R) := hD
        refine lv_aload_n hx hb dX11_unloads_44 rfl (lv_at hl 1 rfl) ?_
        refine lv_iload_n hx hb dX11_unloads_45 rfl (lv_at hl 0 rfl) ?_
        refine lv_iconst (v := nI (0)) hx hb dX11_unloads_46 (by decide) ?_
        refine lv_iconst (v := nI (1)) hx hb dX11_unloads_47 (by decide) ?_
        refine zVI [.int (nI (cc9)), .int (nI (0)), .int (nI (1))] [.int ((t_wo (y) (nI (cc9)) (nI (1))))] (kX11_onCart_w (o) (v) (R) (cc9) (nI (0)) (y) (show y_n (y) ≤ 12 ∧ y_cn (y) ≤ 4 ∧ y_rn (y) ≤ 5 from hB) (show RelI (y) (m_g v) from hq) (show (cc9) < 4 from by omega)) hx hb hml hown hts (cwV 3 hts gX11_unloads_X11_onCart rfl rfl rfl (by decide +kernel) ⟨(Nat.le_of_ble_eq_true rfl), (Nat.le_of_ble_eq_true rfl)⟩) hK hP hD hS hA (va_recv hK hP (ci := 10) (q0 := 0) rfl rfl) rfl hl.1 rfl (Nat.le_of_ble_eq_true rfl) dX11_unloads_48 ⟨(Nat.le_of_ble_eq_true rfl), (Nat.le_of_ble_eq_true rfl)⟩ (fun r_48 _ H locs hr_48 hP hD hS => ?_)
        subst hr_48
        have hP : va_P D vwCl (MW ct o v R) H := hP
        have hD : va_D A (MW ct o v R) := hD
        refine lv_isub hx hb dX11_unloads_51 ?_
        refine lv_aload_n hx hb dX11_unloads_52 rfl (lv_at hl 1 rfl) ?_
        refine lv_iload_n hx hb dX11_unloads_53 rfl (lv_at hl 2 rfl) ?_
        refine lv_iconst (v := nI (1)) hx hb dX11_unloads_54 (by decide) ?_
        refine zVI [.int (nI (k1)), .int (nI (1))] [.int (((t_wo (y) (nI (cc9)) (nI (1))) - (t_wo (y) (nI (cc9)) (nI (0)))))] (kX11_t (o) (v) (R) (k1) (1) (show (k1) < 12 from by omega) (show (1) < 4 from by omega)) hx hb hml hown hts (cwV 2 hts gX11_unloads_X11_t rfl rfl rfl (by decide +kernel) ⟨(Nat.le_of_ble_eq_true rfl), (Nat.le_of_ble_eq_true rfl)⟩) hK hP hD hS hA (va_recv hK hP (ci := 10) (q0 := 0) rfl rfl) rfl hl.1 rfl (Nat.le_of_ble_eq_true rfl) dX11_unloads_55 ⟨(Nat.le_of_ble_eq_true rfl), (Nat.le_of_ble_eq_true rfl)⟩ (fun r_55 _ H locs hr_55 hP hD hS => ?_)
        subst hr_55
        have hP : va_P D vwCl (MW ct o v R) H := hP
        have hD : va_D A (MW ct o v R) := hD
        refine zTop (y := (y_w y (k1))) (rel_w hq (k := k1) (by omega)) ?_
        refine lv_iadd hx hb dX11_unloads_58 ?_
        refine lv_istore_n (lv' := [(3, .int ((((t_wo (y) (nI (cc9)) (nI (1))) - (t_wo (y) (nI (cc9)) (nI (0)))) + (y_w y (k1))))), (2, .int (nI (cc9))), (0, .ref (o 0)), (1, .int (nI (k1)))]) hx hb dX11_unloads_59 rfl hl (by decide) rfl (fun ls hl => ?_)
        refine lv_aload_n hx hb dX11_unloads_60 rfl (lv_at hl 2 rfl) ?_
        refine lv_iload_n hx hb dX11_unloads_61 rfl (lv_at hl 1 rfl) ?_
        refine zN_if_ge (tgt := 69) hx hb (by omega) dX11_unloads_62 (by decide) ?_
        refine lv_iconst (v := nI (0)) hx hb dX11_unloads_69 (by decide) ?_
        refine lv_bipush (v := nI (6)) hx hb dX11_unloads_70 (by decide) ?_
        refine lv_iload_n hx hb dX11_unloads_72 rfl (lv_at hl 3 rfl) ?_
        refine zVI [.int (nI (0)), .int (nI (6)), .int (nI (k1))] [] (kX11_refuses_f (o) (v) (R) (nI (6)) (nI (k1))) hx hb hml hown hts (cwV 3 hts gX11_unloads_X11_refuses rfl rfl rfl (by decide +kernel) ⟨(Nat.le_of_ble_eq_true rfl), (Nat.le_of_ble_eq_true rfl)⟩) hK hP hD hS hA (va_recv hK hP (ci := 10) (q0 := 0) rfl rfl) rfl hl.1 rfl (Nat.le_of_ble_eq_true rfl) dX11_unloads_73 ⟨(Nat.le_of_ble_eq_true rfl), (Nat.le_of_ble_eq_true rfl)⟩ (fun r_73 _ H locs hr_73 hP hD hS => ?_)
        subst hr_73
        have hP : va_P D vwCl (MW ct o v R) H := hP
        have hD : va_D A (MW ct o v R) := hD
        refine lv_if_ne (tgt := 97) hx hb dX11_unloads_76 (by decide) (fun c9 => absurd (by decide) c9) (fun c9 => ?_)
        refine lv_aload_n hx hb dX11_unloads_79 rfl (lv_at hl 2 rfl) ?_
        refine lv_iload_n hx hb dX11_unloads_80 rfl (lv_at hl 0 rfl) ?_
        refine lv_if_le (tgt := 88) hx hb dX11_unloads_81 (by decide) (fun c81_9 => ?_) (fun c81_9 => ?_)
        · skip
          refine lv_iconst (v := nI (0)) hx hb dX11_unloads_88 (by decide) ?_
          refine lv_iconst (v := nI (5)) hx hb dX11_unloads_89 (by decide) ?_
          refine lv_iload_n hx hb dX11_unloads_90 rfl (lv_at hl 0 rfl) ?_
          refine zVI [.int (nI (0)), .int (nI (5)), .int ((((t_wo (y) (nI (cc9)) (nI (1))) - (t_wo (y) (nI (cc9)) (nI (0)))) + (y_w y (k1))))] [] (kX11_refuses_f (o) (v) (R) (nI (5)) ((((t_wo (y) (nI (cc9)) (nI (1))) - (t_wo (y) (nI (cc9)) (nI (0)))) + (y_w y (k1))))) hx hb hml hown hts (cwV 3 hts gX11_unloads_X11_refuses rfl rfl rfl (by decide +kernel) ⟨(Nat.le_of_ble_eq_true rfl), (Nat.le_of_ble_eq_true rfl)⟩) hK hP hD hS hA (va_recv hK hP (ci := 10) (q0 := 0) rfl rfl) rfl hl.1 rfl (Nat.le_of_ble_eq_true rfl) dX11_unloads_91 ⟨(Nat.le_of_ble_eq_true rfl), (Nat.le_of_ble_eq_true rfl)⟩ (fun r_91 _ H locs hr_91 hP hD hS => ?_)
          subst hr_91
          have hP : va_P D vwCl (MW ct o v R) H := hP
          have hD : va_D A (MW ct o v R) := hD
          refine lv_if_eq (tgt := 100) hx hb dX11_unloads_94 (by decide) (fun c9 => ?_) (fun c9 => absurd (by decide) c9)
          refine lv_aload_n hx hb dX11_unloads_100 rfl (lv_at hl 2 rfl) ?_
          refine va_get (ci := 10) (v := .ref (o 1)) hx hb hts h_X11 hown hK hP 0 rfl rfl 0 (by decide) f9 (fun _ h9 => h9) rfl dX11_unloads_101 ?_
          refine lv_iconst (v := nI (5)) hx hb dX11_unloads_104 (by decide) ?_
          refine lv_iconst (v := nI (4)) hx hb dX11_unloads_105 (by decide) ?_
          refine lv_iload_n hx hb dX11_unloads_106 rfl (lv_at hl 3 rfl) ?_
          refine zNmul hx hb dX11_unloads_107 ?_
          refine zNadd hx hb dX11_unloads_108 ?_
          refine lv_iconst (v := nI (2)) hx hb dX11_unloads_109 (by decide) ?_
          refine zNadd hx hb dX11_unloads_110 ?_
          refine lv_iconst (v := nI (0)) hx hb dX11_unloads_111 (by decide) ?_
          refine zIast (n := 972) (f := m_g v) (i := ((5 + (4 * k1)) + 2)) hx hb hK hP hD hS 1 rfl (by omega) (by decide) dX11_unloads_112 (fun H locs hP hD hS => ?_)
          have hP : va_P D vwCl (MW ct o ((upd (m_g v) (((5 + (4 * k1)) + 2)) (nI (0))), m_fl v, m_ch v, m_sv v, m_why v, m_det v, m_li v, m_ld v, m_wt v, m_wm v, m_ln v, m_lz v, m_in v, m_ty v, m_he v, m_wa v, m_fa v, m_cm v, m_cz v) R) H := hP
          have hD : va_D A (MW ct o ((upd (m_g v) (((5 + (4 * k1)) + 2)) (nI (0))), m_fl v, m_ch v, m_sv v, m_why v, m_det v, m_li v, m_ld v, m_wt v, m_wm v, m_ln v, m_lz v, m_in v, m_ty v, m_he v, m_wa v, m_fa v, m_cm v, m_cz v) R) := hD
          refine lv_aload_n hx hb dX11_unloads_113 rfl (lv_at hl 2 rfl) ?_
          refine va_get (ci := 10) (v := .ref (o 1)) hx hb hts h_X11 hown hK hP 0 rfl rfl 0 (by decide) f9 (fun _ h9 => h9) rfl dX11_unloads_114 ?_
          refine lv_iconst (v := nI (5)) hx hb dX11_unloads_117 (by decide) ?_
          refine lv_iconst (v := nI (4)) hx hb dX11_unloads_118 (by decide) ?_
          refine lv_iload_n hx hb dX11_unloads_119 rfl (lv_at hl 3 rfl) ?_
          refine zNmul hx hb dX11_unloads_120 ?_
          refine zNadd hx hb dX11_unloads_121 ?_
          refine lv_iconst (v := nI (3)) hx hb dX11_unloads_122 (by decide) ?_
          refine zNadd hx hb dX11_unloads_123 ?_
          refine lv_iconst (v := nI (0)) hx hb dX11_unloads_124 (by decide) ?_
          refine zIast (n := 972) (f := (upd (m_g v) (((5 + (4 * k1)) + 2)) (nI (0)))) (i := ((5 + (4 * k1)) + 3)) hx hb hK hP hD hS 1 rfl (by omega) (by decide) dX11_unloads_125 (fun H locs hP hD hS => ?_)
          have hP : va_P D vwCl (MW ct o ((upd ((upd (m_g v) (((5 + (4 * k1)) + 2)) (nI (0)))) (((5 + (4 * k1)) + 3)) (nI (0))), m_fl v, m_ch v, m_sv v, m_why v, m_det v, m_li v, m_ld v, m_wt v, m_wm v, m_ln v, m_lz v, m_in v, m_ty v, m_he v, m_wa v, m_fa v, m_cm v, m_cz v) R) H := hP
          have hD : va_D A (MW ct o ((upd ((upd (m_g v) (((5 + (4 * k1)) + 2)) (nI (0)))) (((5 + (4 * k1)) + 3)) (nI (0))), m_fl v, m_ch v, m_sv v, m_why v, m_det v, m_li v, m_ld v, m_wt v, m_wm v, m_ln v, m_lz v, m_in v, m_ty v, m_he v, m_wa v, m_fa v, m_cm v, m_cz v) R) := hD
          refine lv_iload_n hx hb dX11_unloads_126 rfl (lv_at hl 1 rfl) ?_
          have e9 : F_off y v (nI k1) = (nI (cc9), ((upd ((upd (m_g v) (((5 + (4 * k1)) + 2)) (nI (0)))) (((5 + (4 * k1)) + 3)) (nI (0))), m_fl v, m_ch v, m_sv v, m_why v, m_det v, m_li v, m_ld v, m_wt v, m_wm v, m_ln v, m_lz v, m_in v, m_ty v, m_he v, m_wa v, m_fa v, m_cm v, m_cz v)) := (by simp only [F_off, mRef, mG, mGF, mGFC, ixI, setAt, setG, yMove, nI_sub1, c5_1, hclk1, e1, e2, nI_ne4 (k := cc9) (by omega), c30_6, c81_9, p_in, p_worn, p_wi, p_creak, p_le0, p_lt1, p_rng, pmT, pmC, not_true_eq_false, not_false_eq_true, if_true, if_false, and_true, true_and, and_false, false_and, or_true, true_or, or_false, false_or, and_self, or_self, iff_true, true_iff, iff_false, false_iff, decide_eq_true_eq, decide_true, decide_false, Int32.add_zero, Nat.add_zero, ne_eq, Bool.false_eq_true, eq_self])
          exact zIret () hx hb hr hlocks hK (by show va_P D vwCl (MW ct o (F_off y v (nI k1)).2 R) H; rw [e9]; exact hP) (by show va_D A (MW ct o (F_off y v (nI k1)).2 R); rw [e9]; exact hD) hS dX11_unloads_127 (show nI (cc9) = (F_off y v (nI k1)).1 from (by rw [e9]))
        · skip
          refine lv_iconst (v := nI (1)) hx hb dX11_unloads_84 (by decide) ?_
          refine lv_goto (tgt := 89) hx hb dX11_unloads_85 (by decide) ?_
          refine lv_iconst (v := nI (5)) hx hb dX11_unloads_89 (by decide) ?_
          refine lv_iload_n hx hb dX11_unloads_90 rfl (lv_at hl 0 rfl) ?_
          refine zVI [.int (nI (1)), .int (nI (5)), .int ((((t_wo (y) (nI (cc9)) (nI (1))) - (t_wo (y) (nI (cc9)) (nI (0)))) + (y_w y (k1))))] [] (kX11_refuses_t (o) (v) (R) (nI (5)) ((((t_wo (y) (nI (cc9)) (nI (1))) - (t_wo (y) (nI (cc9)) (nI (0)))) + (y_w y (k1))))) hx hb hml hown hts (cwV 3 hts gX11_unloads_X11_refuses rfl rfl rfl (by decide +kernel) ⟨(Nat.le_of_ble_eq_true rfl), (Nat.le_of_ble_eq_true rfl)⟩) hK hP hD hS hA (va_recv hK hP (ci := 10) (q0 := 0) rfl rfl) rfl hl.1 rfl (Nat.le_of_ble_eq_true rfl) dX11_unloads_91 ⟨(Nat.le_of_ble_eq_true rfl), (Nat.le_of_ble_eq_true rfl)⟩ (fun r_91 _ H locs hr_91 hP hD hS => ?_)
          subst hr_91
          have hP : va_P D vwCl (MW ct o ((m_g v), (m_fl v), (m_ch v), (m_sv v), (nI (5)), ((((t_wo (y) (nI (cc9)) (nI (1))) - (t_wo (y) (nI (cc9)) (nI (0)))) + (y_w y (k1)))), (nI (0)), (m_ld v), (m_wt v), (m_wm v), (m_ln v), (m_lz v), (m_in v), (m_ty v), (m_he v), (m_wa v), (m_fa v), (m_cm v), (m_cz v)) R) H := hP
          have hD : va_D A (MW ct o ((m_g v), (m_fl v), (m_ch v), (m_sv v), (nI (5)), ((((t_wo (y) (nI (cc9)) (nI (1))) - (t_wo (y) (nI (cc9)) (nI (0)))) + (y_w y (k1)))), (nI (0)), (m_ld v), (m_wt v), (m_wm v), (m_ln v), (m_lz v), (m_in v), (m_ty v), (m_he v), (m_wa v), (m_fa v), (m_cm v), (m_cz v)) R) := hD
          refine lv_if_eq (tgt := 100) hx hb dX11_unloads_94 (by decide) (fun c9 => absurd c9 (by decide)) (fun c9 => ?_)
          refine lv_bipush (v := (-3)) hx hb dX11_unloads_97 (by decide) ?_
          have e9 : F_off y v (nI k1) = ((-3), ((m_g v), (m_fl v), (m_ch v), (m_sv v), (nI (5)), ((((t_wo (y) (nI (cc9)) (nI (1))) - (t_wo (y) (nI (cc9)) (nI (0)))) + (y_w y (k1)))), (nI (0)), (m_ld v), (m_wt v), (m_wm v), (m_ln v), (m_lz v), (m_in v), (m_ty v), (m_he v), (m_wa v), (m_fa v), (m_cm v), (m_cz v))) := (by simp only [F_off, mRef, mG, mGF, mGFC, ixI, setAt, setG, yMove, nI_sub1, c5_1, hclk1, e1, e2, nI_ne4 (k := cc9) (by omega), c30_6, c81_9, p_in, p_worn, p_wi, p_creak, p_le0, p_lt1, p_rng, pmT, pmC, not_true_eq_false, not_false_eq_true, if_true, if_false, and_true, true_and, and_false, false_and, or_true, true_or, or_false, false_or, and_self, or_self, iff_true, true_iff, iff_false, false_iff, decide_eq_true_eq, decide_true, decide_false, Int32.add_zero, Nat.add_zero, ne_eq, Bool.false_eq_true, eq_self])
          exact zIret () hx hb hr hlocks hK (by show va_P D vwCl (MW ct o (F_off y v (nI k1)).2 R) H; rw [e9]; exact hP) (by show va_D A (MW ct o (F_off y v (nI k1)).2 R); rw [e9]; exact hD) hS dX11_unloads_99 (show (-3) = (F_off y v (nI k1)).1 from (by rw [e9]))
      · skip
        refine lv_iconst (v := nI (0)) hx hb dX11_unloads_33 (by decide) ?_
        refine lv_goto (tgt := 59) hx hb dX11_unloads_34 (by decide) ?_
        refine lv_istore_n (lv' := [(3, .int (nI (0))), (2, .int (nI (cc9))), (0, .ref (o 0)), (1, .int (nI (k1)))]) hx hb dX11_unloads_59 rfl hl (by decide) rfl (fun ls hl => ?_)
        refine lv_aload_n hx hb dX11_unloads_60 rfl (lv_at hl 2 rfl) ?_
        refine lv_iload_n hx hb dX11_unloads_61 rfl (lv_at hl 1 rfl) ?_
        refine zN_if_ge (tgt := 69) hx hb (by omega) dX11_unloads_62 (by decide) ?_
        refine lv_iconst (v := nI (0)) hx hb dX11_unloads_69 (by decide) ?_
        refine lv_bipush (v := nI (6)) hx hb dX11_unloads_70 (by decide) ?_
        refine lv_iload_n hx hb dX11_unloads_72 rfl (lv_at hl 3 rfl) ?_
        refine zVI [.int (nI (0)), .int (nI (6)), .int (nI (k1))] [] (kX11_refuses_f (o) (v) (R) (nI (6)) (nI (k1))) hx hb hml hown hts (cwV 3 hts gX11_unloads_X11_refuses rfl rfl rfl (by decide +kernel) ⟨(Nat.le_of_ble_eq_true rfl), (Nat.le_of_ble_eq_true rfl)⟩) hK hP hD hS hA (va_recv hK hP (ci := 10) (q0 := 0) rfl rfl) rfl hl.1 rfl (Nat.le_of_ble_eq_true rfl) dX11_unloads_73 ⟨(Nat.le_of_ble_eq_true rfl), (Nat.le_of_ble_eq_true rfl)⟩ (fun r_73 _ H locs hr_73 hP hD hS => ?_)
        subst hr_73
        have hP : va_P D vwCl (MW ct o v R) H := hP
        have hD : va_D A (MW ct o v R) := hD
        refine lv_if_ne (tgt := 97) hx hb dX11_unloads_76 (by decide) (fun c9 => absurd (by decide) c9) (fun c9 => ?_)
        refine lv_aload_n hx hb dX11_unloads_79 rfl (lv_at hl 2 rfl) ?_
        refine lv_iload_n hx hb dX11_unloads_80 rfl (lv_at hl 0 rfl) ?_
        refine lv_if_le (tgt := 88) hx hb dX11_unloads_81 (by decide) (fun c9 => ?_) (fun c9 => absurd (by decide) c9)
        refine lv_iconst (v := nI (0)) hx hb dX11_unloads_88 (by decide) ?_
        refine lv_iconst (v := nI (5)) hx hb dX11_unloads_89 (by decide) ?_
        refine lv_iload_n hx hb dX11_unloads_90 rfl (lv_at hl 0 rfl) ?_
        refine zVI [.int (nI (0)), .int (nI (5)), .int (nI (0))] [] (kX11_refuses_f (o) (v) (R) (nI (5)) (nI (0))) hx hb hml hown hts (cwV 3 hts gX11_unloads_X11_refuses rfl rfl rfl (by decide +kernel) ⟨(Nat.le_of_ble_eq_true rfl), (Nat.le_of_ble_eq_true rfl)⟩) hK hP hD hS hA (va_recv hK hP (ci := 10) (q0 := 0) rfl rfl) rfl hl.1 rfl (Nat.le_of_ble_eq_true rfl) dX11_unloads_91 ⟨(Nat.le_of_ble_eq_true rfl), (Nat.le_of_ble_eq_true rfl)⟩ (fun r_91 _ H locs hr_91 hP hD hS => ?_)
        subst hr_91
        have hP : va_P D vwCl (MW ct o v R) H := hP
        have hD : va_D A (MW ct o v R) := hD
        refine lv_if_eq (tgt := 100) hx hb dX11_unloads_94 (by decide) (fun c9 => ?_) (fun c9 => absurd (by decide) c9)
        refine lv_aload_n hx hb dX11_unloads_100 rfl (lv_at hl 2 rfl) ?_
        refine va_get (ci := 10) (v := .ref (o 1)) hx hb hts h_X11 hown hK hP 0 rfl rfl 0 (by decide) f9 (fun _ h9 => h9) rfl dX11_unloads_101 ?_
        refine lv_iconst (v := nI (5)) hx hb dX11_unloads_104 (by decide) ?_
        refine lv_iconst (v := nI (4)) hx hb dX11_unloads_105 (by decide) ?_
        refine lv_iload_n hx hb dX11_unloads_106 rfl (lv_at hl 3 rfl) ?_
        refine zNmul hx hb dX11_unloads_107 ?_
        refine zNadd hx hb dX11_unloads_108 ?_
        refine lv_iconst (v := nI (2)) hx hb dX11_unloads_109 (by decide) ?_
        refine zNadd hx hb dX11_unloads_110 ?_
        refine lv_iconst (v := nI (0)) hx hb dX11_unloads_111 (by decide) ?_
        refine zIast (n := 972) (f := m_g v) (i := ((5 + (4 * k1)) + 2)) hx hb hK hP hD hS 1 rfl (by omega) (by decide) dX11_unloads_112 (fun H locs hP hD hS => ?_)
        have hP : va_P D vwCl (MW ct o ((upd (m_g v) (((5 + (4 * k1)) + 2)) (nI (0))), m_fl v, m_ch v, m_sv v, m_why v, m_det v, m_li v, m_ld v, m_wt v, m_wm v, m_ln v, m_lz v, m_in v, m_ty v, m_he v, m_wa v, m_fa v, m_cm v, m_cz v) R) H := hP
        have hD : va_D A (MW ct o ((upd (m_g v) (((5 + (4 * k1)) + 2)) (nI (0))), m_fl v, m_ch v, m_sv v, m_why v, m_det v, m_li v, m_ld v, m_wt v, m_wm v, m_ln v, m_lz v, m_in v, m_ty v, m_he v, m_wa v, m_fa v, m_cm v, m_cz v) R) := hD
        refine lv_aload_n hx hb dX11_unloads_113 rfl (lv_at hl 2 rfl) ?_
        refine va_get (ci := 10) (v := .ref (o 1)) hx hb hts h_X11 hown hK hP 0 rfl rfl 0 (by decide) f9 (fun _ h9 => h9) rfl dX11_unloads_114 ?_
        refine lv_iconst (v := nI (5)) hx hb dX11_unloads_117 (by decide) ?_
        refine lv_iconst (v := nI (4)) hx hb dX11_unloads_118 (by decide) ?_
        refine lv_iload_n hx hb dX11_unloads_119 rfl (lv_at hl 3 rfl) ?_
        refine zNmul hx hb dX11_unloads_120 ?_
        refine zNadd hx hb dX11_unloads_121 ?_
        refine lv_iconst (v := nI (3)) hx hb dX11_unloads_122 (by decide) ?_
        refine zNadd hx hb dX11_unloads_123 ?_
        refine lv_iconst (v := nI (0)) hx hb dX11_unloads_124 (by decide) ?_
        refine zIast (n := 972) (f := (upd (m_g v) (((5 + (4 * k1)) + 2)) (nI (0)))) (i := ((5 + (4 * k1)) + 3)) hx hb hK hP hD hS 1 rfl (by omega) (by decide) dX11_unloads_125 (fun H locs hP hD hS => ?_)
        have hP : va_P D vwCl (MW ct o ((upd ((upd (m_g v) (((5 + (4 * k1)) + 2)) (nI (0)))) (((5 + (4 * k1)) + 3)) (nI (0))), m_fl v, m_ch v, m_sv v, m_why v, m_det v, m_li v, m_ld v, m_wt v, m_wm v, m_ln v, m_lz v, m_in v, m_ty v, m_he v, m_wa v, m_fa v, m_cm v, m_cz v) R) H := hP
        have hD : va_D A (MW ct o ((upd ((upd (m_g v) (((5 + (4 * k1)) + 2)) (nI (0)))) (((5 + (4 * k1)) + 3)) (nI (0))), m_fl v, m_ch v, m_sv v, m_why v, m_det v, m_li v, m_ld v, m_wt v, m_wm v, m_ln v, m_lz v, m_in v, m_ty v, m_he v, m_wa v, m_fa v, m_cm v, m_cz v) R) := hD
        refine lv_iload_n hx hb dX11_unloads_126 rfl (lv_at hl 1 rfl) ?_
        have e9 : F_off y v (nI k1) = (nI (cc9), ((upd ((upd (m_g v) (((5 + (4 * k1)) + 2)) (nI (0)))) (((5 + (4 * k1)) + 3)) (nI (0))), m_fl v, m_ch v, m_sv v, m_why v, m_det v, m_li v, m_ld v, m_wt v, m_wm v, m_ln v, m_lz v, m_in v, m_ty v, m_he v, m_wa v, m_fa v, m_cm v, m_cz v)) := (by simp only [F_off, mRef, mG, mGF, mGFC, ixI, setAt, setG, yMove, nI_sub1, c5_1, hclk1, e1, e2, nI_ne4 (k := cc9) (by omega), eq_true c30_6, p_in, p_worn, p_wi, p_creak, p_le0, p_lt1, p_rng, pmT, pmC, not_true_eq_false, not_false_eq_true, if_true, if_false, and_true, true_and, and_false, false_and, or_true, true_or, or_false, false_or, and_self, or_self, iff_true, true_iff, iff_false, false_iff, decide_eq_true_eq, decide_true, decide_false, Int32.add_zero, Nat.add_zero, ne_eq, Bool.false_eq_true, eq_self])
        exact zIret () hx hb hr hlocks hK (by show va_P D vwCl (MW ct o (F_off y v (nI k1)).2 R) H; rw [e9]; exact hP) (by show va_D A (MW ct o (F_off y v (nI k1)).2 R); rw [e9]; exact hD) hS dX11_unloads_127 (show nI (cc9) = (F_off y v (nI k1)).1 from (by rw [e9]))
  · skip
    refine lv_iconst (v := (-1)) hx hb dX11_unloads_8 (by decide) ?_
    have e9 : F_off y v x1 = ((-1), v) := (by simp only [F_off, mRef, mG, mGF, mGFC, ixI, setAt, setG, yMove, nI_sub1, c5_1, p_in, p_worn, p_wi, p_creak, p_le0, p_lt1, p_rng, pmT, pmC, not_true_eq_false, not_false_eq_true, if_true, if_false, and_true, true_and, and_false, false_and, or_true, true_or, or_false, false_or, and_self, or_self, iff_true, true_iff, iff_false, false_iff, decide_eq_true_eq, decide_true, decide_false, Int32.add_zero, Nat.add_zero, ne_eq, Bool.false_eq_true, eq_self])
    exact zIret () hx hb hr hlocks hK (by show va_P D vwCl (MW ct o (F_off y v x1).2 R) H; rw [e9]; exact hP) (by show va_D A (MW ct o (F_off y v x1).2 R); rw [e9]; exact hD) hS dX11_unloads_9 (show (-1) = (F_off y v x1).1 from (by rw [e9]))
abbrev rmX11_swaps : Room := { frames := 4, cells := 0, slots := 0, locals := 90 }
theorem in_X11_swaps_X11 : ∀ w ∈ u_ws RX11 TX11 19, w ∈ wsX11_swaps := by decide +kernel
set_option maxHeartbeats 4000000 in
set_option maxRecDepth 100000 in
theorem kX11_swaps {D : va_G} {ct : Nat → ClassId} {l : Launch} (o : Nat → Nat) (v : MS) (R : va_W) (x1 : Int32) (x2 : Int32) (x3 : Int32) (y : YS) (hB : y_n y ≤ 12 ∧ y_cn y ≤ 4 ∧ y_rn y ≤ 5) (hq : RelI y (m_g v)) : MI D ct l yX11_swaps wsX11_swaps rmX11_swaps (MW ct o v R) [.ref (o 0), .int (x1), .int (x2), .int (x3)] (fun r0 (_ : Unit) => r0 = (F_swap y v x1 x2 x3).1) (fun _ : Unit => MW ct o (F_swap y v x1 x2 x3).2 R) := by
  refine MIof (cc := cX11_swaps) (maxL := 6) (ret := (some .int)) (by decide) rfl (Nat.le_of_ble_eq_true rfl) ?_
  intro p e s m args below meth c A H locs F hP hK hD hS hA ls hl
  obtain ⟨hx, hb, hr, hlocks, hml, hown, hts, hin⟩ := F
  have hl : lv_has ls 6 [(0, .ref (o 0)), (1, .int (x1)), (2, .int (x2)), (3, .int (x3))] := hl
  have hn : y_n y ≤ 12 := hB.1
  have hcn : y_cn y ≤ 4 := hB.2.1
  have hrn : y_rn y ≤ 5 := hB.2.2
  have h_X11 := in_X11_swaps_X11
  have f9 := hts (.fieldLink RX11 9 "CartArgumentsModel" "all" "[I") (by decide +kernel)
  refine lv_aload_n hx hb dX11_swaps_0 rfl (lv_at hl 0 rfl) ?_
  refine lv_iload_n hx hb dX11_swaps_1 rfl (lv_at hl 1 rfl) ?_
  refine zVI [.int (x1)] [] (kX11_isCart (o) (v) (R) (x1) (y) (show y_n (y) ≤ 12 ∧ y_cn (y) ≤ 4 ∧ y_rn (y) ≤ 5 from hB) (show RelI (y) (m_g v) from hq)) hx hb hml hown hts (cwV 1 hts gX11_swaps_X11_isCart rfl rfl rfl (by decide +kernel) ⟨(Nat.le_of_ble_eq_true rfl), (Nat.le_of_ble_eq_true rfl)⟩) hK hP hD hS hA (va_recv hK hP (ci := 10) (q0 := 0) rfl rfl) rfl hl.1 rfl (Nat.le_of_ble_eq_true rfl) dX11_swaps_2 ⟨(Nat.le_of_ble_eq_true rfl), (Nat.le_of_ble_eq_true rfl)⟩ (fun r_2 _ H locs hr_2 hP hD hS => ?_)
  subst hr_2
  have hP : va_P D vwCl (MW ct o v R) H := hP
  have hD : va_D A (MW ct o v R) := hD
  refine zB_if_ne (tgt := 10) hx hb dX11_swaps_5 (by decide) (fun c5_1 => ?_) (fun c5_1 => ?_)
  · skip
    obtain ⟨k1, hk1, ek1⟩ := p_in_ex (n := y_cn y) (by omega) c5_1
    subst ek1
    have hclk1 : (nI k1).toNatClampNeg = k1 := nI_clamp (by omega)
    refine lv_iload_n hx hb dX11_swaps_10 rfl (lv_at hl 2 rfl) ?_
    refine lv_iconst (v := nI (0)) hx hb dX11_swaps_11 (by decide) ?_
    refine lv_iconst (v := nI (5)) hx hb dX11_swaps_12 (by decide) ?_
    refine zSI [.int (x2), .int (nI (0)), .int (nI (5))] [] (kX11_in (MW ct o v R) (x2) (nI (0)) (nI (5))) hx hb hml hown hts (va_cwS 3 hts gX11_swaps_X11_in rfl rfl rfl (by decide +kernel) ⟨(Nat.le_of_ble_eq_true rfl), (Nat.le_of_ble_eq_true rfl)⟩) hK hP hD hS hA rfl hl.1 rfl (Nat.le_of_ble_eq_true rfl) dX11_swaps_13 ⟨(Nat.le_of_ble_eq_true rfl), (Nat.le_of_ble_eq_true rfl)⟩ (fun r_13 _ H locs hr_13 hP hD hS => ?_)
    subst hr_13
    have hP : va_P D vwCl (MW ct o v R) H := hP
    have hD : va_D A (MW ct o v R) := hD
    refine zB_if_eq (tgt := 28) hx hb dX11_swaps_16 (by decide) (fun c16_2 => ?_) (fun c16_2 => ?_)
    · skip
      refine lv_bipush (v := (-2)) hx hb dX11_swaps_28 (by decide) ?_
      have e9 : F_swap y v (nI k1) x2 x3 = ((-2), v) := (by simp only [F_swap, mRef, mG, mGF, mGFC, ixI, setAt, setG, yMove, nI_sub1, c5_1, hclk1, c16_2, p_in, p_worn, p_wi, p_creak, p_le0, p_lt1, p_rng, pmT, pmC, not_true_eq_false, not_false_eq_true, if_true, if_false, and_true, true_and, and_false, false_and, or_true, true_or, or_false, false_or, and_self, or_self, iff_true, true_iff, iff_false, false_iff, decide_eq_true_eq, decide_true, decide_false, Int32.add_zero, Nat.add_zero, ne_eq, Bool.false_eq_true, eq_self])
      exact zIret () hx hb hr hlocks hK (by show va_P D vwCl (MW ct o (F_swap y v (nI k1) x2 x3).2 R) H; rw [e9]; exact hP) (by show va_D A (MW ct o (F_swap y v (nI k1) x2 x3).2 R); rw [e9]; exact hD) hS dX11_swaps_30 (show (-2) = (F_swap y v (nI k1) x2 x3).1 from (by rw [e9]))
    · skip
      refine lv_iload_n hx hb dX11_swaps_19 rfl (lv_at hl 3 rfl) ?_
      refine lv_iconst (v := nI (0)) hx hb dX11_swaps_20 (by decide) ?_
      refine lv_iconst (v := nI (5)) hx hb dX11_swaps_21 (by decide) ?_
      refine zSI [.int (x3), .int (nI (0)), .int (nI (5))] [] (kX11_in (MW ct o v R) (x3) (nI (0)) (nI (5))) hx hb hml hown hts (va_cwS 3 hts gX11_swaps_X11_in rfl rfl rfl (by decide +kernel) ⟨(Nat.le_of_ble_eq_true rfl), (Nat.le_of_ble_eq_true rfl)⟩) hK hP hD hS hA rfl hl.1 rfl (Nat.le_of_ble_eq_true rfl) dX11_swaps_22 ⟨(Nat.le_of_ble_eq_true rfl), (Nat.le_of_ble_eq_true rfl)⟩ (fun r_22 _ H locs hr_22 hP hD hS => ?_)
      subst hr_22
      have hP : va_P D vwCl (MW ct o v R) H := hP
      have hD : va_D A (MW ct o v R) := hD
      refine zB_if_ne (tgt := 31) hx hb dX11_swaps_25 (by decide) (fun c25_3 => ?_) (fun c25_3 => ?_)
      · skip
        refine lv_aload_n hx hb dX11_swaps_31 rfl (lv_at hl 0 rfl) ?_
        refine lv_iload_n hx hb dX11_swaps_32 rfl (lv_at hl 2 rfl) ?_
        refine lv_iload_n hx hb dX11_swaps_33 rfl (lv_at hl 3 rfl) ?_
        refine lv_icmp_ne (tgt := 41) hx hb dX11_swaps_34 (by decide) (fun c34_4 => ?_) (fun c34_4 => ?_)
        · skip
          refine lv_iconst (v := nI (0)) hx hb dX11_swaps_41 (by decide) ?_
          refine lv_bipush (v := nI (7)) hx hb dX11_swaps_42 (by decide) ?_
          refine lv_iload_n hx hb dX11_swaps_44 rfl (lv_at hl 2 rfl) ?_
          refine zVI [.int (nI (0)), .int (nI (7)), .int (x2)] [] (kX11_refuses_f (o) (v) (R) (nI (7)) (x2)) hx hb hml hown hts (cwV 3 hts gX11_swaps_X11_refuses rfl rfl rfl (by decide +kernel) ⟨(Nat.le_of_ble_eq_true rfl), (Nat.le_of_ble_eq_true rfl)⟩) hK hP hD hS hA (va_recv hK hP (ci := 10) (q0 := 0) rfl rfl) rfl hl.1 rfl (Nat.le_of_ble_eq_true rfl) dX11_swaps_45 ⟨(Nat.le_of_ble_eq_true rfl), (Nat.le_of_ble_eq_true rfl)⟩ (fun r_45 _ H locs hr_45 hP hD hS => ?_)
          subst hr_45
          have hP : va_P D vwCl (MW ct o v R) H := hP
          have hD : va_D A (MW ct o v R) := hD
          refine lv_if_eq (tgt := 54) hx hb dX11_swaps_48 (by decide) (fun c9 => ?_) (fun c9 => absurd (by decide) c9)
          obtain ⟨k2, hk2, ek2⟩ := rng_ex (by decide) (by decide) c16_2
          subst ek2
          obtain ⟨k3, hk3, ek3⟩ := rng_ex (by decide) (by decide) c25_3
          subst ek3
          refine lv_aload_n hx hb dX11_swaps_54 rfl (lv_at hl 0 rfl) ?_
          refine lv_iload_n hx hb dX11_swaps_55 rfl (lv_at hl 1 rfl) ?_
          refine lv_iload_n hx hb dX11_swaps_56 rfl (lv_at hl 2 rfl) ?_
          refine zVI [.int (nI (k1)), .int (nI (k2))] [] (kX11_thingAt (o) (v) (R) (k1) (nI (k2)) (y) (show y_n (y) ≤ 12 ∧ y_cn (y) ≤ 4 ∧ y_rn (y) ≤ 5 from hB) (show RelI (y) (m_g v) from hq) (show (k1) < 4 from by omega)) hx hb hml hown hts (cwV 2 hts gX11_swaps_X11_thingAt rfl rfl rfl (by decide +kernel) ⟨(Nat.le_of_ble_eq_true rfl), (Nat.le_of_ble_eq_true rfl)⟩) hK hP hD hS hA (va_recv hK hP (ci := 10) (q0 := 0) rfl rfl) rfl hl.1 rfl (Nat.le_of_ble_eq_true rfl) dX11_swaps_57 ⟨(Nat.le_of_ble_eq_true rfl), (Nat.le_of_ble_eq_true rfl)⟩ (fun r_57 _ H locs hr_57 hP hD hS => ?_)
          subst hr_57
          have hP : va_P D vwCl (MW ct o v R) H := hP
          have hD : va_D A (MW ct o v R) := hD
          refine lv_istore (lv' := [(4, .int ((t_at (y) (nI (k1)) (nI (k2))))), (0, .ref (o 0)), (1, .int (nI (k1))), (2, .int (nI (k2))), (3, .int (nI (k3)))]) hx hb dX11_swaps_60 hl (by decide) rfl (fun ls hl => ?_)
          obtain ⟨v4, ev4⟩ : ∃ v : Int32, v = (t_at (y) (nI (k1)) (nI (k2))) := ⟨_, rfl⟩
          rw [← ev4] at hl
          refine lv_aload_n hx hb dX11_swaps_62 rfl (lv_at hl 1 rfl) ?_
          refine lv_iload_n hx hb dX11_swaps_63 rfl (lv_at hl 2 rfl) ?_
          refine lv_iload_n hx hb dX11_swaps_64 rfl (lv_at hl 4 rfl) ?_
          refine zVI [.int (nI (k1)), .int (nI (k3))] [] (kX11_thingAt (o) (v) (R) (k1) (nI (k3)) (y) (show y_n (y) ≤ 12 ∧ y_cn (y) ≤ 4 ∧ y_rn (y) ≤ 5 from hB) (show RelI (y) (m_g v) from hq) (show (k1) < 4 from by omega)) hx hb hml hown hts (cwV 2 hts gX11_swaps_X11_thingAt rfl rfl rfl (by decide +kernel) ⟨(Nat.le_of_ble_eq_true rfl), (Nat.le_of_ble_eq_true rfl)⟩) hK hP hD hS hA (va_recv hK hP (ci := 10) (q0 := 0) rfl rfl) rfl hl.1 rfl (Nat.le_of_ble_eq_true rfl) dX11_swaps_65 ⟨(Nat.le_of_ble_eq_true rfl), (Nat.le_of_ble_eq_true rfl)⟩ (fun r_65 _ H locs hr_65 hP hD hS => ?_)
          subst hr_65
          have hP : va_P D vwCl (MW ct o v R) H := hP
          have hD : va_D A (MW ct o v R) := hD
          refine lv_istore (lv' := [(5, .int ((t_at (y) (nI (k1)) (nI (k3))))), (4, .int (v4)), (0, .ref (o 0)), (1, .int (nI (k1))), (2, .int (nI (k2))), (3, .int (nI (k3)))]) hx hb dX11_swaps_68 hl (by decide) rfl (fun ls hl => ?_)
          obtain ⟨v5, ev5⟩ : ∃ v : Int32, v = (t_at (y) (nI (k1)) (nI (k3))) := ⟨_, rfl⟩
          rw [← ev5] at hl
          refine lv_iload hx hb dX11_swaps_70 (lv_at hl 1 rfl) ?_
          refine lv_bipush (v := (-4)) hx hb dX11_swaps_72 (by decide) ?_
          refine lv_icmp_eq (tgt := 91) hx hb dX11_swaps_74 (by decide) (fun c74_6 => ?_) (fun c74_6 => ?_)
          · skip
            rw [c74_6] at ev4
            refine lv_iload hx hb dX11_swaps_91 (lv_at hl 0 rfl) ?_
            refine lv_bipush (v := (-4)) hx hb dX11_swaps_93 (by decide) ?_
            refine lv_icmp_eq (tgt := 112) hx hb dX11_swaps_95 (by decide) (fun c95_7 => ?_) (fun c95_7 => ?_)
            · skip
              rw [c95_7] at ev5
              refine lv_aload_n hx hb dX11_swaps_112 rfl (lv_at hl 2 rfl) ?_
              refine lv_iload_n hx hb dX11_swaps_113 rfl (lv_at hl 3 rfl) ?_
              refine zVI [.int (nI (k1))] [] (kX11_imbalance (o) (v) (R) (k1) (yMove y (y_cu y) (y_pl y)) (show y_n (yMove y (y_cu y) (y_pl y)) ≤ 12 ∧ y_cn (yMove y (y_cu y) (y_pl y)) ≤ 4 ∧ y_rn (yMove y (y_cu y) (y_pl y)) ≤ 5 from hB) (show RelI (yMove y (y_cu y) (y_pl y)) (m_g v) from hq) (show (k1) < 4 from by omega)) hx hb hml hown hts (cwV 1 hts gX11_swaps_X11_imbalance rfl rfl rfl (by decide +kernel) ⟨(Nat.le_of_ble_eq_true rfl), (Nat.le_of_ble_eq_true rfl)⟩) hK hP hD hS hA (va_recv hK hP (ci := 10) (q0 := 0) rfl rfl) rfl hl.1 rfl (Nat.le_of_ble_eq_true rfl) dX11_swaps_114 ⟨(Nat.le_of_ble_eq_true rfl), (Nat.le_of_ble_eq_true rfl)⟩ (fun r_114 _ H locs hr_114 hP hD hS => ?_)
              subst hr_114
              have hP : va_P D vwCl (MW ct o v R) H := hP
              have hD : va_D A (MW ct o v R) := hD
              have e9 : F_swap y v (nI k1) (nI k2) (nI k3) = ((t_im (yMove y (y_cu y) (y_pl y)) (nI (k1))), v) := (by simp only [F_swap, mRef, mG, mGF, mGFC, ixI, setAt, setG, yMove, nI_sub1, c5_1, hclk1, c16_2, c25_3, c34_4, eq_true c74_6, ← ev4, eq_true c95_7, ← ev5, p_in, p_worn, p_wi, p_creak, p_le0, p_lt1, p_rng, pmT, pmC, not_true_eq_false, not_false_eq_true, if_true, if_false, and_true, true_and, and_false, false_and, or_true, true_or, or_false, false_or, and_self, or_self, iff_true, true_iff, iff_false, false_iff, decide_eq_true_eq, decide_true, decide_false, Int32.add_zero, Nat.add_zero, ne_eq, Bool.false_eq_true, eq_self])
              exact zIret () hx hb hr hlocks hK (by show va_P D vwCl (MW ct o (F_swap y v (nI k1) (nI k2) (nI k3)).2 R) H; rw [e9]; exact hP) (by show va_D A (MW ct o (F_swap y v (nI k1) (nI k2) (nI k3)).2 R); rw [e9]; exact hD) hS dX11_swaps_117 (show (t_im (yMove y (y_cu y) (y_pl y)) (nI (k1))) = (F_swap y v (nI k1) (nI k2) (nI k3)).1 from (by rw [e9]))
            · skip
              obtain ⟨k5, hk5, qk5⟩ := (at_ex y _ _).resolve_left (fun q => c95_7 (ev5.trans q))
              rw [qk5] at ev5
              subst ev5
              have hclk5 : (nI k5).toNatClampNeg = k5 := nI_clamp (by omega)
              have hnek5 : ¬ nI k5 = -4 := nI_ne4 (by omega)
              refine lv_aload_n hx hb dX11_swaps_98 rfl (lv_at hl 2 rfl) ?_
              refine va_get (ci := 10) (v := .ref (o 1)) hx hb hts h_X11 hown hK hP 0 rfl rfl 0 (by decide) f9 (fun _ h9 => h9) rfl dX11_swaps_99 ?_
              refine lv_iconst (v := nI (5)) hx hb dX11_swaps_102 (by decide) ?_
              refine lv_iconst (v := nI (4)) hx hb dX11_swaps_103 (by decide) ?_
              refine lv_iload hx hb dX11_swaps_104 (lv_at hl 0 rfl) ?_
              refine zNmul hx hb dX11_swaps_106 ?_
              refine zNadd hx hb dX11_swaps_107 ?_
              refine lv_iconst (v := nI (3)) hx hb dX11_swaps_108 (by decide) ?_
              refine zNadd hx hb dX11_swaps_109 ?_
              refine lv_iload_n hx hb dX11_swaps_110 rfl (lv_at hl 4 rfl) ?_
              refine zIast (n := 972) (f := m_g v) (i := ((5 + (4 * k5)) + 3)) hx hb hK hP hD hS 1 rfl (by omega) (by decide) dX11_swaps_111 (fun H locs hP hD hS => ?_)
              have hP : va_P D vwCl (MW ct o ((upd (m_g v) (((5 + (4 * k5)) + 3)) (nI (k2))), m_fl v, m_ch v, m_sv v, m_why v, m_det v, m_li v, m_ld v, m_wt v, m_wm v, m_ln v, m_lz v, m_in v, m_ty v, m_he v, m_wa v, m_fa v, m_cm v, m_cz v) R) H := hP
              have hD : va_D A (MW ct o ((upd (m_g v) (((5 + (4 * k5)) + 3)) (nI (k2))), m_fl v, m_ch v, m_sv v, m_why v, m_det v, m_li v, m_ld v, m_wt v, m_wm v, m_ln v, m_lz v, m_in v, m_ty v, m_he v, m_wa v, m_fa v, m_cm v, m_cz v) R) := hD
              refine lv_aload_n hx hb dX11_swaps_112 rfl (lv_at hl 2 rfl) ?_
              refine lv_iload_n hx hb dX11_swaps_113 rfl (lv_at hl 3 rfl) ?_
              refine zVI [.int (nI (k1))] [] (kX11_imbalance (o) (((upd (m_g v) (((5 + (4 * k5)) + 3)) (nI (k2))), m_fl v, m_ch v, m_sv v, m_why v, m_det v, m_li v, m_ld v, m_wt v, m_wm v, m_ln v, m_lz v, m_in v, m_ty v, m_he v, m_wa v, m_fa v, m_cm v, m_cz v)) (R) (k1) (yMove y (y_cu y) (upd (y_pl y) k5 (nI k2))) (show y_n (yMove y (y_cu y) (upd (y_pl y) k5 (nI k2))) ≤ 12 ∧ y_cn (yMove y (y_cu y) (upd (y_pl y) k5 (nI k2))) ≤ 4 ∧ y_rn (yMove y (y_cu y) (upd (y_pl y) k5 (nI k2))) ≤ 5 from hB) (show RelI (yMove y (y_cu y) (upd (y_pl y) k5 (nI k2))) ((upd (m_g v) (((5 + (4 * k5)) + 3)) (nI (k2)))) from (RelI_pl (y := y) hB hq hk5 (by show ¬ y_cu y k5 = -4; rw [at_on qk5 hk5 hn]; exact nI_ne4 (by omega)) (by omega))) (show (k1) < 4 from by omega)) hx hb hml hown hts (cwV 1 hts gX11_swaps_X11_imbalance rfl rfl rfl (by decide +kernel) ⟨(Nat.le_of_ble_eq_true rfl), (Nat.le_of_ble_eq_true rfl)⟩) hK hP hD hS hA (va_recv hK hP (ci := 10) (q0 := 0) rfl rfl) rfl hl.1 rfl (Nat.le_of_ble_eq_true rfl) dX11_swaps_114 ⟨(Nat.le_of_ble_eq_true rfl), (Nat.le_of_ble_eq_true rfl)⟩ (fun r_114 _ H locs hr_114 hP hD hS => ?_)
              subst hr_114
              have hP : va_P D vwCl (MW ct o ((upd (m_g v) (((5 + (4 * k5)) + 3)) (nI (k2))), m_fl v, m_ch v, m_sv v, m_why v, m_det v, m_li v, m_ld v, m_wt v, m_wm v, m_ln v, m_lz v, m_in v, m_ty v, m_he v, m_wa v, m_fa v, m_cm v, m_cz v) R) H := hP
              have hD : va_D A (MW ct o ((upd (m_g v) (((5 + (4 * k5)) + 3)) (nI (k2))), m_fl v, m_ch v, m_sv v, m_why v, m_det v, m_li v, m_ld v, m_wt v, m_wm v, m_ln v, m_lz v, m_in v, m_ty v, m_he v, m_wa v, m_fa v, m_cm v, m_cz v) R) := hD
              have e9 : F_swap y v (nI k1) (nI k2) (nI k3) = ((t_im (yMove y (y_cu y) (upd (y_pl y) k5 (nI k2))) (nI (k1))), ((upd (m_g v) (((5 + (4 * k5)) + 3)) (nI (k2))), m_fl v, m_ch v, m_sv v, m_why v, m_det v, m_li v, m_ld v, m_wt v, m_wm v, m_ln v, m_lz v, m_in v, m_ty v, m_he v, m_wa v, m_fa v, m_cm v, m_cz v)) := (by simp only [F_swap, mRef, mG, mGF, mGFC, ixI, setAt, setG, yMove, nI_sub1, c5_1, hclk1, c16_2, c25_3, c34_4, eq_true c74_6, ← ev4, c95_7, hclk5, hnek5, qk5, p_in, p_worn, p_wi, p_creak, p_le0, p_lt1, p_rng, pmT, pmC, not_true_eq_false, not_false_eq_true, if_true, if_false, and_true, true_and, and_false, false_and, or_true, true_or, or_false, false_or, and_self, or_self, iff_true, true_iff, iff_false, false_iff, decide_eq_true_eq, decide_true, decide_false, Int32.add_zero, Nat.add_zero, ne_eq, Bool.false_eq_true, eq_self])
              exact zIret () hx hb hr hlocks hK (by show va_P D vwCl (MW ct o (F_swap y v (nI k1) (nI k2) (nI k3)).2 R) H; rw [e9]; exact hP) (by show va_D A (MW ct o (F_swap y v (nI k1) (nI k2) (nI k3)).2 R); rw [e9]; exact hD) hS dX11_swaps_117 (show (t_im (yMove y (y_cu y) (upd (y_pl y) k5 (nI k2))) (nI (k1))) = (F_swap y v (nI k1) (nI k2) (nI k3)).1 from (by rw [e9]))
          · skip
            obtain ⟨k4, hk4, qk4⟩ := (at_ex y _ _).resolve_left (fun q => c74_6 (ev4.trans q))
            rw [qk4] at ev4
            subst ev4
            have hclk4 : (nI k4).toNatClampNeg = k4 := nI_clamp (by omega)
            have hnek4 : ¬ nI k4 = -4 := nI_ne4 (by omega)
            refine lv_aload_n hx hb dX11_swaps_77 rfl (lv_at hl 2 rfl) ?_
            refine va_get (ci := 10) (v := .ref (o 1)) hx hb hts h_X11 hown hK hP 0 rfl rfl 0 (by decide) f9 (fun _ h9 => h9) rfl dX11_swaps_78 ?_
            refine lv_iconst (v := nI (5)) hx hb dX11_swaps_81 (by decide) ?_
            refine lv_iconst (v := nI (4)) hx hb dX11_swaps_82 (by decide) ?_
            refine lv_iload hx hb dX11_swaps_83 (lv_at hl 1 rfl) ?_
            refine zNmul hx hb dX11_swaps_85 ?_
            refine zNadd hx hb dX11_swaps_86 ?_
            refine lv_iconst (v := nI (3)) hx hb dX11_swaps_87 (by decide) ?_
            refine zNadd hx hb dX11_swaps_88 ?_
            refine lv_iload_n hx hb dX11_swaps_89 rfl (lv_at hl 5 rfl) ?_
            refine zIast (n := 972) (f := m_g v) (i := ((5 + (4 * k4)) + 3)) hx hb hK hP hD hS 1 rfl (by omega) (by decide) dX11_swaps_90 (fun H locs hP hD hS => ?_)
            have hP : va_P D vwCl (MW ct o ((upd (m_g v) (((5 + (4 * k4)) + 3)) (nI (k3))), m_fl v, m_ch v, m_sv v, m_why v, m_det v, m_li v, m_ld v, m_wt v, m_wm v, m_ln v, m_lz v, m_in v, m_ty v, m_he v, m_wa v, m_fa v, m_cm v, m_cz v) R) H := hP
            have hD : va_D A (MW ct o ((upd (m_g v) (((5 + (4 * k4)) + 3)) (nI (k3))), m_fl v, m_ch v, m_sv v, m_why v, m_det v, m_li v, m_ld v, m_wt v, m_wm v, m_ln v, m_lz v, m_in v, m_ty v, m_he v, m_wa v, m_fa v, m_cm v, m_cz v) R) := hD
            refine lv_iload hx hb dX11_swaps_91 (lv_at hl 0 rfl) ?_
            refine lv_bipush (v := (-4)) hx hb dX11_swaps_93 (by decide) ?_
            refine lv_icmp_eq (tgt := 112) hx hb dX11_swaps_95 (by decide) (fun c95_8 => ?_) (fun c95_8 => ?_)
            · skip
              rw [c95_8] at ev5
              refine lv_aload_n hx hb dX11_swaps_112 rfl (lv_at hl 2 rfl) ?_
              refine lv_iload_n hx hb dX11_swaps_113 rfl (lv_at hl 3 rfl) ?_
              refine zVI [.int (nI (k1))] [] (kX11_imbalance (o) (((upd (m_g v) (((5 + (4 * k4)) + 3)) (nI (k3))), m_fl v, m_ch v, m_sv v, m_why v, m_det v, m_li v, m_ld v, m_wt v, m_wm v, m_ln v, m_lz v, m_in v, m_ty v, m_he v, m_wa v, m_fa v, m_cm v, m_cz v)) (R) (k1) (yMove y (y_cu y) (upd (y_pl y) k4 (nI k3))) (show y_n (yMove y (y_cu y) (upd (y_pl y) k4 (nI k3))) ≤ 12 ∧ y_cn (yMove y (y_cu y) (upd (y_pl y) k4 (nI k3))) ≤ 4 ∧ y_rn (yMove y (y_cu y) (upd (y_pl y) k4 (nI k3))) ≤ 5 from hB) (show RelI (yMove y (y_cu y) (upd (y_pl y) k4 (nI k3))) ((upd (m_g v) (((5 + (4 * k4)) + 3)) (nI (k3)))) from (RelI_pl hB hq hk4 (by rw [at_on qk4 hk4 hn]; exact nI_ne4 (by omega)) (by omega))) (show (k1) < 4 from by omega)) hx hb hml hown hts (cwV 1 hts gX11_swaps_X11_imbalance rfl rfl rfl (by decide +kernel) ⟨(Nat.le_of_ble_eq_true rfl), (Nat.le_of_ble_eq_true rfl)⟩) hK hP hD hS hA (va_recv hK hP (ci := 10) (q0 := 0) rfl rfl) rfl hl.1 rfl (Nat.le_of_ble_eq_true rfl) dX11_swaps_114 ⟨(Nat.le_of_ble_eq_true rfl), (Nat.le_of_ble_eq_true rfl)⟩ (fun r_114 _ H locs hr_114 hP hD hS => ?_)
              subst hr_114
              have hP : va_P D vwCl (MW ct o ((upd (m_g v) (((5 + (4 * k4)) + 3)) (nI (k3))), m_fl v, m_ch v, m_sv v, m_why v, m_det v, m_li v, m_ld v, m_wt v, m_wm v, m_ln v, m_lz v, m_in v, m_ty v, m_he v, m_wa v, m_fa v, m_cm v, m_cz v) R) H := hP
              have hD : va_D A (MW ct o ((upd (m_g v) (((5 + (4 * k4)) + 3)) (nI (k3))), m_fl v, m_ch v, m_sv v, m_why v, m_det v, m_li v, m_ld v, m_wt v, m_wm v, m_ln v, m_lz v, m_in v, m_ty v, m_he v, m_wa v, m_fa v, m_cm v, m_cz v) R) := hD
              have e9 : F_swap y v (nI k1) (nI k2) (nI k3) = ((t_im (yMove y (y_cu y) (upd (y_pl y) k4 (nI k3))) (nI (k1))), ((upd (m_g v) (((5 + (4 * k4)) + 3)) (nI (k3))), m_fl v, m_ch v, m_sv v, m_why v, m_det v, m_li v, m_ld v, m_wt v, m_wm v, m_ln v, m_lz v, m_in v, m_ty v, m_he v, m_wa v, m_fa v, m_cm v, m_cz v)) := (by simp only [F_swap, mRef, mG, mGF, mGFC, ixI, setAt, setG, yMove, nI_sub1, c5_1, hclk1, c16_2, c25_3, c34_4, c74_6, hclk4, hnek4, qk4, eq_true c95_8, ← ev5, p_in, p_worn, p_wi, p_creak, p_le0, p_lt1, p_rng, pmT, pmC, not_true_eq_false, not_false_eq_true, if_true, if_false, and_true, true_and, and_false, false_and, or_true, true_or, or_false, false_or, and_self, or_self, iff_true, true_iff, iff_false, false_iff, decide_eq_true_eq, decide_true, decide_false, Int32.add_zero, Nat.add_zero, ne_eq, Bool.false_eq_true, eq_self])
              exact zIret () hx hb hr hlocks hK (by show va_P D vwCl (MW ct o (F_swap y v (nI k1) (nI k2) (nI k3)).2 R) H; rw [e9]; exact hP) (by show va_D A (MW ct o (F_swap y v (nI k1) (nI k2) (nI k3)).2 R); rw [e9]; exact hD) hS dX11_swaps_117 (show (t_im (yMove y (y_cu y) (upd (y_pl y) k4 (nI k3))) (nI (k1))) = (F_swap y v (nI k1) (nI k2) (nI k3)).1 from (by rw [e9]))
            · skip
              obtain ⟨k5, hk5, qk5⟩ := (at_ex y _ _).resolve_left (fun q => c95_8 (ev5.trans q))
              rw [qk5] at ev5
              subst ev5
              have hclk5 : (nI k5).toNatClampNeg = k5 := nI_clamp (by omega)
              have hnek5 : ¬ nI k5 = -4 := nI_ne4 (by omega)
              refine lv_aload_n hx hb dX11_swaps_98 rfl (lv_at hl 2 rfl) ?_
              refine va_get (ci := 10) (v := .ref (o 1)) hx hb hts h_X11 hown hK hP 0 rfl rfl 0 (by decide) f9 (fun _ h9 => h9) rfl dX11_swaps_99 ?_
              refine lv_iconst (v := nI (5)) hx hb dX11_swaps_102 (by decide) ?_
              refine lv_iconst (v := nI (4)) hx hb dX11_swaps_103 (by decide) ?_
              refine lv_iload hx hb dX11_swaps_104 (lv_at hl 0 rfl) ?_
              refine zNmul hx hb dX11_swaps_106 ?_
              refine zNadd hx hb dX11_swaps_107 ?_
              refine lv_iconst (v := nI (3)) hx hb dX11_swaps_108 (by decide) ?_
              refine zNadd hx hb dX11_swaps_109 ?_
              refine lv_iload_n hx hb dX11_swaps_110 rfl (lv_at hl 4 rfl) ?_
              refine zIast (n := 972) (f := (upd (m_g v) (((5 + (4 * k4)) + 3)) (nI (k3)))) (i := ((5 + (4 * k5)) + 3)) hx hb hK hP hD hS 1 rfl (by omega) (by decide) dX11_swaps_111 (fun H locs hP hD hS => ?_)
              have hP : va_P D vwCl (MW ct o ((upd ((upd (m_g v) (((5 + (4 * k4)) + 3)) (nI (k3)))) (((5 + (4 * k5)) + 3)) (nI (k2))), m_fl v, m_ch v, m_sv v, m_why v, m_det v, m_li v, m_ld v, m_wt v, m_wm v, m_ln v, m_lz v, m_in v, m_ty v, m_he v, m_wa v, m_fa v, m_cm v, m_cz v) R) H := hP
              have hD : va_D A (MW ct o ((upd ((upd (m_g v) (((5 + (4 * k4)) + 3)) (nI (k3)))) (((5 + (4 * k5)) + 3)) (nI (k2))), m_fl v, m_ch v, m_sv v, m_why v, m_det v, m_li v, m_ld v, m_wt v, m_wm v, m_ln v, m_lz v, m_in v, m_ty v, m_he v, m_wa v, m_fa v, m_cm v, m_cz v) R) := hD
              refine lv_aload_n hx hb dX11_swaps_112 rfl (lv_at hl 2 rfl) ?_
              refine lv_iload_n hx hb dX11_swaps_113 rfl (lv_at hl 3 rfl) ?_
              refine zVI [.int (nI (k1))] [] (kX11_imbalance (o) (((upd ((upd (m_g v) (((5 + (4 * k4)) + 3)) (nI (k3)))) (((5 + (4 * k5)) + 3)) (nI (k2))), m_fl v, m_ch v, m_sv v, m_why v, m_det v, m_li v, m_ld v, m_wt v, m_wm v, m_ln v, m_lz v, m_in v, m_ty v, m_he v, m_wa v, m_fa v, m_cm v, m_cz v)) (R) (k1) (yMove y (y_cu y) (upd (upd (y_pl y) k4 (nI k3)) k5 (nI k2))) (show y_n (yMove y (y_cu y) (upd (upd (y_pl y) k4 (nI k3)) k5 (nI k2))) ≤ 12 ∧ y_cn (yMove y (y_cu y) (upd (upd (y_pl y) k4 (nI k3)) k5 (nI k2))) ≤ 4 ∧ y_rn (yMove y (y_cu y) (upd (upd (y_pl y) k4 (nI k3)) k5 (nI k2))) ≤ 5 from hB) (show RelI (yMove y (y_cu y) (upd (upd (y_pl y) k4 (nI k3)) k5 (nI k2))) ((upd ((upd (m_g v) (((5 + (4 * k4)) + 3)) (nI (k3)))) (((5 + (4 * k5)) + 3)) (nI (k2)))) from (RelI_pl (y := yMove y (y_cu y) (upd (y_pl y) k4 (nI k3))) hB (RelI_pl hB hq hk4 (by rw [at_on qk4 hk4 hn]; exact nI_ne4 (by omega)) (by omega)) hk5 (by show ¬ y_cu y k5 = -4; rw [at_on qk5 hk5 hn]; exact nI_ne4 (by omega)) (by omega))) (show (k1) < 4 from by omega)) hx hb hml hown hts (cwV 1 hts gX11_swaps_X11_imbalance rfl rfl rfl (by decide +kernel) ⟨(Nat.le_of_ble_eq_true rfl), (Nat.le_of_ble_eq_true rfl)⟩) hK hP hD hS hA (va_recv hK hP (ci := 10) (q0 := 0) rfl rfl) rfl hl.1 rfl (Nat.le_of_ble_eq_true rfl) dX11_swaps_114 ⟨(Nat.le_of_ble_eq_true rfl), (Nat.le_of_ble_eq_true rfl)⟩ (fun r_114 _ H locs hr_114 hP hD hS => ?_)
              subst hr_114
              have hP : va_P D vwCl (MW ct o ((upd ((upd (m_g v) (((5 + (4 * k4)) + 3)) (nI (k3)))) (((5 + (4 * k5)) + 3)) (nI (k2))), m_fl v, m_ch v, m_sv v, m_why v, m_det v, m_li v, m_ld v, m_wt v, m_wm v, m_ln v, m_lz v, m_in v, m_ty v, m_he v, m_wa v, m_fa v, m_cm v, m_cz v) R) H := hP
              have hD : va_D A (MW ct o ((upd ((upd (m_g v) (((5 + (4 * k4)) + 3)) (nI (k3)))) (((5 + (4 * k5)) + 3)) (nI (k2))), m_fl v, m_ch v, m_sv v, m_why v, m_det v, m_li v, m_ld v, m_wt v, m_wm v, m_ln v, m_lz v, m_in v, m_ty v, m_he v, m_wa v, m_fa v, m_cm v, m_cz v) R) := hD
              have e9 : F_swap y v (nI k1) (nI k2) (nI k3) = ((t_im (yMove y (y_cu y) (upd (upd (y_pl y) k4 (nI k3)) k5 (nI k2))) (nI (k1))), ((upd ((upd (m_g v) (((5 + (4 * k4)) + 3)) (nI (k3)))) (((5 + (4 * k5)) + 3)) (nI (k2))), m_fl v, m_ch v, m_sv v, m_why v, m_det v, m_li v, m_ld v, m_wt v, m_wm v, m_ln v, m_lz v, m_in v, m_ty v, m_he v, m_wa v, m_fa v, m_cm v, m_cz v)) := (by simp only [F_swap, mRef, mG, mGF, mGFC, ixI, setAt, setG, yMove, nI_sub1, c5_1, hclk1, c16_2, c25_3, c34_4, c74_6, hclk4, hnek4, qk4, c95_8, hclk5, hnek5, qk5, p_in, p_worn, p_wi, p_creak, p_le0, p_lt1, p_rng, pmT, pmC, not_true_eq_false, not_false_eq_true, if_true, if_false, and_true, true_and, and_false, false_and, or_true, true_or, or_false, false_or, and_self, or_self, iff_true, true_iff, iff_false, false_iff, decide_eq_true_eq, decide_true, decide_false, Int32.add_zero, Nat.add_zero, ne_eq, Bool.false_eq_true, eq_self])
              exact zIret () hx hb hr hlocks hK (by show va_P D vwCl (MW ct o (F_swap y v (nI k1) (nI k2) (nI k3)).2 R) H; rw [e9]; exact hP) (by show va_D A (MW ct o (F_swap y v (nI k1) (nI k2) (nI k3)).2 R); rw [e9]; exact hD) hS dX11_swaps_117 (show (t_im (yMove y (y_cu y) (upd (upd (y_pl y) k4 (nI k3)) k5 (nI k2))) (nI (k1))) = (F_swap y v (nI k1) (nI k2) (nI k3)).1 from (by rw [e9]))
        · skip
          refine lv_iconst (v := nI (1)) hx hb dX11_swaps_37 (by decide) ?_
          refine lv_goto (tgt := 42) hx hb dX11_swaps_38 (by decide) ?_
          refine lv_bipush (v := nI (7)) hx hb dX11_swaps_42 (by decide) ?_
          refine lv_iload_n hx hb dX11_swaps_44 rfl (lv_at hl 2 rfl) ?_
          refine zVI [.int (nI (1)), .int (nI (7)), .int (x2)] [] (kX11_refuses_t (o) (v) (R) (nI (7)) (x2)) hx hb hml hown hts (cwV 3 hts gX11_swaps_X11_refuses rfl rfl rfl (by decide +kernel) ⟨(Nat.le_of_ble_eq_true rfl), (Nat.le_of_ble_eq_true rfl)⟩) hK hP hD hS hA (va_recv hK hP (ci := 10) (q0 := 0) rfl rfl) rfl hl.1 rfl (Nat.le_of_ble_eq_true rfl) dX11_swaps_45 ⟨(Nat.le_of_ble_eq_true rfl), (Nat.le_of_ble_eq_true rfl)⟩ (fun r_45 _ H locs hr_45 hP hD hS => ?_)
          subst hr_45
          have hP : va_P D vwCl (MW ct o ((m_g v), (m_fl v), (m_ch v), (m_sv v), (nI (7)), (x2), (nI (0)), (m_ld v), (m_wt v), (m_wm v), (m_ln v), (m_lz v), (m_in v), (m_ty v), (m_he v), (m_wa v), (m_fa v), (m_cm v), (m_cz v)) R) H := hP
          have hD : va_D A (MW ct o ((m_g v), (m_fl v), (m_ch v), (m_sv v), (nI (7)), (x2), (nI (0)), (m_ld v), (m_wt v), (m_wm v), (m_ln v), (m_lz v), (m_in v), (m_ty v), (m_he v), (m_wa v), (m_fa v), (m_cm v), (m_cz v)) R) := hD
          refine lv_if_eq (tgt := 54) hx hb dX11_swaps_48 (by decide) (fun c9 => absurd c9 (by decide)) (fun c9 => ?_)
          refine lv_bipush (v := (-3)) hx hb dX11_swaps_51 (by decide) ?_
          have e9 : F_swap y v (nI k1) x2 x3 = ((-3), ((m_g v), (m_fl v), (m_ch v), (m_sv v), (nI (7)), (x2), (nI (0)), (m_ld v), (m_wt v), (m_wm v), (m_ln v), (m_lz v), (m_in v), (m_ty v), (m_he v), (m_wa v), (m_fa v), (m_cm v), (m_cz v))) := (by simp only [F_swap, mRef, mG, mGF, mGFC, ixI, setAt, setG, yMove, nI_sub1, c5_1, hclk1, c16_2, c25_3, eq_true c34_4, p_in, p_worn, p_wi, p_creak, p_le0, p_lt1, p_rng, pmT, pmC, not_true_eq_false, not_false_eq_true, if_true, if_false, and_true, true_and, and_false, false_and, or_true, true_or, or_false, false_or, and_self, or_self, iff_true, true_iff, iff_false, false_iff, decide_eq_true_eq, decide_true, decide_false, Int32.add_zero, Nat.add_zero, ne_eq, Bool.false_eq_true, eq_self])
          exact zIret () hx hb hr hlocks hK (by show va_P D vwCl (MW ct o (F_swap y v (nI k1) x2 x3).2 R) H; rw [e9]; exact hP) (by show va_D A (MW ct o (F_swap y v (nI k1) x2 x3).2 R); rw [e9]; exact hD) hS dX11_swaps_53 (show (-3) = (F_swap y v (nI k1) x2 x3).1 from (by rw [e9]))
      · skip
        refine lv_bipush (v := (-2)) hx hb dX11_swaps_28 (by decide) ?_
        have e9 : F_swap y v (nI k1) x2 x3 = ((-2), v) := (by simp only [F_swap, mRef, mG, mGF, mGFC, ixI, setAt, setG, yMove, nI_sub1, c5_1, hclk1, c16_2, c25_3, p_in, p_worn, p_wi, p_creak, p_le0, p_lt1, p_rng, pmT, pmC, not_true_eq_false, not_false_eq_true, if_true, if_false, and_true, true_and, and_false, false_and, or_true, true_or, or_false, false_or, and_self, or_self, iff_true, true_iff, iff_false, false_iff, decide_eq_true_eq, decide_true, decide_false, Int32.add_zero, Nat.add_zero, ne_eq, Bool.false_eq_true, eq_self])
        exact zIret () hx hb hr hlocks hK (by show va_P D vwCl (MW ct o (F_swap y v (nI k1) x2 x3).2 R) H; rw [e9]; exact hP) (by show va_D A (MW ct o (F_swap y v (nI k1) x2 x3).2 R); rw [e9]; exact hD) hS dX11_swaps_30 (show (-2) = (F_swap y v (nI k1) x2 x3).1 from (by rw [e9]))
  · skip
    refine lv_iconst (v := (-1)) hx hb dX11_swaps_8 (by decide) ?_
    have e9 : F_swap y v x1 x2 x3 = ((-1), v) := (by simp only [F_swap, mRef, mG, mGF, mGFC, ixI, setAt, setG, yMove, nI_sub1, c5_1, p_in, p_worn, p_wi, p_creak, p_le0, p_lt1, p_rng, pmT, pmC, not_true_eq_false, not_false_eq_true, if_true, if_false, and_true, true_and, and_false, false_and, or_true, true_or, or_false, false_or, and_self, or_self, iff_true, true_iff, iff_false, false_iff, decide_eq_true_eq, decide_true, decide_false, Int32.add_zero, Nat.add_zero, ne_eq, Bool.false_eq_true, eq_self])
    exact zIret () hx hb hr hlocks hK (by show va_P D vwCl (MW ct o (F_swap y v x1 x2 x3).2 R) H; rw [e9]; exact hP) (by show va_D A (MW ct o (F_swap y v x1 x2 x3).2 R); rw [e9]; exact hD) hS dX11_swaps_9 (show (-1) = (F_swap y v x1 x2 x3).1 from (by rw [e9]))
abbrev rmX11_wears_f : Room := { frames := 5, cells := 0, slots := 0, locals := 113 }
theorem in_X11_wears_f_X11 : ∀ w ∈ u_ws RX11 TX11 19, w ∈ wsX11_wears := by decide +kernel
set_option maxHeartbeats 4000000 in
set_option maxRecDepth 100000 in
theorem kX11_wears_f {D : va_G} {ct : Nat → ClassId} {l : Launch} (o : Nat → Nat) (v : MS) (R : va_W) (x : Nat) (x3 : Int32) (y : YS) (r : Nat) (hy : yI y) (hq : RelI y (m_g v)) (hx4 : x < y_cn y) (hr5 : r < y_rn y) (h3 : x3 = y_mi y r) (hf : ∀ j, j < 8 → nF (m_fl v j)) : MV D ct l yX11_wears wsX11_wears rmX11_wears_f (MW ct o v R) [.ref (o 0), .int (nI (x)), .int (nI (0)), .int (x3)] (fun _ : Unit => True) (fun _ : Unit => MW ct o (F_wearsf y v x r) R) := by
  refine MVof (cc := cX11_wears) (maxL := 7) (ret := none) (by decide) rfl (Nat.le_of_ble_eq_true rfl) ?_
  intro p e s m args below meth c A H locs F hP hK hD hS hA ls hl
  obtain ⟨hx, hb, hr, hlocks, hml, hown, hts, hin⟩ := F
  have hl : lv_has ls 7 [(0, .ref (o 0)), (1, .int (nI (x))), (2, .int (nI (0))), (3, .int (x3))] := hl
  have hB : y_n y ≤ 12 ∧ y_cn y ≤ 4 ∧ y_rn y ≤ 5 := ⟨hy.1, hy.2.1, hy.2.2.1⟩
  have hn : y_n y ≤ 12 := hy.1
  have hcn : y_cn y ≤ 4 := hy.2.1
  have hrn : y_rn y ≤ 5 := hy.2.2.1
  have h_X11 := in_X11_wears_f_X11
  have f13 := hts (.fieldLink RX11 13 "CartArgumentsModel" "floats" "[F") (by decide +kernel)
  subst h3
  refine lv_aload_n hx hb dX11_wears_0 rfl (lv_at hl 0 rfl) ?_
  refine lv_iload_n hx hb dX11_wears_1 rfl (lv_at hl 1 rfl) ?_
  refine lv_iload_n hx hb dX11_wears_2 rfl (lv_at hl 2 rfl) ?_
  refine zVF [.int (nI (x)), .int (nI (0))] [] (kX11_loadOf (o) (v) (R) (x) (nI (0)) (y) (show yI (y) from hy) (show RelI (y) (m_g v) from hq) (show (x) < y_cn (y) from by omega)) hx hb hml hown hts (cwV 2 hts gX11_wears_X11_loadOf rfl rfl rfl (by decide +kernel) ⟨(Nat.le_of_ble_eq_true rfl), (Nat.le_of_ble_eq_true rfl)⟩) hK hP hD hS hA (va_recv hK hP (ci := 10) (q0 := 0) rfl rfl) rfl hl.1 rfl (Nat.le_of_ble_eq_true rfl) dX11_wears_3 ⟨(Nat.le_of_ble_eq_true rfl), (Nat.le_of_ble_eq_true rfl)⟩ (fun r_3 _ H locs hr_3 hP hD hS => ?_)
  subst hr_3
  have hP : va_P D vwCl (MW ct o v R) H := hP
  have hD : va_D A (MW ct o v R) := hD
  refine lv_iload_n hx hb dX11_wears_6 rfl (lv_at hl 3 rfl) ?_
  refine lv_i2f hx hb dX11_wears_7 ?_
  refine lv_fmul hx hb dX11_wears_8 (nF_n32 (wt1_nF hy hx4 hr5)) ?_
  refine lv_ldcf (v := 981668463) hx hb hown (hts (.constantFloat RX11 137 (981668463)) (by decide +kernel)) dX11_wears_9 ?_
  refine lv_fmul hx hb dX11_wears_11 (nF_n32 (wt0_nF hy hx4 hr5)) ?_
  refine lv_fstore (lv' := [(4, .float ((FP.fmul (FP.fmul (t_ld (y) (x) (nI (0))) (FP.i2f ((y_mi y r)))) 981668463))), (0, .ref (o 0)), (1, .int (nI (x))), (2, .int (nI (0))), (3, .int ((y_mi y r)))]) hx hb dX11_wears_12 hl (by decide) rfl (fun ls hl => ?_)
  refine lv_aload_n hx hb dX11_wears_14 rfl (lv_at hl 1 rfl) ?_
  refine lv_iload_n hx hb dX11_wears_15 rfl (lv_at hl 2 rfl) ?_
  refine lv_iload_n hx hb dX11_wears_16 rfl (lv_at hl 3 rfl) ?_
  refine zVI [.int (nI (x)), .int (nI (0))] [] (kX11_creaks (o) (v) (R) (x) (nI (0)) (y) (show yI (y) from hy) (show RelI (y) (m_g v) from hq) (show (x) < y_cn (y) from by omega)) hx hb hml hown hts (cwV 2 hts gX11_wears_X11_creaks rfl rfl rfl (by decide +kernel) ⟨(Nat.le_of_ble_eq_true rfl), (Nat.le_of_ble_eq_true rfl)⟩) hK hP hD hS hA (va_recv hK hP (ci := 10) (q0 := 0) rfl rfl) rfl hl.1 rfl (Nat.le_of_ble_eq_true rfl) dX11_wears_17 ⟨(Nat.le_of_ble_eq_true rfl), (Nat.le_of_ble_eq_true rfl)⟩ (fun r_17 _ H locs hr_17 hP hD hS => ?_)
  subst hr_17
  have hP : va_P D vwCl (MW ct o v R) H := hP
  have hD : va_D A (MW ct o v R) := hD
  refine zB_if_eq (tgt := 30) hx hb dX11_wears_20 (by decide) (fun c20_1 => ?_) (fun c20_1 => ?_)
  · skip
    refine lv_fload hx hb dX11_wears_30 (lv_at hl 0 rfl) ?_
    refine lv_fstore (lv' := [(5, .float ((FP.fmul (FP.fmul (t_ld (y) (x) (nI (0))) (FP.i2f ((y_mi y r)))) 981668463))), (4, .float ((FP.fmul (FP.fmul (t_ld (y) (x) (nI (0))) (FP.i2f ((y_mi y r)))) 981668463))), (0, .ref (o 0)), (1, .int (nI (x))), (2, .int (nI (0))), (3, .int ((y_mi y r)))]) hx hb dX11_wears_32 hl (by decide) rfl (fun ls hl => ?_)
    refine lv_iconst (v := nI (2)) hx hb dX11_wears_34 (by decide) ?_
    refine lv_iload_n hx hb dX11_wears_35 rfl (lv_at hl 3 rfl) ?_
    refine zNmul hx hb dX11_wears_36 ?_
    refine lv_iload_n hx hb dX11_wears_37 rfl (lv_at hl 4 rfl) ?_
    refine lv_if_eq (tgt := 45) hx hb dX11_wears_38 (by decide) (fun c9 => ?_) (fun c9 => absurd (by decide) c9)
    refine lv_iconst (v := nI (0)) hx hb dX11_wears_45 (by decide) ?_
    refine zNadd hx hb dX11_wears_46 ?_
    refine lv_istore (lv' := [(6, .int (nI (((2 * x) + 0)))), (5, .float ((FP.fmul (FP.fmul (t_ld (y) (x) (nI (0))) (FP.i2f ((y_mi y r)))) 981668463))), (4, .float ((FP.fmul (FP.fmul (t_ld (y) (x) (nI (0))) (FP.i2f ((y_mi y r)))) 981668463))), (0, .ref (o 0)), (1, .int (nI (x))), (2, .int (nI (0))), (3, .int ((y_mi y r)))]) hx hb dX11_wears_47 hl (by decide) rfl (fun ls hl => ?_)
    refine lv_aload_n hx hb dX11_wears_49 rfl (lv_at hl 3 rfl) ?_
    refine va_get (ci := 10) (v := .ref (o 2)) hx hb hts h_X11 hown hK hP 0 rfl rfl 1 (by decide) f13 (fun _ h9 => h9) rfl dX11_wears_50 ?_
    refine lv_iload hx hb dX11_wears_53 (lv_at hl 0 rfl) ?_
    refine lv_aload_n hx hb dX11_wears_55 rfl (lv_at hl 3 rfl) ?_
    refine va_get (ci := 10) (v := .ref (o 2)) hx hb hts h_X11 hown hK hP 0 rfl rfl 1 (by decide) f13 (fun _ h9 => h9) rfl dX11_wears_56 ?_
    refine lv_iload hx hb dX11_wears_59 (lv_at hl 0 rfl) ?_
    refine zFald (n := 108) (f := m_fl v) (i := ((2 * x) + 0)) hx hb hK hP 2 rfl (by omega) (by decide) dX11_wears_61 ?_
    refine lv_fload hx hb dX11_wears_62 (lv_at hl 1 rfl) ?_
    refine lv_fadd hx hb dX11_wears_64 (nF_n32 (nF_add (hf _ (by omega)) (wt0_nF hy hx4 hr5))) ?_
    refine zFast (n := 108) (f := m_fl v) (i := ((2 * x) + 0)) hx hb hK hP hD hS 2 rfl (by omega) (by decide) dX11_wears_65 (fun H locs hP hD hS => ?_)
    have hP : va_P D vwCl (MW ct o (m_g v, (vf_upd (m_fl v) (((2 * x) + 0)) ((FP.fadd (m_fl v (((2 * x) + 0))) (FP.fmul (FP.fmul (t_ld (y) (x) (nI (0))) (FP.i2f ((y_mi y r)))) 981668463)))), m_ch v, m_sv v, m_why v, m_det v, m_li v, m_ld v, m_wt v, m_wm v, m_ln v, m_lz v, m_in v, m_ty v, m_he v, m_wa v, m_fa v, m_cm v, m_cz v) R) H := hP
    have hD : va_D A (MW ct o (m_g v, (vf_upd (m_fl v) (((2 * x) + 0)) ((FP.fadd (m_fl v (((2 * x) + 0))) (FP.fmul (FP.fmul (t_ld (y) (x) (nI (0))) (FP.i2f ((y_mi y r)))) 981668463)))), m_ch v, m_sv v, m_why v, m_det v, m_li v, m_ld v, m_wt v, m_wm v, m_ln v, m_lz v, m_in v, m_ty v, m_he v, m_wa v, m_fa v, m_cm v, m_cz v) R) := hD
    have e9 : F_wearsf y v x r = (m_g v, (vf_upd (m_fl v) (((2 * x) + 0)) ((FP.fadd (m_fl v (((2 * x) + 0))) (FP.fmul (FP.fmul (t_ld (y) (x) (nI (0))) (FP.i2f ((y_mi y r)))) 981668463)))), m_ch v, m_sv v, m_why v, m_det v, m_li v, m_ld v, m_wt v, m_wm v, m_ln v, m_lz v, m_in v, m_ty v, m_he v, m_wa v, m_fa v, m_cm v, m_cz v) := (by simp only [F_wearsf, mRef, mG, mGF, mGFC, ixI, setAt, setG, yMove, nI_sub1, t_wt, c20_1, p_in, p_worn, p_wi, p_creak, p_le0, p_lt1, p_rng, pmT, pmC, not_true_eq_false, not_false_eq_true, if_true, if_false, and_true, true_and, and_false, false_and, or_true, true_or, or_false, false_or, and_self, or_self, iff_true, true_iff, iff_false, false_iff, decide_eq_true_eq, decide_true, decide_false, Int32.add_zero, Nat.add_zero, ne_eq, Bool.false_eq_true, eq_self])
    exact zVret () hx hb hr hlocks hK (by show va_P D vwCl (MW ct o (F_wearsf y v x r) R) H; rw [e9]; exact hP) (by show va_D A (MW ct o (F_wearsf y v x r) R); rw [e9]; exact hD) hS dX11_wears_66 trivial
  · skip
    refine lv_fload hx hb dX11_wears_23 (lv_at hl 0 rfl) ?_
    refine lv_fconst2 hx hb dX11_wears_25 ?_
    refine lv_fmul hx hb dX11_wears_26 (nF_n32 (wt2_nF hy hx4 hr5)) ?_
    refine lv_goto (tgt := 32) hx hb dX11_wears_27 (by decide) ?_
    refine lv_fstore (lv' := [(5, .float ((FP.fmul (FP.fmul (FP.fmul (t_ld (y) (x) (nI (0))) (FP.i2f ((y_mi y r)))) 981668463) FP.fconst2))), (4, .float ((FP.fmul (FP.fmul (t_ld (y) (x) (nI (0))) (FP.i2f ((y_mi y r)))) 981668463))), (0, .ref (o 0)), (1, .int (nI (x))), (2, .int (nI (0))), (3, .int ((y_mi y r)))]) hx hb dX11_wears_32 hl (by decide) rfl (fun ls hl => ?_)
    refine lv_iconst (v := nI (2)) hx hb dX11_wears_34 (by decide) ?_
    refine lv_iload_n hx hb dX11_wears_35 rfl (lv_at hl 3 rfl) ?_
    refine zNmul hx hb dX11_wears_36 ?_
    refine lv_iload_n hx hb dX11_wears_37 rfl (lv_at hl 4 rfl) ?_
    refine lv_if_eq (tgt := 45) hx hb dX11_wears_38 (by decide) (fun c9 => ?_) (fun c9 => absurd (by decide) c9)
    refine lv_iconst (v := nI (0)) hx hb dX11_wears_45 (by decide) ?_
    refine zNadd hx hb dX11_wears_46 ?_
    refine lv_istore (lv' := [(6, .int (nI (((2 * x) + 0)))), (5, .float ((FP.fmul (FP.fmul (FP.fmul (t_ld (y) (x) (nI (0))) (FP.i2f ((y_mi y r)))) 981668463) FP.fconst2))), (4, .float ((FP.fmul (FP.fmul (t_ld (y) (x) (nI (0))) (FP.i2f ((y_mi y r)))) 981668463))), (0, .ref (o 0)), (1, .int (nI (x))), (2, .int (nI (0))), (3, .int ((y_mi y r)))]) hx hb dX11_wears_47 hl (by decide) rfl (fun ls hl => ?_)
    refine lv_aload_n hx hb dX11_wears_49 rfl (lv_at hl 3 rfl) ?_
    refine va_get (ci := 10) (v := .ref (o 2)) hx hb hts h_X11 hown hK hP 0 rfl rfl 1 (by decide) f13 (fun _ h9 => h9) rfl dX11_wears_50 ?_
    refine lv_iload hx hb dX11_wears_53 (lv_at hl 0 rfl) ?_
    refine lv_aload_n hx hb dX11_wears_55 rfl (lv_at hl 3 rfl) ?_
    refine va_get (ci := 10) (v := .ref (o 2)) hx hb hts h_X11 hown hK hP 0 rfl rfl 1 (by decide) f13 (fun _ h9 => h9) rfl dX11_wears_56 ?_
    refine lv_iload hx hb dX11_wears_59 (lv_at hl 0 rfl) ?_
    refine zFald (n := 108) (f := m_fl v) (i := ((2 * x) + 0)) hx hb hK hP 2 rfl (by omega) (by decide) dX11_wears_61 ?_
    refine lv_fload hx hb dX11_wears_62 (lv_at hl 1 rfl) ?_
    refine lv_fadd hx hb dX11_wears_64 (nF_n32 (nF_add (hf _ (by omega)) (wt2_nF hy hx4 hr5))) ?_
    refine zFast (n := 108) (f := m_fl v) (i := ((2 * x) + 0)) hx hb hK hP hD hS 2 rfl (by omega) (by decide) dX11_wears_65 (fun H locs hP hD hS => ?_)
    have hP : va_P D vwCl (MW ct o (m_g v, (vf_upd (m_fl v) (((2 * x) + 0)) ((FP.fadd (m_fl v (((2 * x) + 0))) (FP.fmul (FP.fmul (FP.fmul (t_ld (y) (x) (nI (0))) (FP.i2f ((y_mi y r)))) 981668463) FP.fconst2)))), m_ch v, m_sv v, m_why v, m_det v, m_li v, m_ld v, m_wt v, m_wm v, m_ln v, m_lz v, m_in v, m_ty v, m_he v, m_wa v, m_fa v, m_cm v, m_cz v) R) H := hP
    have hD : va_D A (MW ct o (m_g v, (vf_upd (m_fl v) (((2 * x) + 0)) ((FP.fadd (m_fl v (((2 * x) + 0))) (FP.fmul (FP.fmul (FP.fmul (t_ld (y) (x) (nI (0))) (FP.i2f ((y_mi y r)))) 981668463) FP.fconst2)))), m_ch v, m_sv v, m_why v, m_det v, m_li v, m_ld v, m_wt v, m_wm v, m_ln v, m_lz v, m_in v, m_ty v, m_he v, m_wa v, m_fa v, m_cm v, m_cz v) R) := hD
    have e9 : F_wearsf y v x r = (m_g v, (vf_upd (m_fl v) (((2 * x) + 0)) ((FP.fadd (m_fl v (((2 * x) + 0))) (FP.fmul (FP.fmul (FP.fmul (t_ld (y) (x) (nI (0))) (FP.i2f ((y_mi y r)))) 981668463) FP.fconst2)))), m_ch v, m_sv v, m_why v, m_det v, m_li v, m_ld v, m_wt v, m_wm v, m_ln v, m_lz v, m_in v, m_ty v, m_he v, m_wa v, m_fa v, m_cm v, m_cz v) := (by simp only [F_wearsf, mRef, mG, mGF, mGFC, ixI, setAt, setG, yMove, nI_sub1, t_wt, c20_1, p_in, p_worn, p_wi, p_creak, p_le0, p_lt1, p_rng, pmT, pmC, not_true_eq_false, not_false_eq_true, if_true, if_false, and_true, true_and, and_false, false_and, or_true, true_or, or_false, false_or, and_self, or_self, iff_true, true_iff, iff_false, false_iff, decide_eq_true_eq, decide_true, decide_false, Int32.add_zero, Nat.add_zero, ne_eq, Bool.false_eq_true, eq_self])
    exact zVret () hx hb hr hlocks hK (by show va_P D vwCl (MW ct o (F_wearsf y v x r) R) H; rw [e9]; exact hP) (by show va_D A (MW ct o (F_wearsf y v x r) R); rw [e9]; exact hD) hS dX11_wears_66 trivial
abbrev rmX11_wears_r : Room := { frames := 5, cells := 0, slots := 0, locals := 113 }
theorem in_X11_wears_r_X11 : ∀ w ∈ u_ws RX11 TX11 19, w ∈ wsX11_wears := by decide +kernel
set_option maxHeartbeats 4000000 in
set_option maxRecDepth 100000 in
theorem kX11_wears_r {D : va_G} {ct : Nat → ClassId} {l : Launch} (o : Nat → Nat) (v : MS) (R : va_W) (x : Nat) (x3 : Int32) (y : YS) (r : Nat) (hy : yI y) (hq : RelI y (m_g v)) (hx4 : x < y_cn y) (hr5 : r < y_rn y) (h3 : x3 = y_mi y r) (hf : ∀ j, j < 8 → nF (m_fl v j)) : MV D ct l yX11_wears wsX11_wears rmX11_wears_r (MW ct o v R) [.ref (o 0), .int (nI (x)), .int (nI (1)), .int (x3)] (fun _ : Unit => True) (fun _ : Unit => MW ct o (F_wearsr y v x r) R) := by
  refine MVof (cc := cX11_wears) (maxL := 7) (ret := none) (by decide) rfl (Nat.le_of_ble_eq_true rfl) ?_
  intro p e s m args below meth c A H locs F hP hK hD hS hA ls hl
  obtain ⟨hx, hb, hr, hlocks, hml, hown, hts, hin⟩ := F
  have hl : lv_has ls 7 [(0, .ref (o 0)), (1, .int (nI (x))), (2, .int (nI (1))), (3, .int (x3))] := hl
  have hB : y_n y ≤ 12 ∧ y_cn y ≤ 4 ∧ y_rn y ≤ 5 := ⟨hy.1, hy.2.1, hy.2.2.1⟩
  have hn : y_n y ≤ 12 := hy.1
  have hcn : y_cn y ≤ 4 := hy.2.1
  have hrn : y_rn y ≤ 5 := hy.2.2.1
  have h_X11 := in_X11_wears_r_X11
  have f13 := hts (.fieldLink RX11 13 "CartArgumentsModel" "floats" "[F") (by decide +kernel)
  subst h3
  refine lv_aload_n hx hb dX11_wears_0 rfl (lv_at hl 0 rfl) ?_
  refine lv_iload_n hx hb dX11_wears_1 rfl (lv_at hl 1 rfl) ?_
  refine lv_iload_n hx hb dX11_wears_2 rfl (lv_at hl 2 rfl) ?_
  refine zVF [.int (nI (x)), .int (nI (1))] [] (kX11_loadOf (o) (v) (R) (x) (nI (1)) (y) (show yI (y) from hy) (show RelI (y) (m_g v) from hq) (show (x) < y_cn (y) from by omega)) hx hb hml hown hts (cwV 2 hts gX11_wears_X11_loadOf rfl rfl rfl (by decide +kernel) ⟨(Nat.le_of_ble_eq_true rfl), (Nat.le_of_ble_eq_true rfl)⟩) hK hP hD hS hA (va_recv hK hP (ci := 10) (q0 := 0) rfl rfl) rfl hl.1 rfl (Nat.le_of_ble_eq_true rfl) dX11_wears_3 ⟨(Nat.le_of_ble_eq_true rfl), (Nat.le_of_ble_eq_true rfl)⟩ (fun r_3 _ H locs hr_3 hP hD hS => ?_)
  subst hr_3
  have hP : va_P D vwCl (MW ct o v R) H := hP
  have hD : va_D A (MW ct o v R) := hD
  refine lv_iload_n hx hb dX11_wears_6 rfl (lv_at hl 3 rfl) ?_
  refine lv_i2f hx hb dX11_wears_7 ?_
  refine lv_fmul hx hb dX11_wears_8 (nF_n32 (wt1_nF hy hx4 hr5)) ?_
  refine lv_ldcf (v := 981668463) hx hb hown (hts (.constantFloat RX11 137 (981668463)) (by decide +kernel)) dX11_wears_9 ?_
  refine lv_fmul hx hb dX11_wears_11 (nF_n32 (wt0_nF hy hx4 hr5)) ?_
  refine lv_fstore (lv' := [(4, .float ((FP.fmul (FP.fmul (t_ld (y) (x) (nI (1))) (FP.i2f ((y_mi y r)))) 981668463))), (0, .ref (o 0)), (1, .int (nI (x))), (2, .int (nI (1))), (3, .int ((y_mi y r)))]) hx hb dX11_wears_12 hl (by decide) rfl (fun ls hl => ?_)
  refine lv_aload_n hx hb dX11_wears_14 rfl (lv_at hl 1 rfl) ?_
  refine lv_iload_n hx hb dX11_wears_15 rfl (lv_at hl 2 rfl) ?_
  refine lv_iload_n hx hb dX11_wears_16 rfl (lv_at hl 3 rfl) ?_
  refine zVI [.int (nI (x)), .int (nI (1))] [] (kX11_creaks (o) (v) (R) (x) (nI (1)) (y) (show yI (y) from hy) (show RelI (y) (m_g v) from hq) (show (x) < y_cn (y) from by omega)) hx hb hml hown hts (cwV 2 hts gX11_wears_X11_creaks rfl rfl rfl (by decide +kernel) ⟨(Nat.le_of_ble_eq_true rfl), (Nat.le_of_ble_eq_true rfl)⟩) hK hP hD hS hA (va_recv hK hP (ci := 10) (q0 := 0) rfl rfl) rfl hl.1 rfl (Nat.le_of_ble_eq_true rfl) dX11_wears_17 ⟨(Nat.le_of_ble_eq_true rfl), (Nat.le_of_ble_eq_true rfl)⟩ (fun r_17 _ H locs hr_17 hP hD hS => ?_)
  subst hr_17
  have hP : va_P D vwCl (MW ct o v R) H := hP
  have hD : va_D A (MW ct o v R) := hD
  refine zB_if_eq (tgt := 30) hx hb dX11_wears_20 (by decide) (fun c20_1 => ?_) (fun c20_1 => ?_)
  · skip
    refine lv_fload hx hb dX11_wears_30 (lv_at hl 0 rfl) ?_
    refine lv_fstore (lv' := [(5, .float ((FP.fmul (FP.fmul (t_ld (y) (x) (nI (1))) (FP.i2f ((y_mi y r)))) 981668463))), (4, .float ((FP.fmul (FP.fmul (t_ld (y) (x) (nI (1))) (FP.i2f ((y_mi y r)))) 981668463))), (0, .ref (o 0)), (1, .int (nI (x))), (2, .int (nI (1))), (3, .int ((y_mi y r)))]) hx hb dX11_wears_32 hl (by decide) rfl (fun ls hl => ?_)
    refine lv_iconst (v := nI (2)) hx hb dX11_wears_34 (by decide) ?_
    refine lv_iload_n hx hb dX11_wears_35 rfl (lv_at hl 3 rfl) ?_
    refine zNmul hx hb dX11_wears_36 ?_
    refine lv_iload_n hx hb dX11_wears_37 rfl (lv_at hl 4 rfl) ?_
    refine lv_if_eq (tgt := 45) hx hb dX11_wears_38 (by decide) (fun c9 => absurd c9 (by decide)) (fun c9 => ?_)
    refine lv_iconst (v := nI (1)) hx hb dX11_wears_41 (by decide) ?_
    refine lv_goto (tgt := 46) hx hb dX11_wears_42 (by decide) ?_
    refine zNadd hx hb dX11_wears_46 ?_
    refine lv_istore (lv' := [(6, .int (nI (((2 * x) + 1)))), (5, .float ((FP.fmul (FP.fmul (t_ld (y) (x) (nI (1))) (FP.i2f ((y_mi y r)))) 981668463))), (4, .float ((FP.fmul (FP.fmul (t_ld (y) (x) (nI (1))) (FP.i2f ((y_mi y r)))) 981668463))), (0, .ref (o 0)), (1, .int (nI (x))), (2, .int (nI (1))), (3, .int ((y_mi y r)))]) hx hb dX11_wears_47 hl (by decide) rfl (fun ls hl => ?_)
    refine lv_aload_n hx hb dX11_wears_49 rfl (lv_at hl 3 rfl) ?_
    refine va_get (ci := 10) (v := .ref (o 2)) hx hb hts h_X11 hown hK hP 0 rfl rfl 1 (by decide) f13 (fun _ h9 => h9) rfl dX11_wears_50 ?_
    refine lv_iload hx hb dX11_wears_53 (lv_at hl 0 rfl) ?_
    refine lv_aload_n hx hb dX11_wears_55 rfl (lv_at hl 3 rfl) ?_
    refine va_get (ci := 10) (v := .ref (o 2)) hx hb hts h_X11 hown hK hP 0 rfl rfl 1 (by decide) f13 (fun _ h9 => h9) rfl dX11_wears_56 ?_
    refine lv_iload hx hb dX11_wears_59 (lv_at hl 0 rfl) ?_
    refine zFald (n := 108) (f := m_fl v) (i := ((2 * x) + 1)) hx hb hK hP 2 rfl (by omega) (by decide) dX11_wears_61 ?_
    refine lv_fload hx hb dX11_wears_62 (lv_at hl 1 rfl) ?_
    refine lv_fadd hx hb dX11_wears_64 (nF_n32 (nF_add (hf _ (by omega)) (wt0_nF hy hx4 hr5))) ?_
    refine zFast (n := 108) (f := m_fl v) (i := ((2 * x) + 1)) hx hb hK hP hD hS 2 rfl (by omega) (by decide) dX11_wears_65 (fun H locs hP hD hS => ?_)
    have hP : va_P D vwCl (MW ct o (m_g v, (vf_upd (m_fl v) (((2 * x) + 1)) ((FP.fadd (m_fl v (((2 * x) + 1))) (FP.fmul (FP.fmul (t_ld (y) (x) (nI (1))) (FP.i2f ((y_mi y r)))) 981668463)))), m_ch v, m_sv v, m_why v, m_det v, m_li v, m_ld v, m_wt v, m_wm v, m_ln v, m_lz v, m_in v, m_ty v, m_he v, m_wa v, m_fa v, m_cm v, m_cz v) R) H := hP
    have hD : va_D A (MW ct o (m_g v, (vf_upd (m_fl v) (((2 * x) + 1)) ((FP.fadd (m_fl v (((2 * x) + 1))) (FP.fmul (FP.fmul (t_ld (y) (x) (nI (1))) (FP.i2f ((y_mi y r)))) 981668463)))), m_ch v, m_sv v, m_why v, m_det v, m_li v, m_ld v, m_wt v, m_wm v, m_ln v, m_lz v, m_in v, m_ty v, m_he v, m_wa v, m_fa v, m_cm v, m_cz v) R) := hD
    have e9 : F_wearsr y v x r = (m_g v, (vf_upd (m_fl v) (((2 * x) + 1)) ((FP.fadd (m_fl v (((2 * x) + 1))) (FP.fmul (FP.fmul (t_ld (y) (x) (nI (1))) (FP.i2f ((y_mi y r)))) 981668463)))), m_ch v, m_sv v, m_why v, m_det v, m_li v, m_ld v, m_wt v, m_wm v, m_ln v, m_lz v, m_in v, m_ty v, m_he v, m_wa v, m_fa v, m_cm v, m_cz v) := (by simp only [F_wearsr, mRef, mG, mGF, mGFC, ixI, setAt, setG, yMove, nI_sub1, t_wt, c20_1, p_in, p_worn, p_wi, p_creak, p_le0, p_lt1, p_rng, pmT, pmC, not_true_eq_false, not_false_eq_true, if_true, if_false, and_true, true_and, and_false, false_and, or_true, true_or, or_false, false_or, and_self, or_self, iff_true, true_iff, iff_false, false_iff, decide_eq_true_eq, decide_true, decide_false, Int32.add_zero, Nat.add_zero, ne_eq, Bool.false_eq_true, eq_self])
    exact zVret () hx hb hr hlocks hK (by show va_P D vwCl (MW ct o (F_wearsr y v x r) R) H; rw [e9]; exact hP) (by show va_D A (MW ct o (F_wearsr y v x r) R); rw [e9]; exact hD) hS dX11_wears_66 trivial
  · skip
    refine lv_fload hx hb dX11_wears_23 (lv_at hl 0 rfl) ?_
    refine lv_fconst2 hx hb dX11_wears_25 ?_
    refine lv_fmul hx hb dX11_wears_26 (nF_n32 (wt2_nF hy hx4 hr5)) ?_
    refine lv_goto (tgt := 32) hx hb dX11_wears_27 (by decide) ?_
    refine lv_fstore (lv' := [(5, .float ((FP.fmul (FP.fmul (FP.fmul (t_ld (y) (x) (nI (1))) (FP.i2f ((y_mi y r)))) 981668463) FP.fconst2))), (4, .float ((FP.fmul (FP.fmul (t_ld (y) (x) (nI (1))) (FP.i2f ((y_mi y r)))) 981668463))), (0, .ref (o 0)), (1, .int (nI (x))), (2, .int (nI (1))), (3, .int ((y_mi y r)))]) hx hb dX11_wears_32 hl (by decide) rfl (fun ls hl => ?_)
    refine lv_iconst (v := nI (2)) hx hb dX11_wears_34 (by decide) ?_
    refine lv_iload_n hx hb dX11_wears_35 rfl (lv_at hl 3 rfl) ?_
    refine zNmul hx hb dX11_wears_36 ?_
    refine lv_iload_n hx hb dX11_wears_37 rfl (lv_at hl 4 rfl) ?_
    refine lv_if_eq (tgt := 45) hx hb dX11_wears_38 (by decide) (fun c9 => absurd c9 (by decide)) (fun c9 => ?_)
    refine lv_iconst (v := nI (1)) hx hb dX11_wears_41 (by decide) ?_
    refine lv_goto (tgt := 46) hx hb dX11_wears_42 (by decide) ?_
    refine zNadd hx hb dX11_wears_46 ?_
    refine lv_istore (lv' := [(6, .int (nI (((2 * x) + 1)))), (5, .float ((FP.fmul (FP.fmul (FP.fmul (t_ld (y) (x) (nI (1))) (FP.i2f ((y_mi y r)))) 981668463) FP.fconst2))), (4, .float ((FP.fmul (FP.fmul (t_ld (y) (x) (nI (1))) (FP.i2f ((y_mi y r)))) 981668463))), (0, .ref (o 0)), (1, .int (nI (x))), (2, .int (nI (1))), (3, .int ((y_mi y r)))]) hx hb dX11_wears_47 hl (by decide) rfl (fun ls hl => ?_)
    refine lv_aload_n hx hb dX11_wears_49 rfl (lv_at hl 3 rfl) ?_
    refine va_get (ci := 10) (v := .ref (o 2)) hx hb hts h_X11 hown hK hP 0 rfl rfl 1 (by decide) f13 (fun _ h9 => h9) rfl dX11_wears_50 ?_
    refine lv_iload hx hb dX11_wears_53 (lv_at hl 0 rfl) ?_
    refine lv_aload_n hx hb dX11_wears_55 rfl (lv_at hl 3 rfl) ?_
    refine va_get (ci := 10) (v := .ref (o 2)) hx hb hts h_X11 hown hK hP 0 rfl rfl 1 (by decide) f13 (fun _ h9 => h9) rfl dX11_wears_56 ?_
    refine lv_iload hx hb dX11_wears_59 (lv_at hl 0 rfl) ?_
    refine zFald (n := 108) (f := m_fl v) (i := ((2 * x) + 1)) hx hb hK hP 2 rfl (by omega) (by decide) dX11_wears_61 ?_
    refine lv_fload hx hb dX11_wears_62 (lv_at hl 1 rfl) ?_
    refine lv_fadd hx hb dX11_wears_64 (nF_n32 (nF_add (hf _ (by omega)) (wt2_nF hy hx4 hr5))) ?_
    refine zFast (n := 108) (f := m_fl v) (i := ((2 * x) + 1)) hx hb hK hP hD hS 2 rfl (by omega) (by decide) dX11_wears_65 (fun H locs hP hD hS => ?_)
    have hP : va_P D vwCl (MW ct o (m_g v, (vf_upd (m_fl v) (((2 * x) + 1)) ((FP.fadd (m_fl v (((2 * x) + 1))) (FP.fmul (FP.fmul (FP.fmul (t_ld (y) (x) (nI (1))) (FP.i2f ((y_mi y r)))) 981668463) FP.fconst2)))), m_ch v, m_sv v, m_why v, m_det v, m_li v, m_ld v, m_wt v, m_wm v, m_ln v, m_lz v, m_in v, m_ty v, m_he v, m_wa v, m_fa v, m_cm v, m_cz v) R) H := hP
    have hD : va_D A (MW ct o (m_g v, (vf_upd (m_fl v) (((2 * x) + 1)) ((FP.fadd (m_fl v (((2 * x) + 1))) (FP.fmul (FP.fmul (FP.fmul (t_ld (y) (x) (nI (1))) (FP.i2f ((y_mi y r)))) 981668463) FP.fconst2)))), m_ch v, m_sv v, m_why v, m_det v, m_li v, m_ld v, m_wt v, m_wm v, m_ln v, m_lz v, m_in v, m_ty v, m_he v, m_wa v, m_fa v, m_cm v, m_cz v) R) := hD
    have e9 : F_wearsr y v x r = (m_g v, (vf_upd (m_fl v) (((2 * x) + 1)) ((FP.fadd (m_fl v (((2 * x) + 1))) (FP.fmul (FP.fmul (FP.fmul (t_ld (y) (x) (nI (1))) (FP.i2f ((y_mi y r)))) 981668463) FP.fconst2)))), m_ch v, m_sv v, m_why v, m_det v, m_li v, m_ld v, m_wt v, m_wm v, m_ln v, m_lz v, m_in v, m_ty v, m_he v, m_wa v, m_fa v, m_cm v, m_cz v) := (by simp only [F_wearsr, mRef, mG, mGF, mGFC, ixI, setAt, setG, yMove, nI_sub1, t_wt, c20_1, p_in, p_worn, p_wi, p_creak, p_le0, p_lt1, p_rng, pmT, pmC, not_true_eq_false, not_false_eq_true, if_true, if_false, and_true, true_and, and_false, false_and, or_true, true_or, or_false, false_or, and_self, or_self, iff_true, true_iff, iff_false, false_iff, decide_eq_true_eq, decide_true, decide_false, Int32.add_zero, Nat.add_zero, ne_eq, Bool.false_eq_true, eq_self])
    exact zVret () hx hb hr hlocks hK (by show va_P D vwCl (MW ct o (F_wearsr y v x r) R) H; rw [e9]; exact hP) (by show va_D A (MW ct o (F_wearsr y v x r) R); rw [e9]; exact hD) hS dX11_wears_66 trivial
