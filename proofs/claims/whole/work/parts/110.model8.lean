/-! THE REFERENCE: its parser, the end -/
theorem MW_set6 {ct : Nat → ClassId} {c : Nat → Nat} {m : MS} {R : va_W} {f : Nat → Int32} : (MW ct c m R).set 6 (c 6, aI ct 244 f) = MW ct c (mCm m f (m_cz m)) R := rfl
theorem cmSt {v : MS} {f : Nat → Int32} {a z j : Nat} : mCm (mCm v (zr4 f a j) z) (upd (m_cm (mCm v (zr4 f a j) z)) (a + j) (nI 0)) (m_cz (mCm v (zr4 f a j) z)) = mCm v (zr4 f a (j + 1)) z := by
  rw [cm_cm, cm_cm1, cz_cm, zr4_s]
set_option maxHeartbeats 4000000 in
set_option maxRecDepth 100000 in
theorem kX11_command {D : va_G} {ct : Nat → ClassId} {l : Launch} (o : Nat → Nat) (v : MS) (R : va_W)  (ho : okP v) (hcz : m_cz v ≤ 60) : MV D ct l yX11_command wsX11_command rmX11_command (MW ct o v R) [.ref (o 0)] (fun _ : Unit => True) (fun _ : Unit => MW ct o (F_cmd v) R) := by
  refine MVof (cc := cX11_command) (maxL := 4) (ret := none) (by decide) rfl (Nat.le_of_ble_eq_true rfl) ?_
  intro p e s m args below meth c A H locs F hP hK hD hS hA ls hl
  obtain ⟨hx, hb, hr, hlocks, hml, hown, hts, hin⟩ := F
  have hl : lv_has ls 4 [(0, .ref (o 0))] := hl
  have hh0 : m_he v ≤ m_ty v := ho.1
  have ht0 : m_ty v ≤ 60 := ho.2
  have h_X11 := in_X11_command_X11
  have f31 := hts (.fieldLink RX11 31 "CartArgumentsModel" "commands" "[I") (by decide +kernel)
  have f195 := hts (.fieldLink RX11 195 "CartArgumentsModel" "here" "I") (by decide +kernel)
  have f198 := hts (.fieldLink RX11 198 "CartArgumentsModel" "wrongAt" "I") (by decide +kernel)
  have f215 := hts (.fieldLink RX11 215 "CartArgumentsModel" "commandMany" "I") (by decide +kernel)
  refine lv_iconst (v := nI (4)) hx hb dX11_command_0 (by decide) ?_
  refine lv_aload_n hx hb dX11_command_1 rfl (lv_at hl 0 rfl) ?_
  refine va_get (ci := 10) (v := .int (nI (m_cz v))) hx hb hts h_X11 hown hK hP 0 rfl rfl 18 (by decide) f215 (fun _ h9 => h9) rfl dX11_command_2 ?_
  refine zNmul hx hb dX11_command_5 ?_
  refine lv_istore_n (lv' := [(1, .int (nI ((4 * m_cz v)))), (0, .ref (o 0))]) hx hb dX11_command_6 rfl hl (by decide) rfl (fun ls hl => ?_)
  refine lv_aload_n hx hb dX11_command_7 rfl (lv_at hl 1 rfl) ?_
  refine lv_dup hx hb dX11_command_8 rfl ?_
  refine va_get (ci := 10) (v := .int (nI (m_cz v))) hx hb hts h_X11 hown hK hP 0 rfl rfl 18 (by decide) f215 (fun _ h9 => h9) rfl dX11_command_9 ?_
  refine lv_iconst (v := nI (1)) hx hb dX11_command_12 (by decide) ?_
  refine zNadd hx hb dX11_command_13 ?_
  refine va_put (ci := 10) (v := .int (nI ((m_cz v + 1)))) (ty := .int) hx hb hts h_X11 tyX11 tyX11_ok nmX11 hown hK hP hD hS 0 rfl rfl 18 (by decide) f215 (fun _ h9 => h9) rfl (by decide +kernel) rfl rfl (Nat.le_of_ble_eq_true rfl) dX11_command_14 (fun H locs hP hD hS => ?_)
  have hP : va_P D vwCl (MW ct o (m_g v, m_fl v, m_ch v, m_sv v, m_why v, m_det v, m_li v, m_ld v, m_wt v, m_wm v, m_ln v, m_lz v, m_in v, m_ty v, m_he v, m_wa v, m_fa v, m_cm v, (m_cz v + 1)) R) H := hP
  have hD : va_D A (MW ct o (m_g v, m_fl v, m_ch v, m_sv v, m_why v, m_det v, m_li v, m_ld v, m_wt v, m_wm v, m_ln v, m_lz v, m_in v, m_ty v, m_he v, m_wa v, m_fa v, m_cm v, (m_cz v + 1)) R) := hD
  refine lv_aload_n hx hb dX11_command_17 rfl (lv_at hl 1 rfl) ?_
  refine zVI [] [] (kX11_sign (o) ((m_g v, m_fl v, m_ch v, m_sv v, m_why v, m_det v, m_li v, m_ld v, m_wt v, m_wm v, m_ln v, m_lz v, m_in v, m_ty v, m_he v, m_wa v, m_fa v, m_cm v, (m_cz v + 1))) (R) (show m_he v ≤ 60 from by omega) (show m_ty v ≤ 60 from by omega)) hx hb hml hown hts (cwV 0 hts gX11_command_X11_sign rfl rfl rfl (by decide +kernel) ⟨(Nat.le_of_ble_eq_true rfl), (Nat.le_of_ble_eq_true rfl)⟩) hK hP hD hS hA (va_recv hK hP (ci := 10) (q0 := 0) rfl rfl) rfl hl.1 rfl (Nat.le_of_ble_eq_true rfl) dX11_command_18 ⟨(Nat.le_of_ble_eq_true rfl), (Nat.le_of_ble_eq_true rfl)⟩ (fun r_18 _ H locs hr_18 hP hD hS => ?_)
  subst hr_18
  have hP : va_P D vwCl (MW ct o (m_g v, m_fl v, m_ch v, m_sv v, m_why v, m_det v, m_li v, m_ld v, m_wt v, m_wm v, m_ln v, m_lz v, m_in v, m_ty v, m_he v, m_wa v, m_fa v, m_cm v, (m_cz v + 1)) R) H := hP
  have hD : va_D A (MW ct o (m_g v, m_fl v, m_ch v, m_sv v, m_why v, m_det v, m_li v, m_ld v, m_wt v, m_wm v, m_ln v, m_lz v, m_in v, m_ty v, m_he v, m_wa v, m_fa v, m_cm v, (m_cz v + 1)) R) := hD
  refine lv_istore_n (lv' := [(2, .int ((sg (m_in v) (m_ty v) (m_he v)))), (1, .int (nI ((4 * m_cz v)))), (0, .ref (o 0))]) hx hb dX11_command_21 rfl hl (by decide) rfl (fun ls hl => ?_)
  refine lv_iconst (v := nI (0)) hx hb dX11_command_22 (by decide) ?_
  refine lv_istore_n (lv' := [(3, .int (nI (0))), (2, .int ((sg (m_in v) (m_ty v) (m_he v)))), (1, .int (nI ((4 * m_cz v)))), (0, .ref (o 0))]) hx hb dX11_command_23 rfl hl (by decide) rfl (fun ls hl => ?_)
  have lp24 : ∀ (fu : Nat) (j : Nat) (H : Heap) (locs : List Loc) (ls : Array Slot), (j ≤ 4) → 4 - j < fu → va_P D vwCl (MW ct o (mCm v (zr4 (m_cm v) (4 * m_cz v) j) (m_cz v + 1)) R) H → va_D A (MW ct o (mCm v (zr4 (m_cm v) (4 * m_cz v) j) (m_cz v + 1)) R) → va_S A s.heap H locs → lv_has ls 4 [(0, .ref (o 0)), (1, .int (nI ((4 * m_cz v)))), (2, .int ((sg (m_in v) (m_ty v) (m_he v)))), (3, .int (nI (j)))] → W p l e rmX11_command s m args below meth c H locs 0 0 (MQ below (va_Qv (fun _ : Unit => True) (zB D ct A (fun _ : Unit => MW ct o (F_cmd v) R)) A) args s rmX11_command.cells rmX11_command.slots A) (F0 m 24 ls []) := by
    intro fu
    induction fu with
    | zero => intro j H locs ls hj hfu; exact absurd hfu (Nat.not_lt_zero _)
    | succ fu ih24 =>
      intro j H locs ls hj hfu hP hD hS hl
      refine lv_iload_n hx hb dX11_command_24 rfl (lv_at hl 3 rfl) ?_
      refine lv_iconst (v := nI (4)) hx hb dX11_command_25 (by decide) ?_
      refine zN_icmp_ge (tgt := 44) hx hb (by omega) (by omega) dX11_command_26 (by decide) (fun c26_1 => ?_) (fun c26_1 => ?_)
      · skip
        obtain rfl : j = 4 := by omega
        have hP : va_P D vwCl (MW ct o (m_g v, m_fl v, m_ch v, m_sv v, m_why v, m_det v, m_li v, m_ld v, m_wt v, m_wm v, m_ln v, m_lz v, m_in v, m_ty v, m_he v, m_wa v, m_fa v, (zr4 (m_cm v) (4 * m_cz v) 4), (m_cz v + 1)) R) H := hP
        have hD : va_D A (MW ct o (m_g v, m_fl v, m_ch v, m_sv v, m_why v, m_det v, m_li v, m_ld v, m_wt v, m_wm v, m_ln v, m_lz v, m_in v, m_ty v, m_he v, m_wa v, m_fa v, (zr4 (m_cm v) (4 * m_cz v) 4), (m_cz v + 1)) R) := hD
        refine lv_iload_n hx hb dX11_command_44 rfl (lv_at hl 2 rfl) ?_
        refine lv_bipush (v := nI (112)) hx hb dX11_command_45 (by decide) ?_
        refine lv_icmp_eq (tgt := 101) hx hb dX11_command_47 (by decide) (fun c47_2 => ?_) (fun c47_2 => ?_)
        · skip
          exact cmdw_112 o v R ho hcz c47_2 ⟨hx, hb, hr, hlocks, hml, hown, hts, hin⟩ hP hK hD hS hA hl
        · skip
          refine lv_iload_n hx hb dX11_command_50 rfl (lv_at hl 2 rfl) ?_
          refine lv_bipush (v := nI (99)) hx hb dX11_command_51 (by decide) ?_
          refine lv_icmp_eq (tgt := 101) hx hb dX11_command_53 (by decide) (fun c53_9 => ?_) (fun c53_9 => ?_)
          · skip
            exact cmdw_99 o v R ho hcz c47_2 c53_9 ⟨hx, hb, hr, hlocks, hml, hown, hts, hin⟩ hP hK hD hS hA hl
          · skip
            refine lv_iload_n hx hb dX11_command_56 rfl (lv_at hl 2 rfl) ?_
            refine lv_bipush (v := nI (114)) hx hb dX11_command_57 (by decide) ?_
            refine lv_icmp_eq (tgt := 101) hx hb dX11_command_59 (by decide) (fun c59_15 => ?_) (fun c59_15 => ?_)
            · skip
              exact cmdw_114 o v R ho hcz c47_2 c53_9 c59_15 ⟨hx, hb, hr, hlocks, hml, hown, hts, hin⟩ hP hK hD hS hA hl
            · skip
              refine lv_iload_n hx hb dX11_command_62 rfl (lv_at hl 2 rfl) ?_
              refine lv_bipush (v := nI (108)) hx hb dX11_command_63 (by decide) ?_
              refine lv_icmp_eq (tgt := 101) hx hb dX11_command_65 (by decide) (fun c65_20 => ?_) (fun c65_20 => ?_)
              · skip
                exact cmdw_108 o v R ho hcz c47_2 c53_9 c59_15 c65_20 ⟨hx, hb, hr, hlocks, hml, hown, hts, hin⟩ hP hK hD hS hA hl
              · skip
                refine lv_iload_n hx hb dX11_command_68 rfl (lv_at hl 2 rfl) ?_
                refine lv_bipush (v := nI (117)) hx hb dX11_command_69 (by decide) ?_
                refine lv_icmp_eq (tgt := 101) hx hb dX11_command_71 (by decide) (fun c71_26 => ?_) (fun c71_26 => ?_)
                · skip
                  exact cmdw_117 o v R ho hcz c47_2 c53_9 c59_15 c65_20 c71_26 ⟨hx, hb, hr, hlocks, hml, hown, hts, hin⟩ hP hK hD hS hA hl
                · skip
                  refine lv_iload_n hx hb dX11_command_74 rfl (lv_at hl 2 rfl) ?_
                  refine lv_bipush (v := nI (115)) hx hb dX11_command_75 (by decide) ?_
                  refine lv_icmp_eq (tgt := 101) hx hb dX11_command_77 (by decide) (fun c77_33 => ?_) (fun c77_33 => ?_)
                  · skip
                    exact cmdw_115 o v R ho hcz c47_2 c53_9 c59_15 c65_20 c71_26 c77_33 ⟨hx, hb, hr, hlocks, hml, hown, hts, hin⟩ hP hK hD hS hA hl
                  · skip
                    refine lv_iload_n hx hb dX11_command_80 rfl (lv_at hl 2 rfl) ?_
                    refine lv_bipush (v := nI (116)) hx hb dX11_command_81 (by decide) ?_
                    refine lv_icmp_eq (tgt := 101) hx hb dX11_command_83 (by decide) (fun c83_40 => ?_) (fun c83_40 => ?_)
                    · skip
                      exact cmdw_116 o v R ho hcz c47_2 c53_9 c59_15 c65_20 c71_26 c77_33 c83_40 ⟨hx, hb, hr, hlocks, hml, hown, hts, hin⟩ hP hK hD hS hA hl
                    · skip
                      refine lv_iload_n hx hb dX11_command_86 rfl (lv_at hl 2 rfl) ?_
                      refine lv_bipush (v := nI (103)) hx hb dX11_command_87 (by decide) ?_
                      refine lv_icmp_eq (tgt := 101) hx hb dX11_command_89 (by decide) (fun c89_47 => ?_) (fun c89_47 => ?_)
                      · skip
                        exact cmdw_103 o v R ho hcz c47_2 c53_9 c59_15 c65_20 c71_26 c77_33 c83_40 c89_47 ⟨hx, hb, hr, hlocks, hml, hown, hts, hin⟩ hP hK hD hS hA hl
                      · skip
                        refine lv_aload_n hx hb dX11_command_92 rfl (lv_at hl 0 rfl) ?_
                        refine lv_aload_n hx hb dX11_command_93 rfl (lv_at hl 0 rfl) ?_
                        refine va_get (ci := 10) (v := .int (nI (m_he v))) hx hb hts h_X11 hown hK hP 0 rfl rfl 14 (by decide) f195 (fun _ h9 => h9) rfl dX11_command_94 ?_
                        refine va_put (ci := 10) (v := .int (nI (m_he v))) (ty := .int) hx hb hts h_X11 tyX11 tyX11_ok nmX11 hown hK hP hD hS 0 rfl rfl 15 (by decide) f198 (fun _ h9 => h9) rfl (by decide +kernel) rfl rfl (Nat.le_of_ble_eq_true rfl) dX11_command_97 (fun H locs hP hD hS => ?_)
                        have hP : va_P D vwCl (MW ct o (m_g v, m_fl v, m_ch v, m_sv v, m_why v, m_det v, m_li v, m_ld v, m_wt v, m_wm v, m_ln v, m_lz v, m_in v, m_ty v, m_he v, nI (m_he v), m_fa v, (zr4 (m_cm v) (4 * m_cz v) 4), (m_cz v + 1)) R) H := hP
                        have hD : va_D A (MW ct o (m_g v, m_fl v, m_ch v, m_sv v, m_why v, m_det v, m_li v, m_ld v, m_wt v, m_wm v, m_ln v, m_lz v, m_in v, m_ty v, m_he v, nI (m_he v), m_fa v, (zr4 (m_cm v) (4 * m_cz v) 4), (m_cz v + 1)) R) := hD
                        have e9 : F_cmd v = (m_g v, m_fl v, m_ch v, m_sv v, m_why v, m_det v, m_li v, m_ld v, m_wt v, m_wm v, m_ln v, m_lz v, m_in v, m_ty v, m_he v, nI (m_he v), m_fa v, (zr4 (m_cm v) (4 * m_cz v) 4), (m_cz v + 1)) := ((cmd_n ⟨c47_2, c53_9, c59_15, c65_20, c71_26, c77_33, c83_40, c89_47⟩).trans rfl)
                        exact zVret () hx hb hr hlocks hK (by show va_P D vwCl (MW ct o (F_cmd v) R) H; rw [e9]; exact hP) (by show va_D A (MW ct o (F_cmd v) R); rw [e9]; exact hD) hS dX11_command_100 trivial
      · skip
        obtain ⟨w, hw⟩ : ∃ w : MS, w = (mCm v (zr4 (m_cm v) (4 * m_cz v) j) (m_cz v + 1)) := ⟨_, rfl⟩
        rw [← hw] at hP hD
        refine lv_aload_n hx hb dX11_command_29 rfl (lv_at hl 0 rfl) ?_
        refine va_get (ci := 10) (v := .ref (o 6)) hx hb hts h_X11 hown hK hP 0 rfl rfl 17 (by decide) f31 (fun _ h9 => h9) rfl dX11_command_30 ?_
        refine lv_iload_n hx hb dX11_command_33 rfl (lv_at hl 1 rfl) ?_
        refine lv_iload_n hx hb dX11_command_34 rfl (lv_at hl 3 rfl) ?_
        refine zNadd hx hb dX11_command_35 ?_
        refine lv_iconst (v := nI (0)) hx hb dX11_command_36 (by decide) ?_
        refine zIast (n := 244) (f := m_cm w) (i := ((4 * m_cz v) + j)) hx hb hK hP hD hS 6 rfl (by omega) (by decide) dX11_command_37 (fun H locs hP hD hS => ?_)
        rw [MW_set6, hw, cmSt] at hP hD
        refine lv_iinc (v := nI ((j + 1))) (lv' := [(3, .int (nI ((j + 1)))), (0, .ref (o 0)), (1, .int (nI ((4 * m_cz v)))), (2, .int ((sg (m_in v) (m_ty v) (m_he v))))]) hx hb dX11_command_38 hl (k := 3) rfl (zInc _) (by decide) rfl (fun ls hl => ?_)
        refine lv_goto (tgt := 24) hx hb dX11_command_41 (by decide) ?_
        exact ih24 ((j + 1)) H locs ls (by omega) (by omega) hP hD hS (lv_sub hl [1, 2, 3, 0] rfl)
  have hP : va_P D vwCl (MW ct o (mCm v (zr4 (m_cm v) (4 * m_cz v) (0)) (m_cz v + 1)) R) H := by rw [zr4_0]; exact hP
  have hD : va_D A (MW ct o (mCm v (zr4 (m_cm v) (4 * m_cz v) (0)) (m_cz v + 1)) R) := by rw [zr4_0]; exact hD
  exact lp24 ((4 - (0)) + 1) (0) H locs ls (by omega) (Nat.lt_succ_self _) hP hD hS (lv_sub hl [3, 2, 1, 0] rfl)
abbrev rmX11_parse : Room := { frames := 5, cells := 0, slots := 0, locals := 109 }
theorem in_X11_parse_X11 : ∀ w ∈ u_ws RX11 TX11 19, w ∈ wsX11_parse := by decide +kernel
set_option maxHeartbeats 4000000 in
set_option maxRecDepth 100000 in
theorem kX11_parse {D : va_G} {ct : Nat → ClassId} {l : Launch} (o : Nat → Nat) (v : MS) (R : va_W)  (ht : m_ty v ≤ 60) : MV D ct l yX11_parse wsX11_parse rmX11_parse (MW ct o v R) [.ref (o 0)] (fun _ : Unit => True) (fun _ : Unit => MW ct o (F_prs v) R) := by
  refine MVof (cc := cX11_parse) (maxL := 1) (ret := none) (by decide) rfl (Nat.le_of_ble_eq_true rfl) ?_
  intro p e s m args below meth c A H locs F hP hK hD hS hA ls hl
  obtain ⟨hx, hb, hr, hlocks, hml, hown, hts, hin⟩ := F
  have hl : lv_has ls 1 [(0, .ref (o 0))] := hl
  have h_X11 := in_X11_parse_X11
  have f192 := hts (.fieldLink RX11 192 "CartArgumentsModel" "typed" "I") (by decide +kernel)
  have f195 := hts (.fieldLink RX11 195 "CartArgumentsModel" "here" "I") (by decide +kernel)
  have f198 := hts (.fieldLink RX11 198 "CartArgumentsModel" "wrongAt" "I") (by decide +kernel)
  have f215 := hts (.fieldLink RX11 215 "CartArgumentsModel" "commandMany" "I") (by decide +kernel)
  refine lv_aload_n hx hb dX11_parse_0 rfl (lv_at hl 0 rfl) ?_
  refine lv_iconst (v := nI (0)) hx hb dX11_parse_1 (by decide) ?_
  refine va_put (ci := 10) (v := .int (nI (0))) (ty := .int) hx hb hts h_X11 tyX11 tyX11_ok nmX11 hown hK hP hD hS 0 rfl rfl 14 (by decide) f195 (fun _ h9 => h9) rfl (by decide +kernel) rfl rfl (Nat.le_of_ble_eq_true rfl) dX11_parse_2 (fun H locs hP hD hS => ?_)
  have hP : va_P D vwCl (MW ct o (m_g v, m_fl v, m_ch v, m_sv v, m_why v, m_det v, m_li v, m_ld v, m_wt v, m_wm v, m_ln v, m_lz v, m_in v, m_ty v, 0, m_wa v, m_fa v, m_cm v, m_cz v) R) H := hP
  have hD : va_D A (MW ct o (m_g v, m_fl v, m_ch v, m_sv v, m_why v, m_det v, m_li v, m_ld v, m_wt v, m_wm v, m_ln v, m_lz v, m_in v, m_ty v, 0, m_wa v, m_fa v, m_cm v, m_cz v) R) := hD
  refine lv_aload_n hx hb dX11_parse_5 rfl (lv_at hl 0 rfl) ?_
  refine lv_iconst (v := (-1)) hx hb dX11_parse_6 (by decide) ?_
  refine va_put (ci := 10) (v := .int ((-1))) (ty := .int) hx hb hts h_X11 tyX11 tyX11_ok nmX11 hown hK hP hD hS 0 rfl rfl 15 (by decide) f198 (fun _ h9 => h9) rfl (by decide +kernel) rfl rfl (Nat.le_of_ble_eq_true rfl) dX11_parse_7 (fun H locs hP hD hS => ?_)
  have hP : va_P D vwCl (MW ct o (m_g v, m_fl v, m_ch v, m_sv v, m_why v, m_det v, m_li v, m_ld v, m_wt v, m_wm v, m_ln v, m_lz v, m_in v, m_ty v, 0, (-1), m_fa v, m_cm v, m_cz v) R) H := hP
  have hD : va_D A (MW ct o (m_g v, m_fl v, m_ch v, m_sv v, m_why v, m_det v, m_li v, m_ld v, m_wt v, m_wm v, m_ln v, m_lz v, m_in v, m_ty v, 0, (-1), m_fa v, m_cm v, m_cz v) R) := hD
  refine lv_aload_n hx hb dX11_parse_10 rfl (lv_at hl 0 rfl) ?_
  refine lv_iconst (v := nI (0)) hx hb dX11_parse_11 (by decide) ?_
  refine va_put (ci := 10) (v := .int (nI (0))) (ty := .int) hx hb hts h_X11 tyX11 tyX11_ok nmX11 hown hK hP hD hS 0 rfl rfl 18 (by decide) f215 (fun _ h9 => h9) rfl (by decide +kernel) rfl rfl (Nat.le_of_ble_eq_true rfl) dX11_parse_12 (fun H locs hP hD hS => ?_)
  have hP : va_P D vwCl (MW ct o (m_g v, m_fl v, m_ch v, m_sv v, m_why v, m_det v, m_li v, m_ld v, m_wt v, m_wm v, m_ln v, m_lz v, m_in v, m_ty v, 0, (-1), m_fa v, m_cm v, 0) R) H := hP
  have hD : va_D A (MW ct o (m_g v, m_fl v, m_ch v, m_sv v, m_why v, m_det v, m_li v, m_ld v, m_wt v, m_wm v, m_ln v, m_lz v, m_in v, m_ty v, 0, (-1), m_fa v, m_cm v, 0) R) := hD
  have hP : va_P D vwCl (MW ct o (p_0 v) R) H := hP
  have hD : va_D A (MW ct o (p_0 v) R) := hD
  refine lv_aload_n hx hb dX11_parse_15 rfl (lv_at hl 0 rfl) ?_
  refine zVV [] [] (kX11_command (o) ((p_0 v)) (R) (show okP (p_0 v) from ⟨Nat.zero_le _, ht⟩) (show (m_cz (p_0 v)) ≤ 60 from (Nat.zero_le _))) hx hb hml hown hts (cwV 0 hts gX11_parse_X11_command rfl rfl rfl (by decide +kernel) ⟨(Nat.le_of_ble_eq_true rfl), (Nat.le_of_ble_eq_true rfl)⟩) hK hP hD hS hA (va_recv hK hP (ci := 10) (q0 := 0) rfl rfl) rfl hl.1 rfl (Nat.le_of_ble_eq_true rfl) dX11_parse_16 ⟨(Nat.le_of_ble_eq_true rfl), (Nat.le_of_ble_eq_true rfl)⟩ (fun _ H locs hr_16 hP hD hS => ?_)
  have hP : va_P D vwCl (MW ct o (F_cmd (p_0 v)) R) H := hP
  have hD : va_D A (MW ct o (F_cmd (p_0 v)) R) := hD
  have lp19 : ∀ (fu : Nat) (n : Nat) (s1 : MS) (H : Heap) (locs : List Loc) (ls : Array Slot), (okP s1) → (m_wa s1 < 0 → m_cz s1 ≤ m_he s1) → (pLoop n s1 = pLoop 61 (F_cmd (p_0 v))) → (61 ≤ n + m_he s1) → n < fu → va_P D vwCl (MW ct o s1 R) H → va_D A (MW ct o s1 R) → va_S A s.heap H locs → lv_has ls 1 [(0, .ref (o 0))] → W p l e rmX11_parse s m args below meth c H locs 0 0 (MQ below (va_Qv (fun _ : Unit => True) (zB D ct A (fun _ : Unit => MW ct o (F_prs v) R)) A) args s rmX11_parse.cells rmX11_parse.slots A) (F0 m 19 ls []) := by
    intro fu
    induction fu with
    | zero => intro n s1 H locs ls hs0 hcc htot hn6 hfu; exact absurd hfu (Nat.not_lt_zero _)
    | succ fu ih19 =>
      intro n s1 H locs ls hs0 hcc htot hn6 hfu hP hD hS hl
      refine lv_aload_n hx hb dX11_parse_19 rfl (lv_at hl 0 rfl) ?_
      refine va_get (ci := 10) (v := .int (m_wa s1)) hx hb hts h_X11 hown hK hP 0 rfl rfl 15 (by decide) f198 (fun _ h9 => h9) rfl dX11_parse_20 ?_
      refine lv_if_ge (tgt := 52) hx hb dX11_parse_23 (by decide) (fun c23_1 => ?_) (fun c23_1 => ?_)
      · skip
        refine lv_aload_n hx hb dX11_parse_52 rfl (lv_at hl 0 rfl) ?_
        refine va_get (ci := 10) (v := .int (m_wa s1)) hx hb hts h_X11 hown hK hP 0 rfl rfl 15 (by decide) f198 (fun _ h9 => h9) rfl dX11_parse_53 ?_
        refine lv_if_ge (tgt := 78) hx hb dX11_parse_56 (by decide) (fun c56_2 => ?_) (fun c56_2 => ?_)
        · skip
          have e9 : F_prs v = s1 := (by unfold F_prs; rw [← htot, pLoop_e (fun q => absurd q.1 (i_ge0 c23_1))]; exact if_neg (fun q => absurd q.1 (i_ge0 c23_1)))
          exact zVret () hx hb hr hlocks hK (by show va_P D vwCl (MW ct o (F_prs v) R) H; rw [e9]; exact hP) (by show va_D A (MW ct o (F_prs v) R); rw [e9]; exact hD) hS dX11_parse_78 trivial
        · skip
          exact absurd c23_1 c56_2
      · skip
        have hh1 : m_he s1 ≤ m_ty s1 := hs0.1
        have ht1 : m_ty s1 ≤ 60 := hs0.2
        refine lv_aload_n hx hb dX11_parse_26 rfl (lv_at hl 0 rfl) ?_
        refine zVI [] [] (kX11_sign (o) (s1) (R) (show m_he s1 ≤ 60 from by omega) (show m_ty s1 ≤ 60 from by omega)) hx hb hml hown hts (cwV 0 hts gX11_parse_X11_sign rfl rfl rfl (by decide +kernel) ⟨(Nat.le_of_ble_eq_true rfl), (Nat.le_of_ble_eq_true rfl)⟩) hK hP hD hS hA (va_recv hK hP (ci := 10) (q0 := 0) rfl rfl) rfl hl.1 rfl (Nat.le_of_ble_eq_true rfl) dX11_parse_27 ⟨(Nat.le_of_ble_eq_true rfl), (Nat.le_of_ble_eq_true rfl)⟩ (fun r_27 _ H locs hr_27 hP hD hS => ?_)
        subst hr_27
        have hP : va_P D vwCl (MW ct o s1 R) H := hP
        have hD : va_D A (MW ct o s1 R) := hD
        refine lv_bipush (v := nI (59)) hx hb dX11_parse_30 (by decide) ?_
        refine lv_icmp_ne (tgt := 52) hx hb dX11_parse_32 (by decide) (fun c32_3 => ?_) (fun c32_3 => ?_)
        · skip
          refine lv_aload_n hx hb dX11_parse_52 rfl (lv_at hl 0 rfl) ?_
          refine va_get (ci := 10) (v := .int (m_wa s1)) hx hb hts h_X11 hown hK hP 0 rfl rfl 15 (by decide) f198 (fun _ h9 => h9) rfl dX11_parse_53 ?_
          refine lv_if_ge (tgt := 78) hx hb dX11_parse_56 (by decide) (fun c56_4 => ?_) (fun c56_4 => ?_)
          · skip
            exact absurd c56_4 c23_1
          · skip
            refine lv_aload_n hx hb dX11_parse_59 rfl (lv_at hl 0 rfl) ?_
            refine va_get (ci := 10) (v := .int (nI (m_he s1))) hx hb hts h_X11 hown hK hP 0 rfl rfl 14 (by decide) f195 (fun _ h9 => h9) rfl dX11_parse_60 ?_
            refine lv_aload_n hx hb dX11_parse_63 rfl (lv_at hl 0 rfl) ?_
            refine va_get (ci := 10) (v := .int (nI (m_ty s1))) hx hb hts h_X11 hown hK hP 0 rfl rfl 13 (by decide) f192 (fun _ h9 => h9) rfl dX11_parse_64 ?_
            refine zN_icmp_ge (tgt := 78) hx hb (by omega) (by omega) dX11_parse_67 (by decide) (fun c67_5 => ?_) (fun c67_5 => ?_)
            · skip
              have e9 : F_prs v = s1 := (by unfold F_prs; rw [← htot, pLoop_e (fun q => absurd q.2 c32_3)]; exact if_neg (fun q => by have := q.2; omega))
              exact zVret () hx hb hr hlocks hK (by show va_P D vwCl (MW ct o (F_prs v) R) H; rw [e9]; exact hP) (by show va_D A (MW ct o (F_prs v) R); rw [e9]; exact hD) hS dX11_parse_78 trivial
            · skip
              refine lv_aload_n hx hb dX11_parse_70 rfl (lv_at hl 0 rfl) ?_
              refine lv_aload_n hx hb dX11_parse_71 rfl (lv_at hl 0 rfl) ?_
              refine va_get (ci := 10) (v := .int (nI (m_he s1))) hx hb hts h_X11 hown hK hP 0 rfl rfl 14 (by decide) f195 (fun _ h9 => h9) rfl dX11_parse_72 ?_
              refine va_put (ci := 10) (v := .int (nI (m_he s1))) (ty := .int) hx hb hts h_X11 tyX11 tyX11_ok nmX11 hown hK hP hD hS 0 rfl rfl 15 (by decide) f198 (fun _ h9 => h9) rfl (by decide +kernel) rfl rfl (Nat.le_of_ble_eq_true rfl) dX11_parse_75 (fun H locs hP hD hS => ?_)
              have hP : va_P D vwCl (MW ct o (m_g s1, m_fl s1, m_ch s1, m_sv s1, m_why s1, m_det s1, m_li s1, m_ld s1, m_wt s1, m_wm s1, m_ln s1, m_lz s1, m_in s1, m_ty s1, m_he s1, nI (m_he s1), m_fa s1, m_cm s1, m_cz s1) R) H := hP
              have hD : va_D A (MW ct o (m_g s1, m_fl s1, m_ch s1, m_sv s1, m_why s1, m_det s1, m_li s1, m_ld s1, m_wt s1, m_wm s1, m_ln s1, m_lz s1, m_in s1, m_ty s1, m_he s1, nI (m_he s1), m_fa s1, m_cm s1, m_cz s1) R) := hD
              have e9 : F_prs v = (m_g s1, m_fl s1, m_ch s1, m_sv s1, m_why s1, m_det s1, m_li s1, m_ld s1, m_wt s1, m_wm s1, m_ln s1, m_lz s1, m_in s1, m_ty s1, m_he s1, nI (m_he s1), m_fa s1, m_cm s1, m_cz s1) := (by unfold F_prs; rw [← htot, pLoop_e (fun q => absurd q.2 c32_3)]; exact if_pos ⟨i_lt0 c23_1, by omega⟩)
              exact zVret () hx hb hr hlocks hK (by show va_P D vwCl (MW ct o (F_prs v) R) H; rw [e9]; exact hP) (by show va_D A (MW ct o (F_prs v) R); rw [e9]; exact hD) hS dX11_parse_78 trivial
        · skip
          have hlt := sg_ne c32_3 (by decide)
          have hw : m_wa s1 < 0 := i_lt0 c23_1
          have hok2 : okP (mHW s1 (m_he s1 + 1) (m_wa s1)) := ⟨hlt, hs0.2⟩
          have hc1 := hcc hw
          refine lv_aload_n hx hb dX11_parse_35 rfl (lv_at hl 0 rfl) ?_
          refine lv_dup hx hb dX11_parse_36 rfl ?_
          refine va_get (ci := 10) (v := .int (nI (m_he s1))) hx hb hts h_X11 hown hK hP 0 rfl rfl 14 (by decide) f195 (fun _ h9 => h9) rfl dX11_parse_37 ?_
          refine lv_iconst (v := nI (1)) hx hb dX11_parse_40 (by decide) ?_
          refine zNadd hx hb dX11_parse_41 ?_
          refine va_put (ci := 10) (v := .int (nI ((m_he s1 + 1)))) (ty := .int) hx hb hts h_X11 tyX11 tyX11_ok nmX11 hown hK hP hD hS 0 rfl rfl 14 (by decide) f195 (fun _ h9 => h9) rfl (by decide +kernel) rfl rfl (Nat.le_of_ble_eq_true rfl) dX11_parse_42 (fun H locs hP hD hS => ?_)
          have hP : va_P D vwCl (MW ct o (m_g s1, m_fl s1, m_ch s1, m_sv s1, m_why s1, m_det s1, m_li s1, m_ld s1, m_wt s1, m_wm s1, m_ln s1, m_lz s1, m_in s1, m_ty s1, (m_he s1 + 1), m_wa s1, m_fa s1, m_cm s1, m_cz s1) R) H := hP
          have hD : va_D A (MW ct o (m_g s1, m_fl s1, m_ch s1, m_sv s1, m_why s1, m_det s1, m_li s1, m_ld s1, m_wt s1, m_wm s1, m_ln s1, m_lz s1, m_in s1, m_ty s1, (m_he s1 + 1), m_wa s1, m_fa s1, m_cm s1, m_cz s1) R) := hD
          have hP : va_P D vwCl (MW ct o (mHW s1 (m_he s1 + 1) (m_wa s1)) R) H := hP
          have hD : va_D A (MW ct o (mHW s1 (m_he s1 + 1) (m_wa s1)) R) := hD
          refine lv_aload_n hx hb dX11_parse_45 rfl (lv_at hl 0 rfl) ?_
          refine zVV [] [] (kX11_command (o) ((mHW s1 (m_he s1 + 1) (m_wa s1))) (R) (show okP (mHW s1 (m_he s1 + 1) (m_wa s1)) from hok2) (show (m_cz (mHW s1 (m_he s1 + 1) (m_wa s1))) ≤ 60 from (by show m_cz s1 ≤ 60; omega))) hx hb hml hown hts (cwV 0 hts gX11_parse_X11_command rfl rfl rfl (by decide +kernel) ⟨(Nat.le_of_ble_eq_true rfl), (Nat.le_of_ble_eq_true rfl)⟩) hK hP hD hS hA (va_recv hK hP (ci := 10) (q0 := 0) rfl rfl) rfl hl.1 rfl (Nat.le_of_ble_eq_true rfl) dX11_parse_46 ⟨(Nat.le_of_ble_eq_true rfl), (Nat.le_of_ble_eq_true rfl)⟩ (fun _ H locs hr_46 hP hD hS => ?_)
          have hP : va_P D vwCl (MW ct o (F_cmd (mHW s1 (m_he s1 + 1) (m_wa s1))) R) H := hP
          have hD : va_D A (MW ct o (F_cmd (mHW s1 (m_he s1 + 1) (m_wa s1))) R) := hD
          refine lv_goto (tgt := 19) hx hb dX11_parse_49 (by decide) ?_
          exact ih19 (n - 1) (F_cmd (mHW s1 (m_he s1 + 1) (m_wa s1))) H locs ls (cmd_adv hok2).1 (cmd_cz hok2 (by show m_cz s1 ≤ m_he s1 + 1; omega)) ((pLoop_s (by omega) ⟨hw, c32_3⟩).trans htot) (by have q := cmd_he hok2; have q2 : m_he s1 + 1 ≤ m_he (F_cmd (mHW s1 (m_he s1 + 1) (m_wa s1))) := q; omega) (by omega) hP hD hS (lv_sub hl [0] rfl)
  exact lp19 (((61)) + 1) (61) (F_cmd (p_0 v)) H locs ls (cmd_adv (v := p_0 v) ⟨Nat.zero_le _, ht⟩).1 (cmd_cz (v := p_0 v) ⟨Nat.zero_le _, ht⟩ (Nat.zero_le _)) rfl (by omega) (Nat.lt_succ_self _) hP hD hS (lv_sub hl [0] rfl)
