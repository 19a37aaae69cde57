/-! THE CLASS: its line -/
abbrev rmJ5_isLatin1_aae02 : Room := { frames := 0, cells := 0, slots := 0, locals := 0 }
theorem in_J5_isLatin1_aae02_J4 : ∀ w ∈ u_ws RJ4 TJ4 4, w ∈ wsJ5_isLatin1_aae02 := by decide +kernel
set_option maxHeartbeats 4000000 in
set_option maxRecDepth 100000 in
theorem kJ5_isLatin1_aae02 {D : va_G} {g : XG} {ct : Nat → ClassId} {l : Launch} (lb : Nat → Nat) (lz : LST) (R : va_W)  : MX D ct g l yJ5_isLatin1_aae02 wsJ5_isLatin1_aae02 rmJ5_isLatin1_aae02 (LW ct lb lz R) [.ref (lb 0)] (QI D ct (fun r0 (_ : Unit) => r0 = nI (1)) (fun _ : Unit => LW ct lb lz R)) := by
  refine MXof (cc := cJ5_isLatin1_aae02) (maxL := 1) (ret := (some .boolean)) (by decide) rfl (Nat.le_of_ble_eq_true rfl) ?_
  intro p e s m args below meth c A H locs F hP hK hD hS hA hX ls hl
  obtain ⟨hx, hb, hr, hlocks, hml, hown, hts, hin⟩ := F
  have hl : lv_has ls 1 [(0, .ref (lb 0))] := hl
  have h_J4 := in_J5_isLatin1_aae02_J4
  have f22 := hts (.fieldLink RJ5 22 "java/lang/AbstractStringBuilder" "coder" "B") (by decide +kernel)
  refine va_gets (v := .int (nI 1)) hx hb hX.g8 hS hown (hts (.fieldLink RJ5 18 "java/lang/String" "COMPACT_STRINGS" "Z") (by decide +kernel)) (fun _ h => h) dJ5_isLatin1_aae02_0 ?_
  refine lv_if_eq (tgt := 17) hx hb dJ5_isLatin1_aae02_3 (by decide) (fun c9 => absurd c9 (by decide)) (fun c9 => ?_)
  refine lv_aload_n hx hb dJ5_isLatin1_aae02_6 rfl (lv_at hl 0 rfl) ?_
  refine va_get (ci := 0) (v := .int (nI (0))) hx hb hts h_J4 hown hK hP 0 rfl rfl 1 (by decide) f22 (fun _ h9 => h9) rfl dJ5_isLatin1_aae02_7 ?_
  refine lv_if_ne (tgt := 17) hx hb dJ5_isLatin1_aae02_10 (by decide) (fun c9 => absurd (by decide) c9) (fun c9 => ?_)
  refine lv_iconst (v := nI (1)) hx hb dJ5_isLatin1_aae02_13 (by decide) ?_
  refine lv_goto (tgt := 18) hx hb dJ5_isLatin1_aae02_14 (by decide) ?_
  exact zZret () (by decide) hx hb hr hlocks hK hP hD hS dJ5_isLatin1_aae02_18 (show nI (1) = nI (1) from rfl)
abbrev rmJ1_canEncode_fc78d : Room := { frames := 0, cells := 0, slots := 0, locals := 0 }
set_option maxHeartbeats 4000000 in
set_option maxRecDepth 100000 in
theorem kJ1_canEncode_fc78d {D : va_G} {g : XG} {ct : Nat → ClassId} {l : Launch}  (R : va_W) (ch : Nat) (hc : ch < 256) : MX D ct g l yJ1_canEncode_fc78d wsJ1_canEncode_fc78d rmJ1_canEncode_fc78d (R) [.int (nI (ch))] (QI D ct (fun r0 (_ : Unit) => r0 = nI (1)) (fun _ : Unit => R)) := by
  refine MXof (cc := cJ1_canEncode_fc78d) (maxL := 1) (ret := (some .boolean)) (by decide) rfl (Nat.le_of_ble_eq_true rfl) ?_
  intro p e s m args below meth c A H locs F hP hK hD hS hA hX ls hl
  obtain ⟨hx, hb, hr, hlocks, hml, hown, hts, hin⟩ := F
  have hl : lv_has ls 1 [(0, .int (nI (ch)))] := hl
  refine lv_iload_n hx hb dJ1_canEncode_fc78d_0 rfl (lv_at hl 0 rfl) ?_
  refine lv_sipush (v := nI (255)) hx hb dJ1_canEncode_fc78d_1 (by decide) ?_
  refine zN_icmp_gt (tgt := 11) hx hb (by omega) (by omega) dJ1_canEncode_fc78d_4 (by decide) (fun c4_1 => ?_) (fun c4_1 => ?_)
  · skip
    exact absurd c4_1 (by omega)
  · skip
    refine lv_iconst (v := nI (1)) hx hb dJ1_canEncode_fc78d_7 (by decide) ?_
    refine lv_goto (tgt := 12) hx hb dJ1_canEncode_fc78d_8 (by decide) ?_
    exact zZret () (by decide) hx hb hr hlocks hK hP hD hS dJ1_canEncode_fc78d_12 (show nI (1) = nI (1) from rfl)
abbrev rmJ8_newLength_cabcc : Room := { frames := 1, cells := 0, slots := 0, locals := 30 }
set_option maxHeartbeats 4000000 in
set_option maxRecDepth 100000 in
theorem kJ8_newLength_cabcc {D : va_G} {g : XG} {ct : Nat → ClassId} {l : Launch}  (R : va_W) (a9 : Nat) (b9 : Nat) (c9 : Nat) (hbc : b9 ≤ c9) (hac : a9 + c9 < 65536) (h0 : 0 < a9 + c9) : MX D ct g l yJ8_newLength_cabcc wsJ8_newLength_cabcc rmJ8_newLength_cabcc (R) [.int (nI (a9)), .int (nI (b9)), .int (nI (c9))] (QI D ct (fun r0 (_ : Unit) => r0 = nI (a9 + c9)) (fun _ : Unit => R)) := by
  refine MXof (cc := cJ8_newLength_cabcc) (maxL := 4) (ret := (some .int)) (by decide) rfl (Nat.le_of_ble_eq_true rfl) ?_
  intro p e s m args below meth c A H locs F hP hK hD hS hA hX ls hl
  obtain ⟨hx, hb, hr, hlocks, hml, hown, hts, hin⟩ := F
  have hl : lv_has ls 4 [(0, .int (nI (a9))), (1, .int (nI (b9))), (2, .int (nI (c9)))] := hl
  refine lv_iload_n hx hb dJ8_newLength_cabcc_0 rfl (lv_at hl 0 rfl) ?_
  refine lv_iload_n hx hb dJ8_newLength_cabcc_1 rfl (lv_at hl 1 rfl) ?_
  refine lv_iload_n hx hb dJ8_newLength_cabcc_2 rfl (lv_at hl 2 rfl) ?_
  refine va_mmax hx hb (hml.trans hl.1.symm) hown (hts (.methodLink RJ8 194 Lib.Math.max.name) (by decide +kernel)) (hts (.static Lib.Math.max.name) (by decide +kernel)) (hts (.initialized "java/lang/Math") (by decide +kernel)) (hts (.code Lib.Math.max.name Lib.Math.max.code 2 (some .int)) (by decide +kernel)) (Nat.le_of_ble_eq_true rfl) (Nat.le_of_ble_eq_true rfl) (Nat.le_of_ble_eq_true rfl) (Nat.le_of_ble_eq_true rfl) dJ8_newLength_cabcc_3 ?_
  refine zTop (y := nI (c9)) (by rw [nI_max (by omega) (by omega)]; congr 1; split <;> omega) ?_
  refine zNadd hx hb dJ8_newLength_cabcc_6 ?_
  refine lv_istore_n (lv' := [(3, .int (nI ((a9 + c9)))), (0, .int (nI (a9))), (1, .int (nI (b9))), (2, .int (nI (c9)))]) hx hb dJ8_newLength_cabcc_7 rfl hl (by decide) rfl (fun ls hl => ?_)
  refine lv_iconst (v := nI (0)) hx hb dJ8_newLength_cabcc_8 (by decide) ?_
  refine lv_iload_n hx hb dJ8_newLength_cabcc_9 rfl (lv_at hl 0 rfl) ?_
  refine zN_icmp_ge (tgt := 21) hx hb (by omega) (by omega) dJ8_newLength_cabcc_10 (by decide) (fun c10_1 => ?_) (fun c10_1 => ?_)
  · skip
    exact absurd c10_1 (by omega)
  · skip
    refine lv_iload_n hx hb dJ8_newLength_cabcc_13 rfl (lv_at hl 0 rfl) ?_
    refine lv_ldc (v := nI (2147483639)) hx hb hown (hts (.constant RJ8 200 (2147483639)) (by decide +kernel)) dJ8_newLength_cabcc_14 ?_
    refine zN_icmp_gt (tgt := 21) hx hb (by omega) (by omega) dJ8_newLength_cabcc_16 (by decide) (fun c16_2 => ?_) (fun c16_2 => ?_)
    · skip
      exact absurd c16_2 (by omega)
    · skip
      refine lv_iload_n hx hb dJ8_newLength_cabcc_19 rfl (lv_at hl 0 rfl) ?_
      exact zIret () hx hb hr hlocks hK hP hD hS dJ8_newLength_cabcc_20 (show nI ((a9 + c9)) = nI (a9 + c9) from rfl)
abbrev rmJ5_newCapacity_0f7a4 : Room := { frames := 2, cells := 0, slots := 0, locals := 53 }
theorem in_J5_newCapacity_0f7a4_J4 : ∀ w ∈ u_ws RJ4 TJ4 4, w ∈ wsJ5_newCapacity_0f7a4 := by decide +kernel
set_option maxHeartbeats 4000000 in
set_option maxRecDepth 100000 in
theorem kJ5_newCapacity_0f7a4 {D : va_G} {g : XG} {ct : Nat → ClassId} {l : Launch} (lb : Nat → Nat) (lz : LST) (R : va_W) (mn : Nat) (hq : okc (l_m lz)) (hm : l_m lz < mn) (hm2 : mn ≤ 2 * l_m lz + 2) : MX D ct g l yJ5_newCapacity_0f7a4 wsJ5_newCapacity_0f7a4 rmJ5_newCapacity_0f7a4 (LW ct lb lz R) [.ref (lb 0), .int (nI (mn))] (QI D ct (fun r0 (_ : Unit) => r0 = nI (2 * l_m lz + 2)) (fun _ : Unit => LW ct lb lz R)) := by
  refine MXof (cc := cJ5_newCapacity_0f7a4) (maxL := 6) (ret := (some .int)) (by decide) rfl (Nat.le_of_ble_eq_true rfl) ?_
  intro p e s m args below meth c A H locs F hP hK hD hS hA hX ls hl
  obtain ⟨hx, hb, hr, hlocks, hml, hown, hts, hin⟩ := F
  have hl : lv_has ls 6 [(0, .ref (lb 0)), (1, .int (nI (mn)))] := hl
  have h70 := hq.le
  have h_J4 := in_J5_newCapacity_0f7a4_J4
  have f15 := hts (.fieldLink RJ5 15 "java/lang/AbstractStringBuilder" "value" "[B") (by decide +kernel)
  have f22 := hts (.fieldLink RJ5 22 "java/lang/AbstractStringBuilder" "coder" "B") (by decide +kernel)
  refine lv_aload_n hx hb dJ5_newCapacity_0f7a4_0 rfl (lv_at hl 0 rfl) ?_
  refine va_get (ci := 0) (v := .ref (l_q lz)) hx hb hts h_J4 hown hK hP 0 rfl rfl 0 (by decide) f15 (fun _ h9 => h9) rfl dJ5_newCapacity_0f7a4_1 ?_
  refine va_alen (x := (l_m lz, _)) (v := nI (l_m lz)) hx hb hK hP 1 4 rfl rfl rfl dJ5_newCapacity_0f7a4_4 ?_
  refine lv_istore_n (lv' := [(2, .int (nI (l_m lz))), (0, .ref (lb 0)), (1, .int (nI (mn)))]) hx hb dJ5_newCapacity_0f7a4_5 rfl hl (by decide) rfl (fun ls hl => ?_)
  refine lv_iload_n hx hb dJ5_newCapacity_0f7a4_6 rfl (lv_at hl 2 rfl) ?_
  refine lv_aload_n hx hb dJ5_newCapacity_0f7a4_7 rfl (lv_at hl 1 rfl) ?_
  refine va_get (ci := 0) (v := .int (nI (0))) hx hb hts h_J4 hown hK hP 0 rfl rfl 1 (by decide) f22 (fun _ h9 => h9) rfl dJ5_newCapacity_0f7a4_8 ?_
  refine lv_ishl hx hb dJ5_newCapacity_0f7a4_11 ?_
  refine zTop (y := nI (mn)) (sb_shl0 _) ?_
  refine lv_istore_n (lv' := [(3, .int (nI (mn))), (2, .int (nI (l_m lz))), (0, .ref (lb 0)), (1, .int (nI (mn)))]) hx hb dJ5_newCapacity_0f7a4_12 rfl hl (by decide) rfl (fun ls hl => ?_)
  refine lv_iload_n hx hb dJ5_newCapacity_0f7a4_13 rfl (lv_at hl 0 rfl) ?_
  refine lv_iload_n hx hb dJ5_newCapacity_0f7a4_14 rfl (lv_at hl 1 rfl) ?_
  refine zNsub hx hb (by omega) dJ5_newCapacity_0f7a4_15 ?_
  refine lv_istore (lv' := [(4, .int (nI ((mn - l_m lz)))), (3, .int (nI (mn))), (2, .int (nI (l_m lz))), (0, .ref (lb 0)), (1, .int (nI (mn)))]) hx hb dJ5_newCapacity_0f7a4_16 hl (by decide) rfl (fun ls hl => ?_)
  refine lv_iload_n hx hb dJ5_newCapacity_0f7a4_18 rfl (lv_at hl 2 rfl) ?_
  refine lv_iload hx hb dJ5_newCapacity_0f7a4_19 (lv_at hl 0 rfl) ?_
  refine lv_iload_n hx hb dJ5_newCapacity_0f7a4_21 rfl (lv_at hl 2 rfl) ?_
  refine lv_iconst (v := nI (2)) hx hb dJ5_newCapacity_0f7a4_22 (by decide) ?_
  refine lv_aload_n hx hb dJ5_newCapacity_0f7a4_23 rfl (lv_at hl 3 rfl) ?_
  refine va_get (ci := 0) (v := .int (nI (0))) hx hb hts h_J4 hown hK hP 0 rfl rfl 1 (by decide) f22 (fun _ h9 => h9) rfl dJ5_newCapacity_0f7a4_24 ?_
  refine lv_ishl hx hb dJ5_newCapacity_0f7a4_27 ?_
  refine zTop (y := nI (2)) (sb_shl0 _) ?_
  refine zNadd hx hb dJ5_newCapacity_0f7a4_28 ?_
  refine zSIX [.int (nI (l_m lz)), .int (nI ((mn - l_m lz))), .int (nI ((l_m lz + 2)))] [] (kJ8_newLength_cabcc (LW ct lb lz R) (l_m lz) ((mn - l_m lz)) ((l_m lz + 2)) (show ((mn - l_m lz)) ≤ ((l_m lz + 2)) from (by omega)) (show (l_m lz) + ((l_m lz + 2)) < 65536 from (by omega)) (show 0 < (l_m lz) + ((l_m lz + 2)) from (by omega))) hx hb hml hown hts (va_cwS 3 hts gJ5_newCapacity_0f7a4_J8_newLength_cabcc rfl rfl rfl (by decide +kernel) ⟨(Nat.le_of_ble_eq_true rfl), (Nat.le_of_ble_eq_true rfl)⟩) hK hP hD hS hA hX rfl hl.1 rfl (Nat.le_of_ble_eq_true rfl) dJ5_newCapacity_0f7a4_29 ⟨(Nat.le_of_ble_eq_true rfl), (Nat.le_of_ble_eq_true rfl)⟩ (fun r_29 _ H locs hr_29 hP hD hS => ?_)
  subst hr_29
  have hP : va_P D vwCl (LW ct lb lz R) H := hP
  have hD : va_D A (LW ct lb lz R) := hD
  refine zTop (y := nI (2 * l_m lz + 2)) (by congr 1; omega) ?_
  refine lv_istore (lv' := [(5, .int (nI (2 * l_m lz + 2))), (4, .int (nI ((mn - l_m lz)))), (3, .int (nI (mn))), (2, .int (nI (l_m lz))), (0, .ref (lb 0)), (1, .int (nI (mn)))]) hx hb dJ5_newCapacity_0f7a4_32 hl (by decide) rfl (fun ls hl => ?_)
  refine lv_iload hx hb dJ5_newCapacity_0f7a4_34 (lv_at hl 0 rfl) ?_
  refine lv_ldc (v := nI (2147483647)) hx hb hown (hts (.constant RJ5 39 (2147483647)) (by decide +kernel)) dJ5_newCapacity_0f7a4_36 ?_
  refine zN_icmp_ne (tgt := 51) hx hb (by omega) (by omega) dJ5_newCapacity_0f7a4_38 (by decide) (fun c38_1 => ?_) (fun c38_1 => ?_)
  · skip
    refine lv_iload hx hb dJ5_newCapacity_0f7a4_51 (lv_at hl 0 rfl) ?_
    refine lv_aload_n hx hb dJ5_newCapacity_0f7a4_53 rfl (lv_at hl 4 rfl) ?_
    refine va_get (ci := 0) (v := .int (nI (0))) hx hb hts h_J4 hown hK hP 0 rfl rfl 1 (by decide) f22 (fun _ h9 => h9) rfl dJ5_newCapacity_0f7a4_54 ?_
    refine lv_ishr hx hb dJ5_newCapacity_0f7a4_57 ?_
    refine zTop (y := nI (2 * l_m lz + 2)) (sb_shr0 _) ?_
    exact zIret () hx hb hr hlocks hK hP hD hS dJ5_newCapacity_0f7a4_58 (show nI (2 * l_m lz + 2) = nI (2 * l_m lz + 2) from rfl)
  · skip
    exact absurd c38_1 (by omega)
abbrev rmJ7_copyOf_9075b : Room := { frames := 1, cells := 1, slots := 70, locals := 40 }
set_option maxHeartbeats 4000000 in
set_option maxRecDepth 100000 in
theorem kJ7_copyOf_9075b {D : va_G} {g : XG} {ct : Nat → ClassId} {l : Launch} (lb : Nat → Nat) (lz : LST) (R : va_W) (ln : Nat) (hq : okc (l_m lz)) (hf : sb_Fit (l_f lz)) (hln : l_m lz < ln) (hln2 : ln ≤ 70) : MX D ct g l yJ7_copyOf_9075b wsJ7_copyOf_9075b rmJ7_copyOf_9075b (LW ct lb lz R) [.ref (l_q lz), .int (nI (ln))] (QR D ct (fun _ : Nat => True) (fun u : Nat => u) (fun u : Nat => (u, aB ct ln (va_cpy (l_f lz) (fun _ => 0) 0 0 (l_m lz))) :: LW ct lb lz R)) := by
  refine MXof (cc := cJ7_copyOf_9075b) (maxL := 3) (ret := (some (.array .byte))) (by decide) rfl (Nat.le_of_ble_eq_true rfl) ?_
  intro p e s m args below meth c A H locs F hP hK hD hS hA hX ls hl
  obtain ⟨hx, hb, hr, hlocks, hml, hown, hts, hin⟩ := F
  have hl : lv_has ls 3 [(0, .ref (l_q lz)), (1, .int (nI (ln)))] := hl
  have h70 := hq.le
  refine lv_iload_n hx hb dJ7_copyOf_9075b_0 rfl (lv_at hl 1 rfl) ?_
  refine lv_aload_n hx hb dJ7_copyOf_9075b_1 rfl (lv_at hl 0 rfl) ?_
  refine va_alen (x := (l_m lz, _)) (v := nI (l_m lz)) hx hb hK hP 1 4 rfl rfl rfl dJ7_copyOf_9075b_2 ?_
  refine zN_icmp_ne (tgt := 14) hx hb (by omega) (by omega) dJ7_copyOf_9075b_3 (by decide) (fun c3_1 => ?_) (fun c3_1 => ?_)
  · skip
    refine lv_iload_n hx hb dJ7_copyOf_9075b_14 rfl (lv_at hl 1 rfl) ?_
    refine zNewB (N := ln) hx hb (hts (.arrayClass .byte) (by decide +kernel)) hK hP hD hS hA (by omega) (Nat.le_of_ble_eq_true rfl) (show 0 + ln ≤ 70 from by omega) dJ7_copyOf_9075b_15 (fun q9 H hP hD hS => ?_)
    refine lv_astore_n (lv' := [(2, .ref (q9)), (0, .ref (l_q lz)), (1, .int (nI (ln)))]) hx hb dJ7_copyOf_9075b_17 rfl hl (by decide) rfl (fun ls hl => ?_)
    refine lv_aload_n hx hb dJ7_copyOf_9075b_18 rfl (lv_at hl 1 rfl) ?_
    refine lv_iconst (v := nI (0)) hx hb dJ7_copyOf_9075b_19 (by decide) ?_
    refine lv_aload_n hx hb dJ7_copyOf_9075b_20 rfl (lv_at hl 0 rfl) ?_
    refine lv_iconst (v := nI (0)) hx hb dJ7_copyOf_9075b_21 (by decide) ?_
    refine lv_aload_n hx hb dJ7_copyOf_9075b_22 rfl (lv_at hl 1 rfl) ?_
    refine va_alen (x := (l_m lz, _)) (v := nI (l_m lz)) hx hb hK hP 2 4 rfl rfl rfl dJ7_copyOf_9075b_23 ?_
    refine lv_iload_n hx hb dJ7_copyOf_9075b_24 rfl (lv_at hl 2 rfl) ?_
    refine W.widen (k := 1) (n := 70) (Nat.le_of_ble_eq_true rfl) (show 0 + ln ≤ 70 from by omega) ?_
    refine va_mmin hx hb (hml.trans hl.1.symm) hown (hts (.methodLink RJ7 304 Lib.Math.min.name) (by decide +kernel)) (hts (.static Lib.Math.min.name) (by decide +kernel)) (hts (.initialized "java/lang/Math") (by decide +kernel)) (hts (.code Lib.Math.min.name Lib.Math.min.code 2 (some .int)) (by decide +kernel)) (Nat.le_of_ble_eq_true rfl) (Nat.le_of_ble_eq_true rfl) (Nat.le_of_ble_eq_true rfl) (Nat.le_of_ble_eq_true rfl) dJ7_copyOf_9075b_25 ?_
    refine zTop (y := nI (l_m lz)) (by rw [if_neg (fun q => by rw [nI_ltI (by omega) (by omega)] at q; omega)]) ?_
    refine zCopyB (n0 := l_m lz) (n1 := ln) (n := l_m lz) (f := l_f lz) (g := fun _ => 0) hx hb (hml.trans hl.1.symm) hown (hts (.methodLink RJ7 150 arraycopyName) (by decide +kernel)) (hts (.native arraycopyName) (by decide +kernel)) (hts (.static arraycopyName) (by decide +kernel)) (hts (.initialized "java/lang/System") (by decide +kernel)) hK hP hD hS 2 0 rfl rfl (Nat.le_refl _) (by omega) (by omega) hf (Nat.le_of_ble_eq_true rfl) (Nat.le_of_ble_eq_true rfl) dJ7_copyOf_9075b_28 (fun H locs hP hD hS => ?_)
    refine lv_aload_n hx hb dJ7_copyOf_9075b_31 rfl (lv_at hl 0 rfl) ?_
    refine W.widen (k := rmJ7_copyOf_9075b.cells) (n := rmJ7_copyOf_9075b.slots) (Nat.le_of_ble_eq_true rfl) (Nat.le_of_ble_eq_true rfl) ?_
    exact zRret (ra := fun u : Nat => u) (wf := fun u : Nat => (u, aB ct ln (va_cpy (l_f lz) (fun _ => 0) 0 0 (l_m lz))) :: LW ct lb lz R) q9 (Or.inr ⟨_, rfl⟩) hx hb hr hlocks hK hP hD hS dJ7_copyOf_9075b_32 trivial rfl
  · skip
    exact absurd c3_1 (by omega)
abbrev rmJ5_ensureCapacityInternal_d00df : Room := { frames := 3, cells := 1, slots := 70, locals := 78 }
theorem in_J5_ensureCapacityInternal_d00df_J4 : ∀ w ∈ u_ws RJ4 TJ4 4, w ∈ wsJ5_ensureCapacityInternal_d00df := by decide +kernel
set_option maxHeartbeats 4000000 in
set_option maxRecDepth 100000 in
theorem kJ5_ensureCapacityInternal_d00df {D : va_G} {g : XG} {ct : Nat → ClassId} {l : Launch} (lb : Nat → Nat) (lz : LST) (R : va_W) (mn : Nat) (hq : okc (l_m lz)) (hf : sb_Fit (l_f lz)) (hmn : mn ≤ 60) (hmn2 : mn ≤ 2 * l_m lz + 2) : MX D ct g l yJ5_ensureCapacityInternal_d00df wsJ5_ensureCapacityInternal_d00df rmJ5_ensureCapacityInternal_d00df (LW ct lb lz R) [.ref (lb 0), .int (nI (mn))] (QV D ct (fun u : LST => l_n u = l_n lz ∧ l_ml u = l_ml lz ∧ okc (l_m u) ∧ mn ≤ l_m u ∧ sb_Fit (l_f u) ∧ ∀ j, j < l_m lz → l_f u j = l_f lz j) (fun u : LST => LW ct lb u R)) := by
  refine MXof (cc := cJ5_ensureCapacityInternal_d00df) (maxL := 3) (ret := none) (by decide) rfl (Nat.le_of_ble_eq_true rfl) ?_
  intro p e s m args below meth c A H locs F hP hK hD hS hA hX ls hl
  obtain ⟨hx, hb, hr, hlocks, hml, hown, hts, hin⟩ := F
  have hl : lv_has ls 3 [(0, .ref (lb 0)), (1, .int (nI (mn)))] := hl
  have h70 := hq.le
  have h_J4 := in_J5_ensureCapacityInternal_d00df_J4
  have f15 := hts (.fieldLink RJ5 15 "java/lang/AbstractStringBuilder" "value" "[B") (by decide +kernel)
  have f22 := hts (.fieldLink RJ5 22 "java/lang/AbstractStringBuilder" "coder" "B") (by decide +kernel)
  refine lv_aload_n hx hb dJ5_ensureCapacityInternal_d00df_0 rfl (lv_at hl 0 rfl) ?_
  refine va_get (ci := 0) (v := .ref (l_q lz)) hx hb hts h_J4 hown hK hP 0 rfl rfl 0 (by decide) f15 (fun _ h9 => h9) rfl dJ5_ensureCapacityInternal_d00df_1 ?_
  refine va_alen (x := (l_m lz, _)) (v := nI (l_m lz)) hx hb hK hP 1 4 rfl rfl rfl dJ5_ensureCapacityInternal_d00df_4 ?_
  refine lv_aload_n hx hb dJ5_ensureCapacityInternal_d00df_5 rfl (lv_at hl 0 rfl) ?_
  refine va_get (ci := 0) (v := .int (nI (0))) hx hb hts h_J4 hown hK hP 0 rfl rfl 1 (by decide) f22 (fun _ h9 => h9) rfl dJ5_ensureCapacityInternal_d00df_6 ?_
  refine lv_ishr hx hb dJ5_ensureCapacityInternal_d00df_9 ?_
  refine zTop (y := nI (l_m lz)) (sb_shr0 _) ?_
  refine lv_istore_n (lv' := [(2, .int (nI (l_m lz))), (0, .ref (lb 0)), (1, .int (nI (mn)))]) hx hb dJ5_ensureCapacityInternal_d00df_10 rfl hl (by decide) rfl (fun ls hl => ?_)
  refine lv_iload_n hx hb dJ5_ensureCapacityInternal_d00df_11 rfl (lv_at hl 2 rfl) ?_
  refine lv_iload_n hx hb dJ5_ensureCapacityInternal_d00df_12 rfl (lv_at hl 0 rfl) ?_
  refine lv_isub hx hb dJ5_ensureCapacityInternal_d00df_13 ?_
  refine lv_if_le (tgt := 38) hx hb dJ5_ensureCapacityInternal_d00df_14 (by decide) (fun c14_1 => ?_) (fun c14_1 => ?_)
  · skip
    have hle : mn ≤ l_m lz := (nI_sub_le (by omega) (by omega)).mp c14_1
    refine W.widen (k := rmJ5_ensureCapacityInternal_d00df.cells) (n := rmJ5_ensureCapacityInternal_d00df.slots) (Nat.le_of_ble_eq_true rfl) (Nat.le_of_ble_eq_true rfl) ?_
    exact zVret (wf := fun u : LST => LW ct lb u R) lz hx hb hr hlocks hK hP hD hS dJ5_ensureCapacityInternal_d00df_38 ⟨rfl, rfl, hq, hle, hf, fun _ _ => rfl⟩
  · skip
    have hgt : l_m lz < mn := by
      apply Nat.lt_of_not_le; exact fun q => c14_1 ((nI_sub_le (by omega) (by omega)).mpr q)
    have hgr := okc_grow hq hgt hmn
    refine lv_aload_n hx hb dJ5_ensureCapacityInternal_d00df_17 rfl (lv_at hl 1 rfl) ?_
    refine lv_aload_n hx hb dJ5_ensureCapacityInternal_d00df_18 rfl (lv_at hl 1 rfl) ?_
    refine va_get (ci := 0) (v := .ref (l_q lz)) hx hb hts h_J4 hown hK hP 0 rfl rfl 0 (by decide) f15 (fun _ h9 => h9) rfl dJ5_ensureCapacityInternal_d00df_19 ?_
    refine lv_aload_n hx hb dJ5_ensureCapacityInternal_d00df_22 rfl (lv_at hl 1 rfl) ?_
    refine lv_iload_n hx hb dJ5_ensureCapacityInternal_d00df_23 rfl (lv_at hl 2 rfl) ?_
    refine zUIX [.int (nI (mn))] [.ref (l_q lz), .ref (lb 0)] (kJ5_newCapacity_0f7a4 (lb) (lz) (R) (mn) (show okc (l_m lz) from hq) (show l_m lz < (mn) from hgt) (show (mn) ≤ 2 * l_m lz + 2 from (by omega))) hx hb hml hown hts (va_cwU 1 hts gJ5_ensureCapacityInternal_d00df_J5_newCapacity_0f7a4_u104J4 rfl rfl rfl rfl (by decide +kernel) ⟨(Nat.le_of_ble_eq_true rfl), (Nat.le_of_ble_eq_true rfl)⟩) hK hP hD hS hA hX (va_recv hK hP (ci := 0) (q0 := 0) rfl rfl) rfl hl.1 rfl (Nat.le_of_ble_eq_true rfl) dJ5_ensureCapacityInternal_d00df_24 ⟨(Nat.le_of_ble_eq_true rfl), (Nat.le_of_ble_eq_true rfl)⟩ (fun r_24 _ H locs hr_24 hP hD hS => ?_)
    subst hr_24
    have hP : va_P D vwCl (LW ct lb lz R) H := hP
    have hD : va_D A (LW ct lb lz R) := hD
    refine lv_aload_n hx hb dJ5_ensureCapacityInternal_d00df_27 rfl (lv_at hl 1 rfl) ?_
    refine va_get (ci := 0) (v := .int (nI (0))) hx hb hts h_J4 hown hK hP 0 rfl rfl 1 (by decide) f22 (fun _ h9 => h9) rfl dJ5_ensureCapacityInternal_d00df_28 ?_
    refine lv_ishl hx hb dJ5_ensureCapacityInternal_d00df_31 ?_
    refine zTop (y := nI (2 * l_m lz + 2)) (sb_shl0 _) ?_
    refine zSRX [.ref (l_q lz), .int (nI (2 * l_m lz + 2))] [.ref (lb 0)] (kJ7_copyOf_9075b (lb) (lz) (R) (2 * l_m lz + 2) (show okc (l_m lz) from hq) (show sb_Fit (l_f lz) from hf) (show l_m lz < (2 * l_m lz + 2) from (by omega)) (show (2 * l_m lz + 2) ≤ 70 from hgr.2)) hx hb hml hown hts (va_cwS 2 hts gJ5_ensureCapacityInternal_d00df_J7_copyOf_9075b rfl rfl rfl (by decide +kernel) ⟨(Nat.le_of_ble_eq_true rfl), (Nat.le_of_ble_eq_true rfl)⟩) hK hP hD hS hA hX rfl hl.1 rfl (Nat.le_of_ble_eq_true rfl) dJ5_ensureCapacityInternal_d00df_32 ⟨(Nat.le_of_ble_eq_true rfl), (Nat.le_of_ble_eq_true rfl)⟩ (fun u_32 H locs hr_32 hP hD hS => ?_)
    have hP : va_P D vwCl ((u_32, aB ct (2 * l_m lz + 2) (va_cpy (l_f lz) (fun _ => 0) 0 0 (l_m lz))) :: (LW ct lb lz R)) H := hP
    have hD : va_D A ((u_32, aB ct (2 * l_m lz + 2) (va_cpy (l_f lz) (fun _ => 0) 0 0 (l_m lz))) :: (LW ct lb lz R)) := hD
    refine va_put (ci := 0) (v := .ref u_32) (ty := (.array .byte)) hx hb hts h_J4 tyJ4 tyJ4_ok nmJ4 hown hK hP hD hS 1 rfl rfl 0 (by decide) f15 (fun _ h9 => h9) rfl (by decide +kernel) rfl rfl (Nat.le_of_ble_eq_true rfl) dJ5_ensureCapacityInternal_d00df_35 (fun H locs hP hD hS => ?_)
    have hP : va_P D vwCl (LW ct lb (u_32, 2 * l_m lz + 2, (va_cpy (l_f lz) (fun _ => 0) 0 0 (l_m lz)), l_n lz, l_ml lz) R) H := zPsub3 hP
    have hD : va_D A (LW ct lb (u_32, 2 * l_m lz + 2, (va_cpy (l_f lz) (fun _ => 0) 0 0 (l_m lz)), l_n lz, l_ml lz) R) := zDsub3 hD
    refine W.widen (k := rmJ5_ensureCapacityInternal_d00df.cells) (n := rmJ5_ensureCapacityInternal_d00df.slots) (Nat.le_of_ble_eq_true rfl) (Nat.le_of_ble_eq_true rfl) ?_
    exact zVret (wf := fun u : LST => LW ct lb u R) (u_32, 2 * l_m lz + 2, (va_cpy (l_f lz) (fun _ => 0) 0 0 (l_m lz)), l_n lz, l_ml lz) hx hb hr hlocks hK hP hD hS dJ5_ensureCapacityInternal_d00df_38 ⟨rfl, rfl, hgr.1, (by show mn ≤ 2 * l_m lz + 2; omega), sb_fitC hf sb_fit0, fun j hj => sb_cpy0 (f := l_f lz) (g := fun _ => 0) hj⟩
abbrev rmJ5_append_3fe6f : Room := { frames := 4, cells := 1, slots := 70, locals := 100 }
theorem in_J5_append_3fe6f_J4 : ∀ w ∈ u_ws RJ4 TJ4 4, w ∈ wsJ5_append_3fe6f := by decide +kernel
set_option maxHeartbeats 4000000 in
set_option maxRecDepth 100000 in
theorem kJ5_append_3fe6f {D : va_G} {g : XG} {ct : Nat → ClassId} {l : Launch} (lb : Nat → Nat) (lz : LST) (R : va_W) (ch : Nat) (tx : List Nat) (hL : LR tx lz) (h60 : tx.length + 1 ≤ 60) (hc : ch < 256) : MX D ct g l yJ5_append_3fe6f wsJ5_append_3fe6f rmJ5_append_3fe6f (LW ct lb lz R) [.ref (lb 0), .int (nI (ch))] (QR D ct (fun u : LST => LR (tx ++ [ch]) u) (fun _ : LST => lb 0) (fun u : LST => LW ct lb u R)) := by
  refine MXof (cc := cJ5_append_3fe6f) (maxL := 2) (ret := (some (.object "java/lang/AbstractStringBuilder"))) (by decide) rfl (Nat.le_of_ble_eq_true rfl) ?_
  intro p e s m args below meth c A H locs F hP hK hD hS hA hX ls hl
  obtain ⟨hx, hb, hr, hlocks, hml, hown, hts, hin⟩ := F
  have hl : lv_has ls 2 [(0, .ref (lb 0)), (1, .int (nI (ch)))] := hl
  obtain ⟨hl1, hl2, hl3, hl4, hl5⟩ := hL
  have h70 := hl2.le
  have h_J4 := in_J5_append_3fe6f_J4
  have f15 := hts (.fieldLink RJ5 15 "java/lang/AbstractStringBuilder" "value" "[B") (by decide +kernel)
  have f79 := hts (.fieldLink RJ5 79 "java/lang/AbstractStringBuilder" "count" "I") (by decide +kernel)
  refine lv_aload_n hx hb dJ5_append_3fe6f_0 rfl (lv_at hl 0 rfl) ?_
  refine lv_aload_n hx hb dJ5_append_3fe6f_1 rfl (lv_at hl 0 rfl) ?_
  refine va_get (ci := 0) (v := .int (nI (l_n lz))) hx hb hts h_J4 hown hK hP 0 rfl rfl 3 (by decide) f79 (fun _ h9 => h9) rfl dJ5_append_3fe6f_2 ?_
  refine lv_iconst (v := nI (1)) hx hb dJ5_append_3fe6f_5 (by decide) ?_
  refine zNadd hx hb dJ5_append_3fe6f_6 ?_
  refine zUVX [.int (nI ((l_n lz + 1)))] [] (kJ5_ensureCapacityInternal_d00df (lb) (lz) (R) ((l_n lz + 1)) (show okc (l_m lz) from hl2) (show sb_Fit (l_f lz) from hl4) (show ((l_n lz + 1)) ≤ 60 from (by omega)) (show ((l_n lz + 1)) ≤ 2 * l_m lz + 2 from (by omega))) hx hb hml hown hts (va_cwU 1 hts gJ5_append_3fe6f_J5_ensureCapacityInternal_d00df_u100J4 rfl rfl rfl rfl (by decide +kernel) ⟨(Nat.le_of_ble_eq_true rfl), (Nat.le_of_ble_eq_true rfl)⟩) hK hP hD hS hA hX (va_recv hK hP (ci := 0) (q0 := 0) rfl rfl) rfl hl.1 rfl (Nat.le_of_ble_eq_true rfl) dJ5_append_3fe6f_7 ⟨(Nat.le_of_ble_eq_true rfl), (Nat.le_of_ble_eq_true rfl)⟩ (fun u_7 H locs hr_7 hP hD hS => ?_)
  obtain ⟨en1_7, en2_7, en3_7, en4_7, en5_7, en6_7⟩ := hr_7
  have hP : va_P D vwCl (LW ct lb u_7 R) H := hP
  have hD : va_D A (LW ct lb u_7 R) := hD
  have hm70 := en3_7.le
  refine lv_aload_n hx hb dJ5_append_3fe6f_10 rfl (lv_at hl 0 rfl) ?_
  refine zUIX [] [] (kJ5_isLatin1_aae02 (lb) (u_7) (R)) hx hb hml hown hts (va_cwU 0 hts gJ5_append_3fe6f_J5_isLatin1_aae02_u83J4 rfl rfl rfl rfl (by decide +kernel) ⟨(Nat.le_of_ble_eq_true rfl), (Nat.le_of_ble_eq_true rfl)⟩) hK hP hD hS hA hX (va_recv hK hP (ci := 0) (q0 := 0) rfl rfl) rfl hl.1 rfl (Nat.le_of_ble_eq_true rfl) dJ5_append_3fe6f_11 ⟨(Nat.le_of_ble_eq_true rfl), (Nat.le_of_ble_eq_true rfl)⟩ (fun r_11 _ H locs hr_11 hP hD hS => ?_)
  subst hr_11
  have hP : va_P D vwCl (LW ct lb u_7 R) H := hP
  have hD : va_D A (LW ct lb u_7 R) := hD
  refine lv_if_eq (tgt := 45) hx hb dJ5_append_3fe6f_14 (by decide) (fun c9 => absurd c9 (by decide)) (fun c9 => ?_)
  refine lv_iload_n hx hb dJ5_append_3fe6f_17 rfl (lv_at hl 1 rfl) ?_
  refine zSIX [.int (nI (ch))] [] (kJ1_canEncode_fc78d (LW ct lb u_7 R) (ch) (show (ch) < 256 from hc)) hx hb hml hown hts (va_cwS 1 hts gJ5_append_3fe6f_J1_canEncode_fc78d rfl rfl rfl (by decide +kernel) ⟨(Nat.le_of_ble_eq_true rfl), (Nat.le_of_ble_eq_true rfl)⟩) hK hP hD hS hA hX rfl hl.1 rfl (Nat.le_of_ble_eq_true rfl) dJ5_append_3fe6f_18 ⟨(Nat.le_of_ble_eq_true rfl), (Nat.le_of_ble_eq_true rfl)⟩ (fun r_18 _ H locs hr_18 hP hD hS => ?_)
  subst hr_18
  have hP : va_P D vwCl (LW ct lb u_7 R) H := hP
  have hD : va_D A (LW ct lb u_7 R) := hD
  refine lv_if_eq (tgt := 45) hx hb dJ5_append_3fe6f_21 (by decide) (fun c9 => absurd c9 (by decide)) (fun c9 => ?_)
  refine lv_aload_n hx hb dJ5_append_3fe6f_24 rfl (lv_at hl 0 rfl) ?_
  refine va_get (ci := 0) (v := .ref (l_q u_7)) hx hb hts h_J4 hown hK hP 0 rfl rfl 0 (by decide) f15 (fun _ h9 => h9) rfl dJ5_append_3fe6f_25 ?_
  refine lv_aload_n hx hb dJ5_append_3fe6f_28 rfl (lv_at hl 0 rfl) ?_
  refine lv_dup hx hb dJ5_append_3fe6f_29 rfl ?_
  refine va_get (ci := 0) (v := .int (nI (l_n u_7))) hx hb hts h_J4 hown hK hP 0 rfl rfl 3 (by decide) f79 (fun _ h9 => h9) rfl dJ5_append_3fe6f_30 ?_
  refine lv_dup_x1 hx hb dJ5_append_3fe6f_33 rfl rfl ?_
  refine lv_iconst (v := nI (1)) hx hb dJ5_append_3fe6f_34 (by decide) ?_
  refine zNadd hx hb dJ5_append_3fe6f_35 ?_
  refine va_put (ci := 0) (v := .int (nI ((l_n u_7 + 1)))) (ty := .int) hx hb hts h_J4 tyJ4 tyJ4_ok nmJ4 hown hK hP hD hS 0 rfl rfl 3 (by decide) f79 (fun _ h9 => h9) rfl (by decide +kernel) rfl rfl (Nat.le_of_ble_eq_true rfl) dJ5_append_3fe6f_36 (fun H locs hP hD hS => ?_)
  have hP : va_P D vwCl (LW ct lb (l_q u_7, l_m u_7, l_f u_7, (l_n u_7 + 1), l_ml u_7) R) H := hP
  have hD : va_D A (LW ct lb (l_q u_7, l_m u_7, l_f u_7, (l_n u_7 + 1), l_ml u_7) R) := hD
  refine lv_iload_n hx hb dJ5_append_3fe6f_39 rfl (lv_at hl 1 rfl) ?_
  refine lv_i2b (v := (sb_b ch)) hx hb dJ5_append_3fe6f_40 rfl ?_
  refine zBast (n := l_m u_7) (f := l_f u_7) (i := l_n u_7) hx hb hK hP hD hS 1 rfl (by show l_n u_7 < l_m u_7; omega) (by omega) dJ5_append_3fe6f_41 (fun H locs hP hD hS => ?_)
  have hP : va_P D vwCl (LW ct lb (l_q u_7, l_m u_7, (upd (l_f u_7) (l_n u_7) (vp_nar .byte (sb_b ch))), (l_n u_7 + 1), l_ml u_7) R) H := hP
  have hD : va_D A (LW ct lb (l_q u_7, l_m u_7, (upd (l_f u_7) (l_n u_7) (vp_nar .byte (sb_b ch))), (l_n u_7 + 1), l_ml u_7) R) := hD
  refine lv_goto (tgt := 75) hx hb dJ5_append_3fe6f_42 (by decide) ?_
  refine lv_aload_n hx hb dJ5_append_3fe6f_75 rfl (lv_at hl 0 rfl) ?_
  refine W.widen (k := rmJ5_append_3fe6f.cells) (n := rmJ5_append_3fe6f.slots) (Nat.le_of_ble_eq_true rfl) (Nat.le_of_ble_eq_true rfl) ?_
  exact zRret (ra := fun _ : LST => lb 0) (wf := fun u : LST => LW ct lb u R) (l_q u_7, l_m u_7, (upd (l_f u_7) (l_n u_7) (vp_nar .byte (sb_b ch))), (l_n u_7 + 1), l_ml u_7) (Or.inl ⟨_, rfl⟩) hx hb hr hlocks hK hP hD hS dJ5_append_3fe6f_76 (LR_put (z := lz) ⟨hl1, hl2, hl3, hl4, hl5⟩ hc en3_7 (by show tx.length + 1 ≤ l_m u_7; omega) (by show l_n u_7 + 1 = tx.length + 1; omega) (sb_fitU en5_7 (by rw [nar_b]; exact sb_fitB ch)) (fun j hj => (pk_un (by show j ≠ l_n u_7; omega)).trans (en6_7 j (by omega))) (by show upd (l_f u_7) (l_n u_7) (vp_nar .byte (sb_b ch)) tx.length = sb_b ch; rw [show l_n u_7 = tx.length by omega, pk_us, nar_b])) rfl
abbrev rmJ4_append_cf468 : Room := { frames := 5, cells := 1, slots := 70, locals := 121 }
set_option maxHeartbeats 4000000 in
set_option maxRecDepth 100000 in
theorem kJ4_append_cf468 {D : va_G} {g : XG} {ct : Nat → ClassId} {l : Launch} (lb : Nat → Nat) (lz : LST) (R : va_W) (ch : Nat) (tx : List Nat) (hL : LR tx lz) (h60 : tx.length + 1 ≤ 60) (hc : ch < 256) : MX D ct g l yJ4_append_cf468 wsJ4_append_cf468 rmJ4_append_cf468 (LW ct lb lz R) [.ref (lb 0), .int (nI (ch))] (QR D ct (fun u : LST => LR (tx ++ [ch]) u) (fun _ : LST => lb 0) (fun u : LST => LW ct lb u R)) := by
  refine MXof (cc := cJ4_append_cf468) (maxL := 2) (ret := (some (.object "java/lang/StringBuilder"))) (by decide) rfl (Nat.le_of_ble_eq_true rfl) ?_
  intro p e s m args below meth c A H locs F hP hK hD hS hA hX ls hl
  obtain ⟨hx, hb, hr, hlocks, hml, hown, hts, hin⟩ := F
  have hl : lv_has ls 2 [(0, .ref (lb 0)), (1, .int (nI (ch)))] := hl
  refine lv_aload_n hx hb dJ4_append_cf468_0 rfl (lv_at hl 0 rfl) ?_
  refine lv_iload_n hx hb dJ4_append_cf468_1 rfl (lv_at hl 1 rfl) ?_
  refine zTRX [.int (nI (ch))] [] (kJ5_append_3fe6f (lb) (lz) (R) (ch) (tx) (show LR (tx) lz from hL) (show (tx).length + 1 ≤ 60 from by omega) (show (ch) < 256 from hc)) hx hb hml hown hts (hK.1 0 _ rfl).2 (va_cwSU 1 hts gJ4_append_cf468_J5_append_3fe6f_s50 rfl rfl rfl (by decide +kernel) ⟨(Nat.le_of_ble_eq_true rfl), (Nat.le_of_ble_eq_true rfl)⟩) hK hP hD hS hA hX (va_recv hK hP (ci := 0) (q0 := 0) rfl rfl) rfl hl.1 rfl (Nat.le_of_ble_eq_true rfl) dJ4_append_cf468_2 ⟨(Nat.le_of_ble_eq_true rfl), (Nat.le_of_ble_eq_true rfl)⟩ (fun u_2 H locs hr_2 hP hD hS => ?_)
  have hP : va_P D vwCl (LW ct lb u_2 R) H := hP
  have hD : va_D A (LW ct lb u_2 R) := hD
  refine lv_pop hx hb dJ4_append_cf468_5 rfl ?_
  refine lv_aload_n hx hb dJ4_append_cf468_6 rfl (lv_at hl 0 rfl) ?_
  refine W.widen (k := rmJ4_append_cf468.cells) (n := rmJ4_append_cf468.slots) (Nat.le_of_ble_eq_true rfl) (Nat.le_of_ble_eq_true rfl) ?_
  exact zRret (ra := fun _ : LST => lb 0) (wf := fun u : LST => LW ct lb u R) u_2 (Or.inl ⟨_, rfl⟩) hx hb hr hlocks hK hP hD hS dJ4_append_cf468_7 hr_2 rfl
abbrev rmJ6_stringSize_0f7a4 : Room := { frames := 0, cells := 0, slots := 0, locals := 0 }
set_option maxHeartbeats 4000000 in
set_option maxRecDepth 100000 in
theorem kJ6_stringSize_0f7a4 {D : va_G} {g : XG} {ct : Nat → ClassId} {l : Launch}  (R : va_W) (k9 : Nat) (hk : k9 ≤ 99) : MX D ct g l yJ6_stringSize_0f7a4 wsJ6_stringSize_0f7a4 rmJ6_stringSize_0f7a4 (R) [.int (nI (k9))] (QI D ct (fun r0 (_ : Unit) => r0 = nI (if k9 ≤ 9 then 1 else 2)) (fun _ : Unit => R)) := by
  refine MXof (cc := cJ6_stringSize_0f7a4) (maxL := 4) (ret := (some .int)) (by decide) rfl (Nat.le_of_ble_eq_true rfl) ?_
  intro p e s m args below meth c A H locs F hP hK hD hS hA hX ls hl
  obtain ⟨hx, hb, hr, hlocks, hml, hown, hts, hin⟩ := F
  have hl : lv_has ls 4 [(0, .int (nI (k9)))] := hl
  refine lv_iconst (v := nI (1)) hx hb dJ6_stringSize_0f7a4_0 (by decide) ?_
  refine lv_istore_n (lv' := [(1, .int (nI (1))), (0, .int (nI (k9)))]) hx hb dJ6_stringSize_0f7a4_1 rfl hl (by decide) rfl (fun ls hl => ?_)
  refine lv_iload_n hx hb dJ6_stringSize_0f7a4_2 rfl (lv_at hl 1 rfl) ?_
  refine zN_if_lt (tgt := 11) hx hb (by omega) dJ6_stringSize_0f7a4_3 (by decide) ?_
  refine lv_iconst (v := nI (0)) hx hb dJ6_stringSize_0f7a4_6 (by decide) ?_
  refine lv_istore_n (lv' := [(1, .int (nI (0))), (0, .int (nI (k9)))]) hx hb dJ6_stringSize_0f7a4_7 rfl hl (by decide) rfl (fun ls hl => ?_)
  refine lv_iload_n hx hb dJ6_stringSize_0f7a4_8 rfl (lv_at hl 1 rfl) ?_
  refine lv_ineg hx hb dJ6_stringSize_0f7a4_9 ?_
  refine lv_istore_n (lv' := [(0, .int ((-nI (k9)))), (1, .int (nI (0)))]) hx hb dJ6_stringSize_0f7a4_10 rfl hl (by decide) rfl (fun ls hl => ?_)
  refine lv_bipush (v := (-10)) hx hb dJ6_stringSize_0f7a4_11 (by decide) ?_
  refine lv_istore_n (lv' := [(2, .int ((-10))), (0, .int ((-nI (k9)))), (1, .int (nI (0)))]) hx hb dJ6_stringSize_0f7a4_13 rfl hl (by decide) rfl (fun ls hl => ?_)
  refine lv_iconst (v := nI (1)) hx hb dJ6_stringSize_0f7a4_14 (by decide) ?_
  refine lv_istore_n (lv' := [(3, .int (nI (1))), (2, .int ((-10))), (0, .int ((-nI (k9)))), (1, .int (nI (0)))]) hx hb dJ6_stringSize_0f7a4_15 rfl hl (by decide) rfl (fun ls hl => ?_)
  refine lv_iload_n hx hb dJ6_stringSize_0f7a4_16 rfl (lv_at hl 0 rfl) ?_
  refine lv_bipush (v := nI (10)) hx hb dJ6_stringSize_0f7a4_17 (by decide) ?_
  refine lv_icmp_ge (tgt := 42) hx hb dJ6_stringSize_0f7a4_19 (by decide) (fun c9 => absurd c9 (by decide)) (fun c9 => ?_)
  refine lv_iload_n hx hb dJ6_stringSize_0f7a4_22 rfl (lv_at hl 2 rfl) ?_
  refine lv_iload_n hx hb dJ6_stringSize_0f7a4_23 rfl (lv_at hl 1 rfl) ?_
  refine lv_icmp_le (tgt := 31) hx hb dJ6_stringSize_0f7a4_24 (by decide) (fun c24_3 => ?_) (fun c24_3 => ?_)
  · skip
    have hk10 : 10 ≤ k9 := (neg_le (a := k9) (b := 10) (by omega) (by decide)).mp (by rw [← m10]; exact c24_3)
    refine lv_bipush (v := nI (10)) hx hb dJ6_stringSize_0f7a4_31 (by decide) ?_
    refine lv_iload_n hx hb dJ6_stringSize_0f7a4_33 rfl (lv_at hl 1 rfl) ?_
    refine lv_imul hx hb dJ6_stringSize_0f7a4_34 ?_
    refine lv_istore_n (lv' := [(2, .int ((nI (10) * (-10)))), (3, .int (nI (1))), (0, .int ((-nI (k9)))), (1, .int (nI (0)))]) hx hb dJ6_stringSize_0f7a4_35 rfl hl (by decide) rfl (fun ls hl => ?_)
    refine lv_iinc (v := nI (2)) (lv' := [(3, .int (nI (2))), (2, .int ((nI (10) * (-10)))), (0, .int ((-nI (k9)))), (1, .int (nI (0)))]) hx hb dJ6_stringSize_0f7a4_36 hl (k := 1) rfl (zInc _) (by decide) rfl (fun ls hl => ?_)
    refine lv_goto (tgt := 16) hx hb dJ6_stringSize_0f7a4_39 (by decide) ?_
    refine lv_iload_n hx hb dJ6_stringSize_0f7a4_16 rfl (lv_at hl 0 rfl) ?_
    refine lv_bipush (v := nI (10)) hx hb dJ6_stringSize_0f7a4_17 (by decide) ?_
    refine lv_icmp_ge (tgt := 42) hx hb dJ6_stringSize_0f7a4_19 (by decide) (fun c9 => absurd c9 (by decide)) (fun c9 => ?_)
    refine lv_iload_n hx hb dJ6_stringSize_0f7a4_22 rfl (lv_at hl 2 rfl) ?_
    refine lv_iload_n hx hb dJ6_stringSize_0f7a4_23 rfl (lv_at hl 1 rfl) ?_
    refine lv_icmp_le (tgt := 31) hx hb dJ6_stringSize_0f7a4_24 (by decide) (fun c24_5 => ?_) (fun c24_5 => ?_)
    · skip
      exact absurd ((neg_le (a := k9) (b := 100) (by omega) (by decide)).mp (by rw [← m10x]; exact c24_5)) (by omega)
    · skip
      refine lv_iload_n hx hb dJ6_stringSize_0f7a4_27 rfl (lv_at hl 0 rfl) ?_
      refine lv_iload_n hx hb dJ6_stringSize_0f7a4_28 rfl (lv_at hl 3 rfl) ?_
      refine zNadd hx hb dJ6_stringSize_0f7a4_29 ?_
      exact zIret () hx hb hr hlocks hK hP hD hS dJ6_stringSize_0f7a4_30 (show nI ((2 + 0)) = nI (if k9 ≤ 9 then 1 else 2) from (by rw [if_neg (show ¬ k9 ≤ 9 by omega)]))
  · skip
    have hk10 : k9 ≤ 9 := by
      apply Nat.le_of_not_lt; exact fun q => c24_3 (by rw [m10]; exact (neg_le (a := k9) (b := 10) (by omega) (by decide)).mpr q)
    refine lv_iload_n hx hb dJ6_stringSize_0f7a4_27 rfl (lv_at hl 0 rfl) ?_
    refine lv_iload_n hx hb dJ6_stringSize_0f7a4_28 rfl (lv_at hl 3 rfl) ?_
    refine zNadd hx hb dJ6_stringSize_0f7a4_29 ?_
    exact zIret () hx hb hr hlocks hK hP hD hS dJ6_stringSize_0f7a4_30 (show nI ((1 + 0)) = nI (if k9 ≤ 9 then 1 else 2) from (by rw [if_pos hk10]))
abbrev rmJ6_getChars_ba4f3 : Room := { frames := 0, cells := 0, slots := 0, locals := 0 }
set_option maxHeartbeats 4000000 in
set_option maxRecDepth 100000 in
theorem kJ6_getChars_ba4f3 {D : va_G} {g : XG} {ct : Nat → ClassId} {l : Launch} (lb : Nat → Nat) (lz : LST) (R : va_W) (k9 : Nat) (p9 : Nat) (hk : k9 ≤ 99) (hp : (if k9 ≤ 9 then 1 else 2) ≤ p9) (hpm : p9 ≤ l_m lz) (h70 : l_m lz ≤ 70) : MX D ct g l yJ6_getChars_ba4f3 wsJ6_getChars_ba4f3 rmJ6_getChars_ba4f3 (LW ct lb lz R) [.int (nI (k9)), .int (nI (p9)), .ref (l_q lz)] (QI D ct (fun r0 (_ : Unit) => r0 = nI (p9 - (if k9 ≤ 9 then 1 else 2))) (fun _ : Unit => LW ct lb (l_q lz, l_m lz, (gcF (l_f lz) p9 k9), l_n lz, l_ml lz) R)) := by
  refine MXof (cc := cJ6_getChars_ba4f3) (maxL := 7) (ret := (some .int)) (by decide) rfl (Nat.le_of_ble_eq_true rfl) ?_
  intro p e s m args below meth c A H locs F hP hK hD hS hA hX ls hl
  obtain ⟨hx, hb, hr, hlocks, hml, hown, hts, hin⟩ := F
  have hl : lv_has ls 7 [(0, .int (nI (k9))), (1, .int (nI (p9))), (2, .ref (l_q lz))] := hl
  have hp2 : 1 ≤ p9 ∧ (¬ k9 ≤ 9 → 2 ≤ p9) := by
    split at hp
    · exact ⟨hp, fun q => absurd (by assumption) q⟩
    · exact ⟨by omega, fun _ => hp⟩
  refine lv_iload_n hx hb dJ6_getChars_ba4f3_0 rfl (lv_at hl 1 rfl) ?_
  refine lv_istore (lv' := [(5, .int (nI (p9))), (0, .int (nI (k9))), (1, .int (nI (p9))), (2, .ref (l_q lz))]) hx hb dJ6_getChars_ba4f3_1 hl (by decide) rfl (fun ls hl => ?_)
  refine lv_iload_n hx hb dJ6_getChars_ba4f3_3 rfl (lv_at hl 1 rfl) ?_
  refine zN_if_ge (tgt := 11) hx hb (by omega) dJ6_getChars_ba4f3_4 (by decide) ?_
  refine lv_iconst (v := nI (0)) hx hb dJ6_getChars_ba4f3_11 (by decide) ?_
  refine lv_istore (lv' := [(6, .int (nI (0))), (5, .int (nI (p9))), (0, .int (nI (k9))), (1, .int (nI (p9))), (2, .ref (l_q lz))]) hx hb dJ6_getChars_ba4f3_12 hl (by decide) rfl (fun ls hl => ?_)
  refine lv_iload hx hb dJ6_getChars_ba4f3_14 (lv_at hl 0 rfl) ?_
  refine lv_if_ne (tgt := 22) hx hb dJ6_getChars_ba4f3_16 (by decide) (fun c9 => absurd (by decide) c9) (fun c9 => ?_)
  refine lv_iload_n hx hb dJ6_getChars_ba4f3_19 rfl (lv_at hl 2 rfl) ?_
  refine lv_ineg hx hb dJ6_getChars_ba4f3_20 ?_
  refine lv_istore_n (lv' := [(0, .int ((-nI (k9)))), (6, .int (nI (0))), (5, .int (nI (p9))), (1, .int (nI (p9))), (2, .ref (l_q lz))]) hx hb dJ6_getChars_ba4f3_21 rfl hl (by decide) rfl (fun ls hl => ?_)
  refine lv_iload_n hx hb dJ6_getChars_ba4f3_22 rfl (lv_at hl 0 rfl) ?_
  refine lv_bipush (v := (-100)) hx hb dJ6_getChars_ba4f3_23 (by decide) ?_
  refine lv_icmp_gt (tgt := 72) hx hb dJ6_getChars_ba4f3_25 (by decide) (fun c25_3 => ?_) (fun c25_3 => ?_)
  · skip
    refine lv_aload_n hx hb dJ6_getChars_ba4f3_72 rfl (lv_at hl 4 rfl) ?_
    refine lv_iinc (v := nI ((p9 - 1))) (lv' := [(5, .int (nI ((p9 - 1)))), (0, .int ((-nI (k9)))), (6, .int (nI (0))), (1, .int (nI (p9))), (2, .ref (l_q lz))]) hx hb dJ6_getChars_ba4f3_73 hl (k := 2) rfl (zDec (by omega)) (by decide) rfl (fun ls hl => ?_)
    refine lv_iload hx hb dJ6_getChars_ba4f3_76 (lv_at hl 0 rfl) ?_
    refine va_gets (v := .ref (xO g)) hx hb hX.g9 hS hown (hts (.fieldLink RJ6 83 "java/lang/Integer" "DigitOnes" "[B") (by decide +kernel)) (fun _ h => h) dJ6_getChars_ba4f3_78 ?_
    refine lv_iload_n hx hb dJ6_getChars_ba4f3_81 rfl (lv_at hl 1 rfl) ?_
    refine lv_ineg hx hb dJ6_getChars_ba4f3_82 ?_
    refine zTop (y := nI (k9)) Int32.neg_neg ?_
    refine va_tb (v := .int (nI (48 + k9 % 10))) hx hb hX.g10 hS (vp_in_nI (n := k9) (N := 100) (by omega) (by decide)) (by show Value.int (nI (48 + (nI k9).toNatClampNeg % 10)) = _; rw [nI_clamp (by omega)]) dJ6_getChars_ba4f3_83 ?_
    refine zBast (n := l_m lz) (f := l_f lz) (i := (p9 - 1)) hx hb hK hP hD hS 1 rfl (by omega) (by omega) dJ6_getChars_ba4f3_84 (fun H locs hP hD hS => ?_)
    have hP : va_P D vwCl (LW ct lb (l_q lz, l_m lz, (upd (l_f lz) ((p9 - 1)) (vp_nar .byte (nI (48 + k9 % 10)))), l_n lz, l_ml lz) R) H := hP
    have hD : va_D A (LW ct lb (l_q lz, l_m lz, (upd (l_f lz) ((p9 - 1)) (vp_nar .byte (nI (48 + k9 % 10)))), l_n lz, l_ml lz) R) := hD
    refine lv_iload_n hx hb dJ6_getChars_ba4f3_85 rfl (lv_at hl 1 rfl) ?_
    refine lv_bipush (v := (-9)) hx hb dJ6_getChars_ba4f3_86 (by decide) ?_
    refine lv_icmp_ge (tgt := 104) hx hb dJ6_getChars_ba4f3_88 (by decide) (fun c88_4 => ?_) (fun c88_4 => ?_)
    · skip
      have hk10 : k9 ≤ 9 := (neg_le (a := 9) (by decide) (by omega)).mp (by rw [← m9]; exact c88_4)
      have e9 : gcF (l_f lz) p9 k9 = (upd (l_f lz) ((p9 - 1)) (vp_nar .byte (nI (48 + k9 % 10)))) := gcF_1 hk10
      have hP : va_P D vwCl (LW ct lb (l_q lz, l_m lz, (gcF (l_f lz) p9 k9), l_n lz, l_ml lz) R) H := by rw [e9]; exact hP
      have hD : va_D A (LW ct lb (l_q lz, l_m lz, (gcF (l_f lz) p9 k9), l_n lz, l_ml lz) R) := by rw [e9]; exact hD
      refine lv_iload hx hb dJ6_getChars_ba4f3_104 (lv_at hl 2 rfl) ?_
      refine lv_if_eq (tgt := 118) hx hb dJ6_getChars_ba4f3_106 (by decide) (fun c9 => ?_) (fun c9 => absurd (by decide) c9)
      refine lv_iload hx hb dJ6_getChars_ba4f3_118 (lv_at hl 0 rfl) ?_
      exact zIret () hx hb hr hlocks hK hP hD hS dJ6_getChars_ba4f3_120 (show nI ((p9 - 1)) = nI (p9 - (if k9 ≤ 9 then 1 else 2)) from (by rw [if_pos hk10]))
    · skip
      have hk10 : ¬ k9 ≤ 9 := fun q => c88_4 (by rw [m9]; exact (neg_le (a := 9) (by decide) (by omega)).mpr q)
      refine lv_aload_n hx hb dJ6_getChars_ba4f3_91 rfl (lv_at hl 4 rfl) ?_
      refine lv_iinc (v := nI (((p9 - 1) - 1))) (lv' := [(5, .int (nI (((p9 - 1) - 1)))), (0, .int ((-nI (k9)))), (6, .int (nI (0))), (1, .int (nI (p9))), (2, .ref (l_q lz))]) hx hb dJ6_getChars_ba4f3_92 hl (k := 0) rfl (zDec (by omega)) (by decide) rfl (fun ls hl => ?_)
      refine lv_iload hx hb dJ6_getChars_ba4f3_95 (lv_at hl 0 rfl) ?_
      refine va_gets (v := .ref (xT g)) hx hb hX.g11 hS hown (hts (.fieldLink RJ6 87 "java/lang/Integer" "DigitTens" "[B") (by decide +kernel)) (fun _ h => h) dJ6_getChars_ba4f3_97 ?_
      refine lv_iload_n hx hb dJ6_getChars_ba4f3_100 rfl (lv_at hl 1 rfl) ?_
      refine lv_ineg hx hb dJ6_getChars_ba4f3_101 ?_
      refine zTop (y := nI (k9)) Int32.neg_neg ?_
      refine va_tb (v := .int (nI (48 + k9 / 10))) hx hb hX.g12 hS (vp_in_nI (n := k9) (N := 100) (by omega) (by decide)) (by show Value.int (nI (48 + (nI k9).toNatClampNeg / 10)) = _; rw [nI_clamp (by omega)]) dJ6_getChars_ba4f3_102 ?_
      refine zBast (n := l_m lz) (f := (upd (l_f lz) ((p9 - 1)) (vp_nar .byte (nI (48 + k9 % 10))))) (i := ((p9 - 1) - 1)) hx hb hK hP hD hS 1 rfl (by have := hp2.2 hk10; omega) (by omega) dJ6_getChars_ba4f3_103 (fun H locs hP hD hS => ?_)
      have hP : va_P D vwCl (LW ct lb (l_q lz, l_m lz, (upd ((upd (l_f lz) ((p9 - 1)) (vp_nar .byte (nI (48 + k9 % 10))))) (((p9 - 1) - 1)) (vp_nar .byte (nI (48 + k9 / 10)))), l_n lz, l_ml lz) R) H := hP
      have hD : va_D A (LW ct lb (l_q lz, l_m lz, (upd ((upd (l_f lz) ((p9 - 1)) (vp_nar .byte (nI (48 + k9 % 10))))) (((p9 - 1) - 1)) (vp_nar .byte (nI (48 + k9 / 10)))), l_n lz, l_ml lz) R) := hD
      have e9 : gcF (l_f lz) p9 k9 = (upd ((upd (l_f lz) ((p9 - 1)) (vp_nar .byte (nI (48 + k9 % 10))))) (((p9 - 1) - 1)) (vp_nar .byte (nI (48 + k9 / 10)))) := gcF_2 hk10
      have hP : va_P D vwCl (LW ct lb (l_q lz, l_m lz, (gcF (l_f lz) p9 k9), l_n lz, l_ml lz) R) H := by rw [e9]; exact hP
      have hD : va_D A (LW ct lb (l_q lz, l_m lz, (gcF (l_f lz) p9 k9), l_n lz, l_ml lz) R) := by rw [e9]; exact hD
      refine lv_iload hx hb dJ6_getChars_ba4f3_104 (lv_at hl 2 rfl) ?_
      refine lv_if_eq (tgt := 118) hx hb dJ6_getChars_ba4f3_106 (by decide) (fun c9 => ?_) (fun c9 => absurd (by decide) c9)
      refine lv_iload hx hb dJ6_getChars_ba4f3_118 (lv_at hl 0 rfl) ?_
      exact zIret () hx hb hr hlocks hK hP hD hS dJ6_getChars_ba4f3_120 (show nI (((p9 - 1) - 1)) = nI (p9 - (if k9 ≤ 9 then 1 else 2)) from (by rw [if_neg hk10]; rfl))
  · skip
    exact absurd ((neg_le (a := k9) (b := 100) (by omega) (by decide)).mp (by rw [← m100]; exact Int32.not_lt.mp c25_3)) (by omega)
abbrev rmJ5_append_c97b9 : Room := { frames := 4, cells := 1, slots := 70, locals := 100 }
theorem in_J5_append_c97b9_J4 : ∀ w ∈ u_ws RJ4 TJ4 4, w ∈ wsJ5_append_c97b9 := by decide +kernel
set_option maxHeartbeats 4000000 in
set_option maxRecDepth 100000 in
theorem kJ5_append_c97b9 {D : va_G} {g : XG} {ct : Nat → ClassId} {l : Launch} (lb : Nat → Nat) (lz : LST) (R : va_W) (k9 : Nat) (tx : List Nat) (hL : LR tx lz) (h60 : tx.length + 2 ≤ 60) (hk : k9 ≤ 99) : MX D ct g l yJ5_append_c97b9 wsJ5_append_c97b9 rmJ5_append_c97b9 (LW ct lb lz R) [.ref (lb 0), .int (nI (k9))] (QR D ct (fun u : LST => LR (tx ++ dgL k9) u) (fun _ : LST => lb 0) (fun u : LST => LW ct lb u R)) := by
  refine MXof (cc := cJ5_append_c97b9) (maxL := 4) (ret := (some (.object "java/lang/AbstractStringBuilder"))) (by decide) rfl (Nat.le_of_ble_eq_true rfl) ?_
  intro p e s m args below meth c A H locs F hP hK hD hS hA hX ls hl
  obtain ⟨hx, hb, hr, hlocks, hml, hown, hts, hin⟩ := F
  have hl : lv_has ls 4 [(0, .ref (lb 0)), (1, .int (nI (k9)))] := hl
  obtain ⟨hl1, hl2, hl3, hl4, hl5⟩ := hL
  have h70 := hl2.le
  have hsz : (if k9 ≤ 9 then 1 else 2) ≤ 2 := by split <;> omega
  have hsz1 : 1 ≤ (if k9 ≤ 9 then 1 else 2) := by split <;> omega
  have h_J4 := in_J5_append_c97b9_J4
  have f15 := hts (.fieldLink RJ5 15 "java/lang/AbstractStringBuilder" "value" "[B") (by decide +kernel)
  have f79 := hts (.fieldLink RJ5 79 "java/lang/AbstractStringBuilder" "count" "I") (by decide +kernel)
  refine lv_aload_n hx hb dJ5_append_c97b9_0 rfl (lv_at hl 0 rfl) ?_
  refine va_get (ci := 0) (v := .int (nI (l_n lz))) hx hb hts h_J4 hown hK hP 0 rfl rfl 3 (by decide) f79 (fun _ h9 => h9) rfl dJ5_append_c97b9_1 ?_
  refine lv_istore_n (lv' := [(2, .int (nI (l_n lz))), (0, .ref (lb 0)), (1, .int (nI (k9)))]) hx hb dJ5_append_c97b9_4 rfl hl (by decide) rfl (fun ls hl => ?_)
  refine lv_iload_n hx hb dJ5_append_c97b9_5 rfl (lv_at hl 0 rfl) ?_
  refine lv_iload_n hx hb dJ5_append_c97b9_6 rfl (lv_at hl 2 rfl) ?_
  refine zSIX [.int (nI (k9))] [.int (nI (l_n lz))] (kJ6_stringSize_0f7a4 (LW ct lb lz R) (k9) (show (k9) ≤ 99 from by omega)) hx hb hml hown hts (va_cwS 1 hts gJ5_append_c97b9_J6_stringSize_0f7a4 rfl rfl rfl (by decide +kernel) ⟨(Nat.le_of_ble_eq_true rfl), (Nat.le_of_ble_eq_true rfl)⟩) hK hP hD hS hA hX rfl hl.1 rfl (Nat.le_of_ble_eq_true rfl) dJ5_append_c97b9_7 ⟨(Nat.le_of_ble_eq_true rfl), (Nat.le_of_ble_eq_true rfl)⟩ (fun r_7 _ H locs hr_7 hP hD hS => ?_)
  subst hr_7
  have hP : va_P D vwCl (LW ct lb lz R) H := hP
  have hD : va_D A (LW ct lb lz R) := hD
  refine zNadd hx hb dJ5_append_c97b9_10 ?_
  refine lv_istore_n (lv' := [(3, .int (nI ((l_n lz + if (k9) ≤ 9 then 1 else 2)))), (2, .int (nI (l_n lz))), (0, .ref (lb 0)), (1, .int (nI (k9)))]) hx hb dJ5_append_c97b9_11 rfl hl (by decide) rfl (fun ls hl => ?_)
  refine lv_aload_n hx hb dJ5_append_c97b9_12 rfl (lv_at hl 2 rfl) ?_
  refine lv_iload_n hx hb dJ5_append_c97b9_13 rfl (lv_at hl 0 rfl) ?_
  refine zUVX [.int (nI ((l_n lz + if (k9) ≤ 9 then 1 else 2)))] [] (kJ5_ensureCapacityInternal_d00df (lb) (lz) (R) ((l_n lz + if (k9) ≤ 9 then 1 else 2)) (show okc (l_m lz) from hl2) (show sb_Fit (l_f lz) from hl4) (show ((l_n lz + if (k9) ≤ 9 then 1 else 2)) ≤ 60 from (by omega)) (show ((l_n lz + if (k9) ≤ 9 then 1 else 2)) ≤ 2 * l_m lz + 2 from (by omega))) hx hb hml hown hts (va_cwU 1 hts gJ5_append_c97b9_J5_ensureCapacityInternal_d00df_u100J4 rfl rfl rfl rfl (by decide +kernel) ⟨(Nat.le_of_ble_eq_true rfl), (Nat.le_of_ble_eq_true rfl)⟩) hK hP hD hS hA hX (va_recv hK hP (ci := 0) (q0 := 0) rfl rfl) rfl hl.1 rfl (Nat.le_of_ble_eq_true rfl) dJ5_append_c97b9_14 ⟨(Nat.le_of_ble_eq_true rfl), (Nat.le_of_ble_eq_true rfl)⟩ (fun u_14 H locs hr_14 hP hD hS => ?_)
  obtain ⟨en1_14, en2_14, en3_14, en4_14, en5_14, en6_14⟩ := hr_14
  have hP : va_P D vwCl (LW ct lb u_14 R) H := hP
  have hD : va_D A (LW ct lb u_14 R) := hD
  refine lv_aload_n hx hb dJ5_append_c97b9_17 rfl (lv_at hl 2 rfl) ?_
  refine zUIX [] [] (kJ5_isLatin1_aae02 (lb) (u_14) (R)) hx hb hml hown hts (va_cwU 0 hts gJ5_append_c97b9_J5_isLatin1_aae02_u83J4 rfl rfl rfl rfl (by decide +kernel) ⟨(Nat.le_of_ble_eq_true rfl), (Nat.le_of_ble_eq_true rfl)⟩) hK hP hD hS hA hX (va_recv hK hP (ci := 0) (q0 := 0) rfl rfl) rfl hl.1 rfl (Nat.le_of_ble_eq_true rfl) dJ5_append_c97b9_18 ⟨(Nat.le_of_ble_eq_true rfl), (Nat.le_of_ble_eq_true rfl)⟩ (fun r_18 _ H locs hr_18 hP hD hS => ?_)
  subst hr_18
  have hP : va_P D vwCl (LW ct lb u_14 R) H := hP
  have hD : va_D A (LW ct lb u_14 R) := hD
  refine lv_if_eq (tgt := 37) hx hb dJ5_append_c97b9_21 (by decide) (fun c9 => absurd c9 (by decide)) (fun c9 => ?_)
  refine lv_iload_n hx hb dJ5_append_c97b9_24 rfl (lv_at hl 3 rfl) ?_
  refine lv_iload_n hx hb dJ5_append_c97b9_25 rfl (lv_at hl 0 rfl) ?_
  refine lv_aload_n hx hb dJ5_append_c97b9_26 rfl (lv_at hl 2 rfl) ?_
  refine va_get (ci := 0) (v := .ref (l_q u_14)) hx hb hts h_J4 hown hK hP 0 rfl rfl 0 (by decide) f15 (fun _ h9 => h9) rfl dJ5_append_c97b9_27 ?_
  refine zSIX [.int (nI (k9)), .int (nI ((l_n lz + if (k9) ≤ 9 then 1 else 2))), .ref (l_q u_14)] [] (kJ6_getChars_ba4f3 (lb) (u_14) (R) (k9) ((l_n lz + if (k9) ≤ 9 then 1 else 2)) (show (k9) ≤ 99 from by omega) (show (if (k9) ≤ 9 then 1 else 2) ≤ ((l_n lz + if (k9) ≤ 9 then 1 else 2)) from (by omega)) (show ((l_n lz + if (k9) ≤ 9 then 1 else 2)) ≤ l_m u_14 from (by omega)) (show l_m u_14 ≤ 70 from en3_14.le)) hx hb hml hown hts (va_cwS 3 hts gJ5_append_c97b9_J6_getChars_ba4f3 rfl rfl rfl (by decide +kernel) ⟨(Nat.le_of_ble_eq_true rfl), (Nat.le_of_ble_eq_true rfl)⟩) hK hP hD hS hA hX rfl hl.1 rfl (Nat.le_of_ble_eq_true rfl) dJ5_append_c97b9_30 ⟨(Nat.le_of_ble_eq_true rfl), (Nat.le_of_ble_eq_true rfl)⟩ (fun r_30 _ H locs hr_30 hP hD hS => ?_)
  subst hr_30
  have hP : va_P D vwCl (LW ct lb ((l_q u_14), (l_m u_14), (gcF (l_f u_14) ((l_n lz + if (k9) ≤ 9 then 1 else 2)) (k9)), (l_n u_14), (l_ml u_14)) R) H := hP
  have hD : va_D A (LW ct lb ((l_q u_14), (l_m u_14), (gcF (l_f u_14) ((l_n lz + if (k9) ≤ 9 then 1 else 2)) (k9)), (l_n u_14), (l_ml u_14)) R) := hD
  refine lv_pop hx hb dJ5_append_c97b9_33 rfl ?_
  refine lv_goto (tgt := 48) hx hb dJ5_append_c97b9_34 (by decide) ?_
  refine lv_aload_n hx hb dJ5_append_c97b9_48 rfl (lv_at hl 2 rfl) ?_
  refine lv_iload_n hx hb dJ5_append_c97b9_49 rfl (lv_at hl 0 rfl) ?_
  refine va_put (ci := 0) (v := .int (nI ((l_n lz + if (k9) ≤ 9 then 1 else 2)))) (ty := .int) hx hb hts h_J4 tyJ4 tyJ4_ok nmJ4 hown hK hP hD hS 0 rfl rfl 3 (by decide) f79 (fun _ h9 => h9) rfl (by decide +kernel) rfl rfl (Nat.le_of_ble_eq_true rfl) dJ5_append_c97b9_50 (fun H locs hP hD hS => ?_)
  have hP : va_P D vwCl (LW ct lb ((l_q u_14), (l_m u_14), (gcF (l_f u_14) ((l_n lz + if (k9) ≤ 9 then 1 else 2)) (k9)), (l_n lz + if (k9) ≤ 9 then 1 else 2), (l_ml u_14)) R) H := hP
  have hD : va_D A (LW ct lb ((l_q u_14), (l_m u_14), (gcF (l_f u_14) ((l_n lz + if (k9) ≤ 9 then 1 else 2)) (k9)), (l_n lz + if (k9) ≤ 9 then 1 else 2), (l_ml u_14)) R) := hD
  refine lv_aload_n hx hb dJ5_append_c97b9_53 rfl (lv_at hl 2 rfl) ?_
  refine W.widen (k := rmJ5_append_c97b9.cells) (n := rmJ5_append_c97b9.slots) (Nat.le_of_ble_eq_true rfl) (Nat.le_of_ble_eq_true rfl) ?_
  exact zRret (ra := fun _ : LST => lb 0) (wf := fun u : LST => LW ct lb u R) ((l_q u_14), (l_m u_14), (gcF (l_f u_14) ((l_n lz + if (k9) ≤ 9 then 1 else 2)) (k9)), (l_n lz + if (k9) ≤ 9 then 1 else 2), (l_ml u_14)) (Or.inl ⟨_, rfl⟩) hx hb hr hlocks hK hP hD hS dJ5_append_c97b9_54 (LR_num (z := lz) ⟨hl1, hl2, hl3, hl4, hl5⟩ hk en3_14 (by rw [hl1]) en4_14 en5_14 en6_14) rfl
abbrev rmJ4_append_bf812 : Room := { frames := 5, cells := 1, slots := 70, locals := 123 }
set_option maxHeartbeats 4000000 in
set_option maxRecDepth 100000 in
theorem kJ4_append_bf812 {D : va_G} {g : XG} {ct : Nat → ClassId} {l : Launch} (lb : Nat → Nat) (lz : LST) (R : va_W) (k9 : Nat) (tx : List Nat) (hL : LR tx lz) (h60 : tx.length + 2 ≤ 60) (hk : k9 ≤ 99) : MX D ct g l yJ4_append_bf812 wsJ4_append_bf812 rmJ4_append_bf812 (LW ct lb lz R) [.ref (lb 0), .int (nI (k9))] (QR D ct (fun u : LST => LR (tx ++ dgL k9) u) (fun _ : LST => lb 0) (fun u : LST => LW ct lb u R)) := by
  refine MXof (cc := cJ4_append_bf812) (maxL := 2) (ret := (some (.object "java/lang/StringBuilder"))) (by decide) rfl (Nat.le_of_ble_eq_true rfl) ?_
  intro p e s m args below meth c A H locs F hP hK hD hS hA hX ls hl
  obtain ⟨hx, hb, hr, hlocks, hml, hown, hts, hin⟩ := F
  have hl : lv_has ls 2 [(0, .ref (lb 0)), (1, .int (nI (k9)))] := hl
  refine lv_aload_n hx hb dJ4_append_bf812_0 rfl (lv_at hl 0 rfl) ?_
  refine lv_iload_n hx hb dJ4_append_bf812_1 rfl (lv_at hl 1 rfl) ?_
  refine zTRX [.int (nI (k9))] [] (kJ5_append_c97b9 (lb) (lz) (R) (k9) (tx) (show LR (tx) lz from hL) (show (tx).length + 2 ≤ 60 from by omega) (show (k9) ≤ 99 from hk)) hx hb hml hown hts (hK.1 0 _ rfl).2 (va_cwSU 1 hts gJ4_append_bf812_J5_append_c97b9_s53 rfl rfl rfl (by decide +kernel) ⟨(Nat.le_of_ble_eq_true rfl), (Nat.le_of_ble_eq_true rfl)⟩) hK hP hD hS hA hX (va_recv hK hP (ci := 0) (q0 := 0) rfl rfl) rfl hl.1 rfl (Nat.le_of_ble_eq_true rfl) dJ4_append_bf812_2 ⟨(Nat.le_of_ble_eq_true rfl), (Nat.le_of_ble_eq_true rfl)⟩ (fun u_2 H locs hr_2 hP hD hS => ?_)
  have hP : va_P D vwCl (LW ct lb u_2 R) H := hP
  have hD : va_D A (LW ct lb u_2 R) := hD
  refine lv_pop hx hb dJ4_append_bf812_5 rfl ?_
  refine lv_aload_n hx hb dJ4_append_bf812_6 rfl (lv_at hl 0 rfl) ?_
  refine W.widen (k := rmJ4_append_bf812.cells) (n := rmJ4_append_bf812.slots) (Nat.le_of_ble_eq_true rfl) (Nat.le_of_ble_eq_true rfl) ?_
  exact zRret (ra := fun _ : LST => lb 0) (wf := fun u : LST => LW ct lb u R) u_2 (Or.inl ⟨_, rfl⟩) hx hb hr hlocks hK hP hD hS dJ4_append_bf812_7 hr_2 rfl
abbrev rmJ5_length_8abf5 : Room := { frames := 0, cells := 0, slots := 0, locals := 0 }
theorem in_J5_length_8abf5_J4 : ∀ w ∈ u_ws RJ4 TJ4 4, w ∈ wsJ5_length_8abf5 := by decide +kernel
set_option maxHeartbeats 4000000 in
set_option maxRecDepth 100000 in
theorem kJ5_length_8abf5 {D : va_G} {g : XG} {ct : Nat → ClassId} {l : Launch} (lb : Nat → Nat) (lz : LST) (R : va_W)  : MX D ct g l yJ5_length_8abf5 wsJ5_length_8abf5 rmJ5_length_8abf5 (LW ct lb lz R) [.ref (lb 0)] (QI D ct (fun r0 (_ : Unit) => r0 = nI (l_n lz)) (fun _ : Unit => LW ct lb lz R)) := by
  refine MXof (cc := cJ5_length_8abf5) (maxL := 1) (ret := (some .int)) (by decide) rfl (Nat.le_of_ble_eq_true rfl) ?_
  intro p e s m args below meth c A H locs F hP hK hD hS hA hX ls hl
  obtain ⟨hx, hb, hr, hlocks, hml, hown, hts, hin⟩ := F
  have hl : lv_has ls 1 [(0, .ref (lb 0))] := hl
  have h_J4 := in_J5_length_8abf5_J4
  have f79 := hts (.fieldLink RJ5 79 "java/lang/AbstractStringBuilder" "count" "I") (by decide +kernel)
  refine lv_aload_n hx hb dJ5_length_8abf5_0 rfl (lv_at hl 0 rfl) ?_
  refine va_get (ci := 0) (v := .int (nI (l_n lz))) hx hb hts h_J4 hown hK hP 0 rfl rfl 3 (by decide) f79 (fun _ h9 => h9) rfl dJ5_length_8abf5_1 ?_
  exact zIret () hx hb hr hlocks hK hP hD hS dJ5_length_8abf5_4 (show nI (l_n lz) = nI (l_n lz) from rfl)
abbrev rmJ4_length_8abf5 : Room := { frames := 1, cells := 0, slots := 0, locals := 20 }
set_option maxHeartbeats 4000000 in
set_option maxRecDepth 100000 in
theorem kJ4_length_8abf5 {D : va_G} {g : XG} {ct : Nat → ClassId} {l : Launch} (lb : Nat → Nat) (lz : LST) (R : va_W)  : MX D ct g l yJ4_length_8abf5 wsJ4_length_8abf5 rmJ4_length_8abf5 (LW ct lb lz R) [.ref (lb 0)] (QI D ct (fun r0 (_ : Unit) => r0 = nI (l_n lz)) (fun _ : Unit => LW ct lb lz R)) := by
  refine MXof (cc := cJ4_length_8abf5) (maxL := 1) (ret := (some .int)) (by decide) rfl (Nat.le_of_ble_eq_true rfl) ?_
  intro p e s m args below meth c A H locs F hP hK hD hS hA hX ls hl
  obtain ⟨hx, hb, hr, hlocks, hml, hown, hts, hin⟩ := F
  have hl : lv_has ls 1 [(0, .ref (lb 0))] := hl
  refine lv_aload_n hx hb dJ4_length_8abf5_0 rfl (lv_at hl 0 rfl) ?_
  refine zTIX [] [] (kJ5_length_8abf5 (lb) (lz) (R)) hx hb hml hown hts (hK.1 0 _ rfl).2 (va_cwSU 0 hts gJ4_length_8abf5_J5_length_8abf5_s343 rfl rfl rfl (by decide +kernel) ⟨(Nat.le_of_ble_eq_true rfl), (Nat.le_of_ble_eq_true rfl)⟩) hK hP hD hS hA hX (va_recv hK hP (ci := 0) (q0 := 0) rfl rfl) rfl hl.1 rfl (Nat.le_of_ble_eq_true rfl) dJ4_length_8abf5_1 ⟨(Nat.le_of_ble_eq_true rfl), (Nat.le_of_ble_eq_true rfl)⟩ (fun r_1 _ H locs hr_1 hP hD hS => ?_)
  subst hr_1
  have hP : va_P D vwCl (LW ct lb lz R) H := hP
  have hD : va_D A (LW ct lb lz R) := hD
  exact zIret () hx hb hr hlocks hK hP hD hS dJ4_length_8abf5_4 (show nI (l_n lz) = nI (l_n lz) from rfl)
abbrev rmJ5_charAt_5068e : Room := { frames := 2, cells := 0, slots := 0, locals := 43 }
theorem in_J5_charAt_5068e_J4 : ∀ w ∈ u_ws RJ4 TJ4 4, w ∈ wsJ5_charAt_5068e := by decide +kernel
set_option maxHeartbeats 4000000 in
set_option maxRecDepth 100000 in
theorem kJ5_charAt_5068e {D : va_G} {g : XG} {ct : Nat → ClassId} {l : Launch} (lb : Nat → Nat) (lz : LST) (R : va_W) (k9 : Nat) (tx : List Nat) (hL : LR tx lz) (hk : k9 < tx.length) : MX D ct g l yJ5_charAt_5068e wsJ5_charAt_5068e rmJ5_charAt_5068e (LW ct lb lz R) [.ref (lb 0), .int (nI (k9))] (QI D ct (fun r0 (_ : Unit) => r0 = nI (tx.getD k9 0)) (fun _ : Unit => LW ct lb lz R)) := by
  refine MXof (cc := cJ5_charAt_5068e) (maxL := 5) (ret := (some .char)) (by decide) rfl (Nat.le_of_ble_eq_true rfl) ?_
  intro p e s m args below meth c A H locs F hP hK hD hS hA hX ls hl
  obtain ⟨hx, hb, hr, hlocks, hml, hown, hts, hin⟩ := F
  have hl : lv_has ls 5 [(0, .ref (lb 0)), (1, .int (nI (k9)))] := hl
  obtain ⟨hl1, hl2, hl3, hl4, hl5⟩ := hL
  have h70 := hl2.le
  have h_J4 := in_J5_charAt_5068e_J4
  have f15 := hts (.fieldLink RJ5 15 "java/lang/AbstractStringBuilder" "value" "[B") (by decide +kernel)
  have f22 := hts (.fieldLink RJ5 22 "java/lang/AbstractStringBuilder" "coder" "B") (by decide +kernel)
  have f79 := hts (.fieldLink RJ5 79 "java/lang/AbstractStringBuilder" "count" "I") (by decide +kernel)
  refine lv_aload_n hx hb dJ5_charAt_5068e_0 rfl (lv_at hl 0 rfl) ?_
  refine va_get (ci := 0) (v := .int (nI (0))) hx hb hts h_J4 hown hK hP 0 rfl rfl 1 (by decide) f22 (fun _ h9 => h9) rfl dJ5_charAt_5068e_1 ?_
  refine lv_istore_n (lv' := [(2, .int (nI (0))), (0, .ref (lb 0)), (1, .int (nI (k9)))]) hx hb dJ5_charAt_5068e_4 rfl hl (by decide) rfl (fun ls hl => ?_)
  refine lv_aload_n hx hb dJ5_charAt_5068e_5 rfl (lv_at hl 1 rfl) ?_
  refine va_get (ci := 0) (v := .ref (l_q lz)) hx hb hts h_J4 hown hK hP 0 rfl rfl 0 (by decide) f15 (fun _ h9 => h9) rfl dJ5_charAt_5068e_6 ?_
  refine lv_astore_n (lv' := [(3, .ref (l_q lz)), (2, .int (nI (0))), (0, .ref (lb 0)), (1, .int (nI (k9)))]) hx hb dJ5_charAt_5068e_9 rfl hl (by decide) rfl (fun ls hl => ?_)
  refine lv_aload_n hx hb dJ5_charAt_5068e_10 rfl (lv_at hl 2 rfl) ?_
  refine va_get (ci := 0) (v := .int (nI (l_n lz))) hx hb hts h_J4 hown hK hP 0 rfl rfl 3 (by decide) f79 (fun _ h9 => h9) rfl dJ5_charAt_5068e_11 ?_
  refine lv_aload_n hx hb dJ5_charAt_5068e_14 rfl (lv_at hl 0 rfl) ?_
  refine va_alen (x := (l_m lz, _)) (v := nI (l_m lz)) hx hb hK hP 1 4 rfl rfl rfl dJ5_charAt_5068e_15 ?_
  refine lv_iload_n hx hb dJ5_charAt_5068e_16 rfl (lv_at hl 1 rfl) ?_
  refine lv_ishr hx hb dJ5_charAt_5068e_17 ?_
  refine zTop (y := nI (l_m lz)) (sb_shr0 _) ?_
  refine va_mmin hx hb (hml.trans hl.1.symm) hown (hts (.methodLink RJ5 138 Lib.Math.min.name) (by decide +kernel)) (hts (.static Lib.Math.min.name) (by decide +kernel)) (hts (.initialized "java/lang/Math") (by decide +kernel)) (hts (.code Lib.Math.min.name Lib.Math.min.code 2 (some .int)) (by decide +kernel)) (Nat.le_of_ble_eq_true rfl) (Nat.le_of_ble_eq_true rfl) (Nat.le_of_ble_eq_true rfl) (Nat.le_of_ble_eq_true rfl) dJ5_charAt_5068e_18 ?_
  refine zTop (y := nI (l_n lz)) (by rw [if_neg (fun q => by rw [nI_ltI (by omega) (by omega)] at q; omega)]) ?_
  refine lv_istore (lv' := [(4, .int (nI (l_n lz))), (3, .ref (l_q lz)), (2, .int (nI (0))), (0, .ref (lb 0)), (1, .int (nI (k9)))]) hx hb dJ5_charAt_5068e_21 hl (by decide) rfl (fun ls hl => ?_)
  refine lv_iload_n hx hb dJ5_charAt_5068e_23 rfl (lv_at hl 4 rfl) ?_
  refine lv_iload hx hb dJ5_charAt_5068e_24 (lv_at hl 0 rfl) ?_
  refine zSVX [.int (nI (k9)), .int (nI (l_n lz))] [] (kJ0_checkIndex_df160 (LW ct lb lz R) (k9) (l_n lz) (show (k9) < (l_n lz) from (by omega)) (show (l_n lz) < 2 ^ 31 from (by omega))) hx hb hml hown hts (va_cwS 2 hts gJ5_charAt_5068e_J0_checkIndex_df160 rfl rfl rfl (by decide +kernel) ⟨(Nat.le_of_ble_eq_true rfl), (Nat.le_of_ble_eq_true rfl)⟩) hK hP hD hS hA hX rfl hl.1 rfl (Nat.le_of_ble_eq_true rfl) dJ5_charAt_5068e_26 ⟨(Nat.le_of_ble_eq_true rfl), (Nat.le_of_ble_eq_true rfl)⟩ (fun _ H locs hr_26 hP hD hS => ?_)
  have hP : va_P D vwCl (LW ct lb lz R) H := hP
  have hD : va_D A (LW ct lb lz R) := hD
  refine lv_iload_n hx hb dJ5_charAt_5068e_29 rfl (lv_at hl 2 rfl) ?_
  refine lv_if_ne (tgt := 42) hx hb dJ5_charAt_5068e_30 (by decide) (fun c9 => absurd (by decide) c9) (fun c9 => ?_)
  refine lv_aload_n hx hb dJ5_charAt_5068e_33 rfl (lv_at hl 1 rfl) ?_
  refine lv_iload_n hx hb dJ5_charAt_5068e_34 rfl (lv_at hl 4 rfl) ?_
  refine zBald (n := l_m lz) (f := l_f lz) (i := k9) hx hb hK hP 1 rfl (by omega) (by omega) dJ5_charAt_5068e_35 ?_
  refine lv_sipush (v := nI (255)) hx hb dJ5_charAt_5068e_36 (by decide) ?_
  refine lv_iand hx hb dJ5_charAt_5068e_39 ?_
  refine lv_i2c (v := nI (tx.getD k9 0)) hx hb dJ5_charAt_5068e_40 (by rw [(hl5 k9 hk).1]; exact sb_and (hl5 k9 hk).2) ?_
  exact zNret () (ch_nar (by have := (hl5 k9 hk).2; omega)) hx hb hr hlocks hK hP hD hS dJ5_charAt_5068e_41 (show nI (tx.getD k9 0) = nI (tx.getD k9 0) from rfl)
abbrev rmJ4_charAt_5068e : Room := { frames := 3, cells := 0, slots := 0, locals := 67 }
set_option maxHeartbeats 4000000 in
set_option maxRecDepth 100000 in
theorem kJ4_charAt_5068e {D : va_G} {g : XG} {ct : Nat → ClassId} {l : Launch} (lb : Nat → Nat) (lz : LST) (R : va_W) (k9 : Nat) (tx : List Nat) (hL : LR tx lz) (hk : k9 < tx.length) : MX D ct g l yJ4_charAt_5068e wsJ4_charAt_5068e rmJ4_charAt_5068e (LW ct lb lz R) [.ref (lb 0), .int (nI (k9))] (QI D ct (fun r0 (_ : Unit) => r0 = nI (tx.getD k9 0)) (fun _ : Unit => LW ct lb lz R)) := by
  refine MXof (cc := cJ4_charAt_5068e) (maxL := 2) (ret := (some .char)) (by decide) rfl (Nat.le_of_ble_eq_true rfl) ?_
  intro p e s m args below meth c A H locs F hP hK hD hS hA hX ls hl
  obtain ⟨hx, hb, hr, hlocks, hml, hown, hts, hin⟩ := F
  have hl : lv_has ls 2 [(0, .ref (lb 0)), (1, .int (nI (k9)))] := hl
  refine lv_aload_n hx hb dJ4_charAt_5068e_0 rfl (lv_at hl 0 rfl) ?_
  refine lv_iload_n hx hb dJ4_charAt_5068e_1 rfl (lv_at hl 1 rfl) ?_
  refine zTIX [.int (nI (k9))] [] (kJ5_charAt_5068e (lb) (lz) (R) (k9) (tx) (show LR (tx) lz from hL) (show (k9) < (tx).length from hk)) hx hb hml hown hts (hK.1 0 _ rfl).2 (va_cwSU 1 hts gJ4_charAt_5068e_J5_charAt_5068e_s329 rfl rfl rfl (by decide +kernel) ⟨(Nat.le_of_ble_eq_true rfl), (Nat.le_of_ble_eq_true rfl)⟩) hK hP hD hS hA hX (va_recv hK hP (ci := 0) (q0 := 0) rfl rfl) rfl hl.1 rfl (Nat.le_of_ble_eq_true rfl) dJ4_charAt_5068e_2 ⟨(Nat.le_of_ble_eq_true rfl), (Nat.le_of_ble_eq_true rfl)⟩ (fun r_2 _ H locs hr_2 hP hD hS => ?_)
  subst hr_2
  have hP : va_P D vwCl (LW ct lb lz R) H := hP
  have hD : va_D A (LW ct lb lz R) := hD
  exact zNret () (ch_nar (by have := (hL.2.2.2.2 k9 hk).2; omega)) hx hb hr hlocks hK hP hD hS dJ4_charAt_5068e_5 (show nI ((tx).getD (k9) 0) = nI (tx.getD k9 0) from rfl)
abbrev rmJ5_setLength_d00df : Room := { frames := 4, cells := 1, slots := 70, locals := 100 }
theorem in_J5_setLength_d00df_J4 : ∀ w ∈ u_ws RJ4 TJ4 4, w ∈ wsJ5_setLength_d00df := by decide +kernel
set_option maxHeartbeats 4000000 in
set_option maxRecDepth 100000 in
theorem kJ5_setLength_d00df {D : va_G} {g : XG} {ct : Nat → ClassId} {l : Launch} (lb : Nat → Nat) (lz : LST) (R : va_W) (tx : List Nat) (hL : LR tx lz) : MX D ct g l yJ5_setLength_d00df wsJ5_setLength_d00df rmJ5_setLength_d00df (LW ct lb lz R) [.ref (lb 0), .int (nI (0))] (QV D ct (fun u : LST => LR [] u) (fun u : LST => LW ct lb u R)) := by
  refine MXof (cc := cJ5_setLength_d00df) (maxL := 2) (ret := none) (by decide) rfl (Nat.le_of_ble_eq_true rfl) ?_
  intro p e s m args below meth c A H locs F hP hK hD hS hA hX ls hl
  obtain ⟨hx, hb, hr, hlocks, hml, hown, hts, hin⟩ := F
  have hl : lv_has ls 2 [(0, .ref (lb 0)), (1, .int (nI (0)))] := hl
  obtain ⟨hl1, hl2, hl3, hl4, hl5⟩ := hL
  have h70 := hl2.le
  have h_J4 := in_J5_setLength_d00df_J4
  have f73 := hts (.fieldLink RJ5 73 "java/lang/AbstractStringBuilder" "maybeLatin1" "Z") (by decide +kernel)
  have f79 := hts (.fieldLink RJ5 79 "java/lang/AbstractStringBuilder" "count" "I") (by decide +kernel)
  refine lv_iload_n hx hb dJ5_setLength_d00df_0 rfl (lv_at hl 1 rfl) ?_
  refine lv_if_ge (tgt := 13) hx hb dJ5_setLength_d00df_1 (by decide) (fun c9 => ?_) (fun c9 => absurd (by decide) c9)
  refine lv_aload_n hx hb dJ5_setLength_d00df_13 rfl (lv_at hl 0 rfl) ?_
  refine lv_iload_n hx hb dJ5_setLength_d00df_14 rfl (lv_at hl 1 rfl) ?_
  refine zUVX [.int (nI (0))] [] (kJ5_ensureCapacityInternal_d00df (lb) (lz) (R) (0) (show okc (l_m lz) from hl2) (show sb_Fit (l_f lz) from hl4) (show (0) ≤ 60 from (by omega)) (show (0) ≤ 2 * l_m lz + 2 from (by omega))) hx hb hml hown hts (va_cwU 1 hts gJ5_setLength_d00df_J5_ensureCapacityInternal_d00df_u100J4 rfl rfl rfl rfl (by decide +kernel) ⟨(Nat.le_of_ble_eq_true rfl), (Nat.le_of_ble_eq_true rfl)⟩) hK hP hD hS hA hX (va_recv hK hP (ci := 0) (q0 := 0) rfl rfl) rfl hl.1 rfl (Nat.le_of_ble_eq_true rfl) dJ5_setLength_d00df_15 ⟨(Nat.le_of_ble_eq_true rfl), (Nat.le_of_ble_eq_true rfl)⟩ (fun u_15 H locs hr_15 hP hD hS => ?_)
  obtain ⟨en1_15, en2_15, en3_15, en4_15, en5_15, en6_15⟩ := hr_15
  have hP : va_P D vwCl (LW ct lb u_15 R) H := hP
  have hD : va_D A (LW ct lb u_15 R) := hD
  refine lv_aload_n hx hb dJ5_setLength_d00df_18 rfl (lv_at hl 0 rfl) ?_
  refine va_get (ci := 0) (v := .int (nI (l_n u_15))) hx hb hts h_J4 hown hK hP 0 rfl rfl 3 (by decide) f79 (fun _ h9 => h9) rfl dJ5_setLength_d00df_19 ?_
  refine lv_iload_n hx hb dJ5_setLength_d00df_22 rfl (lv_at hl 1 rfl) ?_
  refine zN_icmp_ge (tgt := 63) hx hb (by omega) (by omega) dJ5_setLength_d00df_23 (by decide) (fun c23_2 => ?_) (fun c23_2 => ?_)
  · skip
    refine lv_aload_n hx hb dJ5_setLength_d00df_63 rfl (lv_at hl 0 rfl) ?_
    refine va_get (ci := 0) (v := .int (nI (l_n u_15))) hx hb hts h_J4 hown hK hP 0 rfl rfl 3 (by decide) f79 (fun _ h9 => h9) rfl dJ5_setLength_d00df_64 ?_
    refine lv_iload_n hx hb dJ5_setLength_d00df_67 rfl (lv_at hl 1 rfl) ?_
    refine zN_icmp_le (tgt := 76) hx hb (by omega) (by omega) dJ5_setLength_d00df_68 (by decide) (fun c68_3 => ?_) (fun c68_3 => ?_)
    · skip
      refine lv_aload_n hx hb dJ5_setLength_d00df_76 rfl (lv_at hl 0 rfl) ?_
      refine lv_iload_n hx hb dJ5_setLength_d00df_77 rfl (lv_at hl 1 rfl) ?_
      refine va_put (ci := 0) (v := .int (nI (0))) (ty := .int) hx hb hts h_J4 tyJ4 tyJ4_ok nmJ4 hown hK hP hD hS 0 rfl rfl 3 (by decide) f79 (fun _ h9 => h9) rfl (by decide +kernel) rfl rfl (Nat.le_of_ble_eq_true rfl) dJ5_setLength_d00df_78 (fun H locs hP hD hS => ?_)
      have hP : va_P D vwCl (LW ct lb (l_q u_15, l_m u_15, l_f u_15, 0, l_ml u_15) R) H := hP
      have hD : va_D A (LW ct lb (l_q u_15, l_m u_15, l_f u_15, 0, l_ml u_15) R) := hD
      refine W.widen (k := rmJ5_setLength_d00df.cells) (n := rmJ5_setLength_d00df.slots) (Nat.le_of_ble_eq_true rfl) (Nat.le_of_ble_eq_true rfl) ?_
      exact zVret (wf := fun u : LST => LW ct lb u R) (l_q u_15, l_m u_15, l_f u_15, 0, l_ml u_15) hx hb hr hlocks hK hP hD hS dJ5_setLength_d00df_81 ⟨rfl, en3_15, Nat.zero_le _, en5_15, fun j hj => absurd hj (Nat.not_lt_zero j)⟩
    · skip
      refine lv_aload_n hx hb dJ5_setLength_d00df_71 rfl (lv_at hl 0 rfl) ?_
      refine lv_iconst (v := nI (1)) hx hb dJ5_setLength_d00df_72 (by decide) ?_
      refine va_put (ci := 0) (v := .int (nI (1))) (ty := .boolean) hx hb hts h_J4 tyJ4 tyJ4_ok nmJ4 hown hK hP hD hS 0 rfl rfl 2 (by decide) f73 (fun _ h9 => h9) rfl (by decide +kernel) rfl rfl (Nat.le_of_ble_eq_true rfl) dJ5_setLength_d00df_73 (fun H locs hP hD hS => ?_)
      have hP : va_P D vwCl (LW ct lb (l_q u_15, l_m u_15, l_f u_15, l_n u_15, nI (1)) R) H := hP
      have hD : va_D A (LW ct lb (l_q u_15, l_m u_15, l_f u_15, l_n u_15, nI (1)) R) := hD
      refine lv_aload_n hx hb dJ5_setLength_d00df_76 rfl (lv_at hl 0 rfl) ?_
      refine lv_iload_n hx hb dJ5_setLength_d00df_77 rfl (lv_at hl 1 rfl) ?_
      refine va_put (ci := 0) (v := .int (nI (0))) (ty := .int) hx hb hts h_J4 tyJ4 tyJ4_ok nmJ4 hown hK hP hD hS 0 rfl rfl 3 (by decide) f79 (fun _ h9 => h9) rfl (by decide +kernel) rfl rfl (Nat.le_of_ble_eq_true rfl) dJ5_setLength_d00df_78 (fun H locs hP hD hS => ?_)
      have hP : va_P D vwCl (LW ct lb (l_q u_15, l_m u_15, l_f u_15, 0, nI (1)) R) H := hP
      have hD : va_D A (LW ct lb (l_q u_15, l_m u_15, l_f u_15, 0, nI (1)) R) := hD
      refine W.widen (k := rmJ5_setLength_d00df.cells) (n := rmJ5_setLength_d00df.slots) (Nat.le_of_ble_eq_true rfl) (Nat.le_of_ble_eq_true rfl) ?_
      exact zVret (wf := fun u : LST => LW ct lb u R) (l_q u_15, l_m u_15, l_f u_15, 0, nI (1)) hx hb hr hlocks hK hP hD hS dJ5_setLength_d00df_81 ⟨rfl, en3_15, Nat.zero_le _, en5_15, fun j hj => absurd hj (Nat.not_lt_zero j)⟩
  · skip
    exact absurd (Nat.zero_le _) c23_2
abbrev rmJ4_setLength_d00df : Room := { frames := 5, cells := 1, slots := 70, locals := 121 }
set_option maxHeartbeats 4000000 in
set_option maxRecDepth 100000 in
theorem kJ4_setLength_d00df {D : va_G} {g : XG} {ct : Nat → ClassId} {l : Launch} (lb : Nat → Nat) (lz : LST) (R : va_W) (tx : List Nat) (hL : LR tx lz) : MX D ct g l yJ4_setLength_d00df wsJ4_setLength_d00df rmJ4_setLength_d00df (LW ct lb lz R) [.ref (lb 0), .int (nI (0))] (QV D ct (fun u : LST => LR [] u) (fun u : LST => LW ct lb u R)) := by
  refine MXof (cc := cJ4_setLength_d00df) (maxL := 2) (ret := none) (by decide) rfl (Nat.le_of_ble_eq_true rfl) ?_
  intro p e s m args below meth c A H locs F hP hK hD hS hA hX ls hl
  obtain ⟨hx, hb, hr, hlocks, hml, hown, hts, hin⟩ := F
  have hl : lv_has ls 2 [(0, .ref (lb 0)), (1, .int (nI (0)))] := hl
  refine lv_aload_n hx hb dJ4_setLength_d00df_0 rfl (lv_at hl 0 rfl) ?_
  refine lv_iload_n hx hb dJ4_setLength_d00df_1 rfl (lv_at hl 1 rfl) ?_
  refine zTVX [.int (nI (0))] [] (kJ5_setLength_d00df (lb) (lz) (R) (tx) (show LR (tx) lz from hL)) hx hb hml hown hts (hK.1 0 _ rfl).2 (va_cwSU 1 hts gJ4_setLength_d00df_J5_setLength_d00df_s333 rfl rfl rfl (by decide +kernel) ⟨(Nat.le_of_ble_eq_true rfl), (Nat.le_of_ble_eq_true rfl)⟩) hK hP hD hS hA hX (va_recv hK hP (ci := 0) (q0 := 0) rfl rfl) rfl hl.1 rfl (Nat.le_of_ble_eq_true rfl) dJ4_setLength_d00df_2 ⟨(Nat.le_of_ble_eq_true rfl), (Nat.le_of_ble_eq_true rfl)⟩ (fun u_2 H locs hr_2 hP hD hS => ?_)
  have hP : va_P D vwCl (LW ct lb u_2 R) H := hP
  have hD : va_D A (LW ct lb u_2 R) := hD
  refine W.widen (k := rmJ4_setLength_d00df.cells) (n := rmJ4_setLength_d00df.slots) (Nat.le_of_ble_eq_true rfl) (Nat.le_of_ble_eq_true rfl) ?_
  exact zVret (wf := fun u : LST => LW ct lb u R) u_2 hx hb hr hlocks hK hP hD hS dJ4_setLength_d00df_5 hr_2
