/-! TEXTS: a String put behind another -/
abbrev rmJ0_coder_7d493_t : Room := { frames := 0, cells := 0, slots := 0, locals := 0 }
theorem in_J0_coder_7d493_t_J0 : ∀ w ∈ u_ws RJ0 TJ0 4, w ∈ wsJ0_coder_7d493 := by decide +kernel
set_option maxHeartbeats 4000000 in
set_option maxRecDepth 100000 in
theorem kJ0_coder_7d493_t {D : va_G} {g : XG} {ct : Nat → ClassId} {l : Launch} (sb : Nat → Nat) (sz : SST) (R : va_W)  : MX D ct g l yJ0_coder_7d493 wsJ0_coder_7d493 rmJ0_coder_7d493_t (SW ct sb sz R) [.ref (sb 0)] (QI D ct (fun r0 (_ : Unit) => r0 = nI (0)) (fun _ : Unit => SW ct sb sz R)) := by
  refine MXof (cc := cJ0_coder_7d493) (maxL := 1) (ret := (some .byte)) (by decide) rfl (Nat.le_of_ble_eq_true rfl) ?_
  intro p e s m args below meth c A H locs F hP hK hD hS hA hX ls hl
  obtain ⟨hx, hb, hr, hlocks, hml, hown, hts, hin⟩ := F
  have hl : lv_has ls 1 [(0, .ref (sb 0))] := hl
  have h_J0 := in_J0_coder_7d493_t_J0
  refine va_gets (v := .int (nI 1)) hx hb hX.g8 hS hown (hts (.fieldLink RJ0 38 "java/lang/String" "COMPACT_STRINGS" "Z") (by decide +kernel)) (fun _ h => h) dJ0_coder_7d493_0 ?_
  refine lv_if_eq (tgt := 13) hx hb dJ0_coder_7d493_3 (by decide) (fun c9 => absurd c9 (by decide)) (fun c9 => ?_)
  refine lv_aload_n hx hb dJ0_coder_7d493_6 rfl (lv_at hl 0 rfl) ?_
  refine va_get (ci := 10) (v := .int (nI (0))) hx hb hts h_J0 hown hK hP 0 rfl rfl 1 (by decide) (hts (.fieldLink RJ0 15 "java/lang/String" "coder" "B") (by decide +kernel)) (fun _ h9 => h9) rfl dJ0_coder_7d493_7 ?_
  refine lv_goto (tgt := 14) hx hb dJ0_coder_7d493_10 (by decide) ?_
  exact zNret () (by decide) hx hb hr hlocks hK hP hD hS dJ0_coder_7d493_14 (show nI (0) = nI (0) from rfl)
abbrev rmJ0_length_8abf5_t : Room := { frames := 1, cells := 0, slots := 0, locals := 20 }
theorem in_J0_length_8abf5_t_J0 : ∀ w ∈ u_ws RJ0 TJ0 4, w ∈ wsJ0_length_8abf5 := by decide +kernel
set_option maxHeartbeats 4000000 in
set_option maxRecDepth 100000 in
theorem kJ0_length_8abf5_t {D : va_G} {g : XG} {ct : Nat → ClassId} {l : Launch} (sb : Nat → Nat) (sz : SST) (R : va_W)  : MX D ct g l yJ0_length_8abf5 wsJ0_length_8abf5 rmJ0_length_8abf5_t (SW ct sb sz R) [.ref (sb 0)] (QI D ct (fun r0 (_ : Unit) => r0 = nI (s_n sz)) (fun _ : Unit => SW ct sb sz R)) := by
  refine MXof (cc := cJ0_length_8abf5) (maxL := 1) (ret := (some .int)) (by decide) rfl (Nat.le_of_ble_eq_true rfl) ?_
  intro p e s m args below meth c A H locs F hP hK hD hS hA hX ls hl
  obtain ⟨hx, hb, hr, hlocks, hml, hown, hts, hin⟩ := F
  have hl : lv_has ls 1 [(0, .ref (sb 0))] := hl
  have h_J0 := in_J0_length_8abf5_t_J0
  refine lv_aload_n hx hb dJ0_length_8abf5_0 rfl (lv_at hl 0 rfl) ?_
  refine va_get (ci := 10) (v := .ref (s_q sz)) hx hb hts h_J0 hown hK hP 0 rfl rfl 0 (by decide) (hts (.fieldLink RJ0 9 "java/lang/String" "value" "[B") (by decide +kernel)) (fun _ h9 => h9) rfl dJ0_length_8abf5_1 ?_
  refine va_alen (x := (s_n sz, _)) (v := nI (s_n sz)) hx hb hK hP 1 4 rfl rfl rfl dJ0_length_8abf5_4 ?_
  refine lv_aload_n hx hb dJ0_length_8abf5_5 rfl (lv_at hl 0 rfl) ?_
  refine zVIX [] [.int (nI (s_n sz))] (kJ0_coder_7d493_t (sb) (sz) (R)) hx hb hml hown hts (cwV 0 hts gJ0_length_8abf5_J0_coder_7d493 rfl rfl rfl (by decide +kernel) ⟨(Nat.le_of_ble_eq_true rfl), (Nat.le_of_ble_eq_true rfl)⟩) hK hP hD hS hA hX (va_recv hK hP (ci := 10) (q0 := 0) rfl rfl) rfl hl.1 rfl (Nat.le_of_ble_eq_true rfl) dJ0_length_8abf5_6 ⟨(Nat.le_of_ble_eq_true rfl), (Nat.le_of_ble_eq_true rfl)⟩ (fun r_6 _ H locs hr_6 hP hD hS => ?_)
  subst hr_6
  have hP : va_P D vwCl (SW ct sb sz R) H := hP
  have hD : va_D A (SW ct sb sz R) := hD
  refine lv_ishr hx hb dJ0_length_8abf5_9 ?_
  exact zIret () hx hb hr hlocks hK hP hD hS dJ0_length_8abf5_10 (show (nI (s_n sz) >>> (nI (0) &&& 31)) = nI (s_n sz) from (sb_shr0 _))
abbrev rmJ0_isLatin1_aae02_t : Room := { frames := 0, cells := 0, slots := 0, locals := 0 }
theorem in_J0_isLatin1_aae02_t_J0 : ∀ w ∈ u_ws RJ0 TJ0 4, w ∈ wsJ0_isLatin1_aae02 := by decide +kernel
set_option maxHeartbeats 4000000 in
set_option maxRecDepth 100000 in
theorem kJ0_isLatin1_aae02_t {D : va_G} {g : XG} {ct : Nat → ClassId} {l : Launch} (sb : Nat → Nat) (sz : SST) (R : va_W)  : MX D ct g l yJ0_isLatin1_aae02 wsJ0_isLatin1_aae02 rmJ0_isLatin1_aae02_t (SW ct sb sz R) [.ref (sb 0)] (QI D ct (fun r0 (_ : Unit) => r0 = nI (1)) (fun _ : Unit => SW ct sb sz R)) := by
  refine MXof (cc := cJ0_isLatin1_aae02) (maxL := 1) (ret := (some .boolean)) (by decide) rfl (Nat.le_of_ble_eq_true rfl) ?_
  intro p e s m args below meth c A H locs F hP hK hD hS hA hX ls hl
  obtain ⟨hx, hb, hr, hlocks, hml, hown, hts, hin⟩ := F
  have hl : lv_has ls 1 [(0, .ref (sb 0))] := hl
  have h_J0 := in_J0_isLatin1_aae02_t_J0
  refine va_gets (v := .int (nI 1)) hx hb hX.g8 hS hown (hts (.fieldLink RJ0 38 "java/lang/String" "COMPACT_STRINGS" "Z") (by decide +kernel)) (fun _ h => h) dJ0_isLatin1_aae02_0 ?_
  refine lv_if_eq (tgt := 17) hx hb dJ0_isLatin1_aae02_3 (by decide) (fun c9 => absurd c9 (by decide)) (fun c9 => ?_)
  refine lv_aload_n hx hb dJ0_isLatin1_aae02_6 rfl (lv_at hl 0 rfl) ?_
  refine va_get (ci := 10) (v := .int (nI (0))) hx hb hts h_J0 hown hK hP 0 rfl rfl 1 (by decide) (hts (.fieldLink RJ0 15 "java/lang/String" "coder" "B") (by decide +kernel)) (fun _ h9 => h9) rfl dJ0_isLatin1_aae02_7 ?_
  refine lv_if_ne (tgt := 17) hx hb dJ0_isLatin1_aae02_10 (by decide) (fun c9 => absurd (by decide) c9) (fun c9 => ?_)
  refine lv_iconst (v := nI (1)) hx hb dJ0_isLatin1_aae02_13 (by decide) ?_
  refine lv_goto (tgt := 18) hx hb dJ0_isLatin1_aae02_14 (by decide) ?_
  exact zZret () (by decide) hx hb hr hlocks hK hP hD hS dJ0_isLatin1_aae02_18 (show nI (1) = nI (1) from rfl)
abbrev rmJ1_charAt_3b067_t : Room := { frames := 2, cells := 0, slots := 0, locals := 43 }
set_option maxHeartbeats 4000000 in
set_option maxRecDepth 100000 in
theorem kJ1_charAt_3b067_t {D : va_G} {g : XG} {ct : Nat → ClassId} {l : Launch} (sb : Nat → Nat) (sz : SST) (R : va_W) (k : Nat) (tx : List Nat) (hT : SR tx sz) (hk : k < tx.length) : MX D ct g l yJ1_charAt_3b067 wsJ1_charAt_3b067 rmJ1_charAt_3b067_t (SW ct sb sz R) [.ref (s_q sz), .int (nI (k))] (QI D ct (fun r0 (_ : Unit) => r0 = nI (tx.getD k 0)) (fun _ : Unit => SW ct sb sz R)) := by
  refine MXof (cc := cJ1_charAt_3b067) (maxL := 2) (ret := (some .char)) (by decide) rfl (Nat.le_of_ble_eq_true rfl) ?_
  intro p e s m args below meth c A H locs F hP hK hD hS hA hX ls hl
  obtain ⟨hx, hb, hr, hlocks, hml, hown, hts, hin⟩ := F
  have hl : lv_has ls 2 [(0, .ref (s_q sz)), (1, .int (nI (k)))] := hl
  have ht1 := hT.1
  have ht2 := hT.2.1
  refine lv_iload_n hx hb dJ1_charAt_3b067_0 rfl (lv_at hl 1 rfl) ?_
  refine lv_aload_n hx hb dJ1_charAt_3b067_1 rfl (lv_at hl 0 rfl) ?_
  refine va_alen (x := (s_n sz, _)) (v := nI (s_n sz)) hx hb hK hP 1 4 rfl rfl rfl dJ1_charAt_3b067_2 ?_
  refine zSVX [.int (nI (k)), .int (nI (s_n sz))] [] (kJ0_checkIndex_df160 (SW ct sb sz R) (k) (s_n sz) (show (k) < (s_n sz) from (by have := hT.1; omega)) (show (s_n sz) < 2 ^ 31 from (by have := hT.1; have := hT.2.1; omega))) hx hb hml hown hts (va_cwS 2 hts gJ1_charAt_3b067_J0_checkIndex_df160 rfl rfl rfl (by decide +kernel) ⟨(Nat.le_of_ble_eq_true rfl), (Nat.le_of_ble_eq_true rfl)⟩) hK hP hD hS hA hX rfl hl.1 rfl (Nat.le_of_ble_eq_true rfl) dJ1_charAt_3b067_3 ⟨(Nat.le_of_ble_eq_true rfl), (Nat.le_of_ble_eq_true rfl)⟩ (fun _ H locs hr_3 hP hD hS => ?_)
  have hP : va_P D vwCl (SW ct sb sz R) H := hP
  have hD : va_D A (SW ct sb sz R) := hD
  refine lv_aload_n hx hb dJ1_charAt_3b067_6 rfl (lv_at hl 0 rfl) ?_
  refine lv_iload_n hx hb dJ1_charAt_3b067_7 rfl (lv_at hl 1 rfl) ?_
  refine zBald (n := s_n sz) (f := s_f sz) (i := k) hx hb hK hP 1 rfl (by have := hT.1; omega) (by omega) dJ1_charAt_3b067_8 ?_
  refine lv_sipush (v := nI (255)) hx hb dJ1_charAt_3b067_9 (by decide) ?_
  refine lv_iand hx hb dJ1_charAt_3b067_12 ?_
  refine lv_i2c (v := nI (tx.getD k 0)) hx hb dJ1_charAt_3b067_13 (by rw [(hT.2.2.2 k hk).1]; exact sb_and (hT.2.2.2 k hk).2) ?_
  exact zNret () (ch_nar (by have := (hT.2.2.2 k hk).2; omega)) hx hb hr hlocks hK hP hD hS dJ1_charAt_3b067_14 (show nI (tx.getD k 0) = nI (tx.getD k 0) from rfl)
abbrev rmJ0_charAt_5068e_t : Room := { frames := 3, cells := 0, slots := 0, locals := 64 }
theorem in_J0_charAt_5068e_t_J0 : ∀ w ∈ u_ws RJ0 TJ0 4, w ∈ wsJ0_charAt_5068e := by decide +kernel
set_option maxHeartbeats 4000000 in
set_option maxRecDepth 100000 in
theorem kJ0_charAt_5068e_t {D : va_G} {g : XG} {ct : Nat → ClassId} {l : Launch} (sb : Nat → Nat) (sz : SST) (R : va_W) (k : Nat) (tx : List Nat) (hT : SR tx sz) (hk : k < tx.length) : MX D ct g l yJ0_charAt_5068e wsJ0_charAt_5068e rmJ0_charAt_5068e_t (SW ct sb sz R) [.ref (sb 0), .int (nI (k))] (QI D ct (fun r0 (_ : Unit) => r0 = nI (tx.getD k 0)) (fun _ : Unit => SW ct sb sz R)) := by
  refine MXof (cc := cJ0_charAt_5068e) (maxL := 2) (ret := (some .char)) (by decide) rfl (Nat.le_of_ble_eq_true rfl) ?_
  intro p e s m args below meth c A H locs F hP hK hD hS hA hX ls hl
  obtain ⟨hx, hb, hr, hlocks, hml, hown, hts, hin⟩ := F
  have hl : lv_has ls 2 [(0, .ref (sb 0)), (1, .int (nI (k)))] := hl
  have h_J0 := in_J0_charAt_5068e_t_J0
  refine lv_aload_n hx hb dJ0_charAt_5068e_0 rfl (lv_at hl 0 rfl) ?_
  refine zVIX [] [] (kJ0_isLatin1_aae02_t (sb) (sz) (R)) hx hb hml hown hts (cwV 0 hts gJ0_charAt_5068e_J0_isLatin1_aae02 rfl rfl rfl (by decide +kernel) ⟨(Nat.le_of_ble_eq_true rfl), (Nat.le_of_ble_eq_true rfl)⟩) hK hP hD hS hA hX (va_recv hK hP (ci := 10) (q0 := 0) rfl rfl) rfl hl.1 rfl (Nat.le_of_ble_eq_true rfl) dJ0_charAt_5068e_1 ⟨(Nat.le_of_ble_eq_true rfl), (Nat.le_of_ble_eq_true rfl)⟩ (fun r_1 _ H locs hr_1 hP hD hS => ?_)
  subst hr_1
  have hP : va_P D vwCl (SW ct sb sz R) H := hP
  have hD : va_D A (SW ct sb sz R) := hD
  refine lv_if_eq (tgt := 16) hx hb dJ0_charAt_5068e_4 (by decide) (fun c9 => absurd c9 (by decide)) (fun c9 => ?_)
  refine lv_aload_n hx hb dJ0_charAt_5068e_7 rfl (lv_at hl 0 rfl) ?_
  refine va_get (ci := 10) (v := .ref (s_q sz)) hx hb hts h_J0 hown hK hP 0 rfl rfl 0 (by decide) (hts (.fieldLink RJ0 9 "java/lang/String" "value" "[B") (by decide +kernel)) (fun _ h9 => h9) rfl dJ0_charAt_5068e_8 ?_
  refine lv_iload_n hx hb dJ0_charAt_5068e_11 rfl (lv_at hl 1 rfl) ?_
  refine zSIX [.ref (s_q sz), .int (nI (k))] [] (kJ1_charAt_3b067_t (sb) (sz) (R) (k) (tx) (show SR (tx) sz from hT) (show (k) < (tx).length from hk)) hx hb hml hown hts (va_cwS 2 hts gJ0_charAt_5068e_J1_charAt_3b067 rfl rfl rfl (by decide +kernel) ⟨(Nat.le_of_ble_eq_true rfl), (Nat.le_of_ble_eq_true rfl)⟩) hK hP hD hS hA hX rfl hl.1 rfl (Nat.le_of_ble_eq_true rfl) dJ0_charAt_5068e_12 ⟨(Nat.le_of_ble_eq_true rfl), (Nat.le_of_ble_eq_true rfl)⟩ (fun r_12 _ H locs hr_12 hP hD hS => ?_)
  subst hr_12
  have hP : va_P D vwCl (SW ct sb sz R) H := hP
  have hD : va_D A (SW ct sb sz R) := hD
  exact zNret () (ch_nar (by have := (hT.2.2.2 k hk).2; omega)) hx hb hr hlocks hK hP hD hS dJ0_charAt_5068e_15 (show nI ((tx).getD (k) 0) = nI (tx.getD k 0) from rfl)
abbrev rmJ0_getBytes_840e7_c : Room := { frames := 1, cells := 0, slots := 0, locals := 40 }
set_option maxHeartbeats 4000000 in
set_option maxRecDepth 100000 in
theorem kJ0_getBytes_840e7_c {D : va_G} {g : XG} {ct : Nat → ClassId} {l : Launch} (lb : Nat → Nat) (lz : LST) (R : va_W) (at9 : Nat) (zi : Nat) (hi : zi < 9) (hat : at9 + (fmL zi).length ≤ l_m lz) (h70 : l_m lz ≤ 70) : MX D ct g l yJ0_getBytes_840e7 wsJ0_getBytes_840e7 rmJ0_getBytes_840e7_c (LW ct lb lz R) [.ref (xK g zi), .ref (l_q lz), .int (nI (at9)), .int (nI (0))] (QV D ct (fun _ : Unit => True) (fun _ : Unit => LW ct lb (l_q lz, l_m lz, (va_cpy (kF zi) (l_f lz) 0 at9 (fmL zi).length), l_n lz, l_ml lz) R)) := by
  refine MXof (cc := cJ0_getBytes_840e7) (maxL := 4) (ret := none) (by decide) rfl (Nat.le_of_ble_eq_true rfl) ?_
  intro p e s m args below meth c A H locs F hP hK hD hS hA hX ls hl
  obtain ⟨hx, hb, hr, hlocks, hml, hown, hts, hin⟩ := F
  have hl : lv_has ls 4 [(0, .ref (xK g zi)), (1, .ref (l_q lz)), (2, .int (nI (at9))), (3, .int (nI (0)))] := hl
  refine lv_aload_n hx hb dJ0_getBytes_840e7_0 rfl (lv_at hl 0 rfl) ?_
  refine zVIX [] [] (kJ0_coder_7d493 (LW ct lb lz R) (zi) (show (zi) < 9 from hi)) hx hb hml hown hts (cwV 0 hts gJ0_getBytes_840e7_J0_coder_7d493 rfl rfl rfl (by decide +kernel) ⟨(Nat.le_of_ble_eq_true rfl), (Nat.le_of_ble_eq_true rfl)⟩) hK hP hD hS hA hX (vk_recv (i := zi) hX.g1 hi hS) rfl hl.1 rfl (Nat.le_of_ble_eq_true rfl) dJ0_getBytes_840e7_1 ⟨(Nat.le_of_ble_eq_true rfl), (Nat.le_of_ble_eq_true rfl)⟩ (fun r_1 _ H locs hr_1 hP hD hS => ?_)
  subst hr_1
  have hP : va_P D vwCl (LW ct lb lz R) H := hP
  have hD : va_D A (LW ct lb lz R) := hD
  refine lv_iload_n hx hb dJ0_getBytes_840e7_4 rfl (lv_at hl 3 rfl) ?_
  refine lv_icmp_ne (tgt := 28) hx hb dJ0_getBytes_840e7_5 (by decide) (fun c9 => absurd (by decide) c9) (fun c9 => ?_)
  refine lv_aload_n hx hb dJ0_getBytes_840e7_8 rfl (lv_at hl 0 rfl) ?_
  refine vk_getf (v := .ref (xV g zi)) hx hb (hX.g1.1 zi hi).2.2.1 hS hown (hts (.fieldLink RJ0 9 "java/lang/String" "value" "[B") (by decide +kernel)) (fun _ h => h) dJ0_getBytes_840e7_9 ?_
  refine lv_iconst (v := nI (0)) hx hb dJ0_getBytes_840e7_12 (by decide) ?_
  refine lv_aload_n hx hb dJ0_getBytes_840e7_13 rfl (lv_at hl 1 rfl) ?_
  refine lv_iload_n hx hb dJ0_getBytes_840e7_14 rfl (lv_at hl 2 rfl) ?_
  refine lv_iload_n hx hb dJ0_getBytes_840e7_15 rfl (lv_at hl 3 rfl) ?_
  refine lv_ishl hx hb dJ0_getBytes_840e7_16 ?_
  refine zTop (y := nI (at9)) (sb_shl0 _) ?_
  refine lv_aload_n hx hb dJ0_getBytes_840e7_17 rfl (lv_at hl 0 rfl) ?_
  refine vk_getf (v := .ref (xV g zi)) hx hb (hX.g1.1 zi hi).2.2.1 hS hown (hts (.fieldLink RJ0 9 "java/lang/String" "value" "[B") (by decide +kernel)) (fun _ h => h) dJ0_getBytes_840e7_18 ?_
  refine va_tlen (v := nI ((fmL zi).length)) hx hb (hX.g1.1 zi hi).2.2.2 hS (by rw [fm_len hi]; rfl) dJ0_getBytes_840e7_21 ?_
  refine zCopyK (i := zi) (n1 := l_m lz) (dp := at9) (g0 := l_f lz) hx hb (hml.trans hl.1.symm) hown (hts (.methodLink RJ0 212 arraycopyName) (by decide +kernel)) (hts (.native arraycopyName) (by decide +kernel)) (hts (.static arraycopyName) (by decide +kernel)) (hts (.initialized "java/lang/System") (by decide +kernel)) hK hP hD hS hX hi 1 rfl (by omega) (by omega) (Nat.le_of_ble_eq_true rfl) (Nat.le_of_ble_eq_true rfl) dJ0_getBytes_840e7_22 (fun H locs hP hD hS => ?_)
  have hP : va_P D vwCl (LW ct lb (l_q lz, l_m lz, (va_cpy (kF zi) (l_f lz) 0 at9 (fmL zi).length), l_n lz, l_ml lz) R) H := hP
  have hD : va_D A (LW ct lb (l_q lz, l_m lz, (va_cpy (kF zi) (l_f lz) 0 at9 (fmL zi).length), l_n lz, l_ml lz) R) := hD
  refine lv_goto (tgt := 43) hx hb dJ0_getBytes_840e7_25 (by decide) ?_
  exact zVret () hx hb hr hlocks hK hP hD hS dJ0_getBytes_840e7_43 trivial
abbrev rmJ0_getBytes_840e7_t : Room := { frames := 1, cells := 0, slots := 0, locals := 40 }
theorem in_J0_getBytes_840e7_t_J0 : ∀ w ∈ u_ws RJ0 TJ0 4, w ∈ wsJ0_getBytes_840e7 := by decide +kernel
set_option maxHeartbeats 4000000 in
set_option maxRecDepth 100000 in
theorem kJ0_getBytes_840e7_t {D : va_G} {g : XG} {ct : Nat → ClassId} {l : Launch} (lb : Nat → Nat) (lz : LST) (sb : Nat → Nat) (sz : SST) (R : va_W) (at9 : Nat) (hat : at9 + s_n sz ≤ l_m lz) (h70 : l_m lz ≤ 70) (hft : sb_Fit (s_f sz)) : MX D ct g l yJ0_getBytes_840e7 wsJ0_getBytes_840e7 rmJ0_getBytes_840e7_t (LW ct lb lz (SW ct sb sz R)) [.ref (sb 0), .ref (l_q lz), .int (nI (at9)), .int (nI (0))] (QV D ct (fun _ : Unit => True) (fun _ : Unit => LW ct lb (l_q lz, l_m lz, (va_cpy (s_f sz) (l_f lz) 0 at9 (s_n sz)), l_n lz, l_ml lz) (SW ct sb sz R))) := by
  refine MXof (cc := cJ0_getBytes_840e7) (maxL := 4) (ret := none) (by decide) rfl (Nat.le_of_ble_eq_true rfl) ?_
  intro p e s m args below meth c A H locs F hP hK hD hS hA hX ls hl
  obtain ⟨hx, hb, hr, hlocks, hml, hown, hts, hin⟩ := F
  have hl : lv_has ls 4 [(0, .ref (sb 0)), (1, .ref (l_q lz)), (2, .int (nI (at9))), (3, .int (nI (0)))] := hl
  have h_J0 := in_J0_getBytes_840e7_t_J0
  refine lv_aload_n hx hb dJ0_getBytes_840e7_0 rfl (lv_at hl 0 rfl) ?_
  have hP : va_P D vwCl (SW ct sb sz (LW ct lb lz R)) H := zPp (zMv1 (LW ct lb lz []) (SW ct sb sz []) (R)) hP
  have hD : va_D A (SW ct sb sz (LW ct lb lz R)) := zDp (zMv1 (LW ct lb lz []) (SW ct sb sz []) (R)) hD
  refine zVIX [] [] (kJ0_coder_7d493_t (sb) (sz) (LW ct lb lz R)) hx hb hml hown hts (cwV 0 hts gJ0_getBytes_840e7_J0_coder_7d493 rfl rfl rfl (by decide +kernel) ⟨(Nat.le_of_ble_eq_true rfl), (Nat.le_of_ble_eq_true rfl)⟩) hK hP hD hS hA hX (va_recv hK hP (ci := 10) (q0 := 0) rfl rfl) rfl hl.1 rfl (Nat.le_of_ble_eq_true rfl) dJ0_getBytes_840e7_1 ⟨(Nat.le_of_ble_eq_true rfl), (Nat.le_of_ble_eq_true rfl)⟩ (fun r_1 _ H locs hr_1 hP hD hS => ?_)
  subst hr_1
  have hP : va_P D vwCl (SW ct sb sz (LW ct lb lz R)) H := hP
  have hD : va_D A (SW ct sb sz (LW ct lb lz R)) := hD
  have hP : va_P D vwCl (LW ct lb lz (SW ct sb sz R)) H := zPp (zMv1 (LW ct lb lz []) (SW ct sb sz []) (R)).symm hP
  have hD : va_D A (LW ct lb lz (SW ct sb sz R)) := zDp (zMv1 (LW ct lb lz []) (SW ct sb sz []) (R)).symm hD
  refine lv_iload_n hx hb dJ0_getBytes_840e7_4 rfl (lv_at hl 3 rfl) ?_
  refine lv_icmp_ne (tgt := 28) hx hb dJ0_getBytes_840e7_5 (by decide) (fun c9 => absurd (by decide) c9) (fun c9 => ?_)
  refine lv_aload_n hx hb dJ0_getBytes_840e7_8 rfl (lv_at hl 0 rfl) ?_
  refine va_get (ci := 10) (v := .ref (s_q sz)) hx hb hts h_J0 hown hK hP 2 rfl rfl 0 (by decide) (hts (.fieldLink RJ0 9 "java/lang/String" "value" "[B") (by decide +kernel)) (fun _ h9 => h9) rfl dJ0_getBytes_840e7_9 ?_
  refine lv_iconst (v := nI (0)) hx hb dJ0_getBytes_840e7_12 (by decide) ?_
  refine lv_aload_n hx hb dJ0_getBytes_840e7_13 rfl (lv_at hl 1 rfl) ?_
  refine lv_iload_n hx hb dJ0_getBytes_840e7_14 rfl (lv_at hl 2 rfl) ?_
  refine lv_iload_n hx hb dJ0_getBytes_840e7_15 rfl (lv_at hl 3 rfl) ?_
  refine lv_ishl hx hb dJ0_getBytes_840e7_16 ?_
  refine zTop (y := nI (at9)) (sb_shl0 _) ?_
  refine lv_aload_n hx hb dJ0_getBytes_840e7_17 rfl (lv_at hl 0 rfl) ?_
  refine va_get (ci := 10) (v := .ref (s_q sz)) hx hb hts h_J0 hown hK hP 2 rfl rfl 0 (by decide) (hts (.fieldLink RJ0 9 "java/lang/String" "value" "[B") (by decide +kernel)) (fun _ h9 => h9) rfl dJ0_getBytes_840e7_18 ?_
  refine va_alen (x := (s_n sz, _)) (v := nI (s_n sz)) hx hb hK hP 3 4 rfl rfl rfl dJ0_getBytes_840e7_21 ?_
  refine zCopyO (n0 := s_n sz) (n1 := l_m lz) (n := s_n sz) (dp := at9) (f := s_f sz) (g0 := l_f lz) hx hb (hml.trans hl.1.symm) hown (hts (.methodLink RJ0 212 arraycopyName) (by decide +kernel)) (hts (.native arraycopyName) (by decide +kernel)) (hts (.static arraycopyName) (by decide +kernel)) (hts (.initialized "java/lang/System") (by decide +kernel)) hK hP hD hS 3 1 rfl rfl (Nat.le_refl _) (by omega) (by omega) hft (Nat.le_of_ble_eq_true rfl) (Nat.le_of_ble_eq_true rfl) dJ0_getBytes_840e7_22 (fun H locs hP hD hS => ?_)
  have hP : va_P D vwCl (LW ct lb (l_q lz, l_m lz, (va_cpy (s_f sz) (l_f lz) 0 at9 (s_n sz)), l_n lz, l_ml lz) (SW ct sb sz R)) H := hP
  have hD : va_D A (LW ct lb (l_q lz, l_m lz, (va_cpy (s_f sz) (l_f lz) 0 at9 (s_n sz)), l_n lz, l_ml lz) (SW ct sb sz R)) := hD
  refine lv_goto (tgt := 43) hx hb dJ0_getBytes_840e7_25 (by decide) ?_
  exact zVret () hx hb hr hlocks hK hP hD hS dJ0_getBytes_840e7_43 trivial
abbrev rmJ5_inflateIfNeededFor_a7421_c : Room := { frames := 1, cells := 0, slots := 0, locals := 20 }
theorem in_J5_inflateIfNeededFor_a7421_c_J4 : ∀ w ∈ u_ws RJ4 TJ4 4, w ∈ wsJ5_inflateIfNeededFor_a7421 := by decide +kernel
set_option maxHeartbeats 4000000 in
set_option maxRecDepth 100000 in
theorem kJ5_inflateIfNeededFor_a7421_c {D : va_G} {g : XG} {ct : Nat → ClassId} {l : Launch} (lb : Nat → Nat) (lz : LST) (R : va_W) (zi : Nat) (hi : zi < 9) : MX D ct g l yJ5_inflateIfNeededFor_a7421 wsJ5_inflateIfNeededFor_a7421 rmJ5_inflateIfNeededFor_a7421_c (LW ct lb lz R) [.ref (lb 0), .ref (xK g zi)] (QV D ct (fun _ : Unit => True) (fun _ : Unit => LW ct lb lz R)) := by
  refine MXof (cc := cJ5_inflateIfNeededFor_a7421) (maxL := 2) (ret := none) (by decide) rfl (Nat.le_of_ble_eq_true rfl) ?_
  intro p e s m args below meth c A H locs F hP hK hD hS hA hX ls hl
  obtain ⟨hx, hb, hr, hlocks, hml, hown, hts, hin⟩ := F
  have hl : lv_has ls 2 [(0, .ref (lb 0)), (1, .ref (xK g zi))] := hl
  have h_J4 := in_J5_inflateIfNeededFor_a7421_c_J4
  have f22 := hts (.fieldLink RJ5 22 "java/lang/AbstractStringBuilder" "coder" "B") (by decide +kernel)
  refine va_gets (v := .int (nI 1)) hx hb hX.g8 hS hown (hts (.fieldLink RJ5 18 "java/lang/String" "COMPACT_STRINGS" "Z") (by decide +kernel)) (fun _ h => h) dJ5_inflateIfNeededFor_a7421_0 ?_
  refine lv_if_eq (tgt := 21) hx hb dJ5_inflateIfNeededFor_a7421_3 (by decide) (fun c9 => absurd c9 (by decide)) (fun c9 => ?_)
  refine lv_aload_n hx hb dJ5_inflateIfNeededFor_a7421_6 rfl (lv_at hl 0 rfl) ?_
  refine va_get (ci := 0) (v := .int (nI (0))) hx hb hts h_J4 hown hK hP 0 rfl rfl 1 (by decide) f22 (fun _ h9 => h9) rfl dJ5_inflateIfNeededFor_a7421_7 ?_
  refine lv_aload_n hx hb dJ5_inflateIfNeededFor_a7421_10 rfl (lv_at hl 1 rfl) ?_
  refine zVIX [] [.int (nI (0))] (kJ0_coder_7d493 (LW ct lb lz R) (zi) (show (zi) < 9 from hi)) hx hb hml hown hts (cwV 0 hts gJ5_inflateIfNeededFor_a7421_J0_coder_7d493 rfl rfl rfl (by decide +kernel) ⟨(Nat.le_of_ble_eq_true rfl), (Nat.le_of_ble_eq_true rfl)⟩) hK hP hD hS hA hX (vk_recv (i := zi) hX.g1 hi hS) rfl hl.1 rfl (Nat.le_of_ble_eq_true rfl) dJ5_inflateIfNeededFor_a7421_11 ⟨(Nat.le_of_ble_eq_true rfl), (Nat.le_of_ble_eq_true rfl)⟩ (fun r_11 _ H locs hr_11 hP hD hS => ?_)
  subst hr_11
  have hP : va_P D vwCl (LW ct lb lz R) H := hP
  have hD : va_D A (LW ct lb lz R) := hD
  refine lv_icmp_eq (tgt := 21) hx hb dJ5_inflateIfNeededFor_a7421_14 (by decide) (fun c9 => ?_) (fun c9 => absurd (by decide) c9)
  exact zVret () hx hb hr hlocks hK hP hD hS dJ5_inflateIfNeededFor_a7421_21 trivial
abbrev rmJ5_putStringAt_47b60_c : Room := { frames := 2, cells := 0, slots := 0, locals := 63 }
theorem in_J5_putStringAt_47b60_c_J4 : ∀ w ∈ u_ws RJ4 TJ4 4, w ∈ wsJ5_putStringAt_47b60 := by decide +kernel
set_option maxHeartbeats 4000000 in
set_option maxRecDepth 100000 in
theorem kJ5_putStringAt_47b60_c {D : va_G} {g : XG} {ct : Nat → ClassId} {l : Launch} (lb : Nat → Nat) (lz : LST) (R : va_W) (at9 : Nat) (zi : Nat) (hi : zi < 9) (hat : at9 + (fmL zi).length ≤ l_m lz) (h70 : l_m lz ≤ 70) : MX D ct g l yJ5_putStringAt_47b60 wsJ5_putStringAt_47b60 rmJ5_putStringAt_47b60_c (LW ct lb lz R) [.ref (lb 0), .int (nI (at9)), .ref (xK g zi)] (QV D ct (fun _ : Unit => True) (fun _ : Unit => LW ct lb (l_q lz, l_m lz, (va_cpy (kF zi) (l_f lz) 0 at9 (fmL zi).length), l_n lz, l_ml lz) R)) := by
  refine MXof (cc := cJ5_putStringAt_47b60) (maxL := 3) (ret := none) (by decide) rfl (Nat.le_of_ble_eq_true rfl) ?_
  intro p e s m args below meth c A H locs F hP hK hD hS hA hX ls hl
  obtain ⟨hx, hb, hr, hlocks, hml, hown, hts, hin⟩ := F
  have hl : lv_has ls 3 [(0, .ref (lb 0)), (1, .int (nI (at9))), (2, .ref (xK g zi))] := hl
  have h_J4 := in_J5_putStringAt_47b60_c_J4
  have f15 := hts (.fieldLink RJ5 15 "java/lang/AbstractStringBuilder" "value" "[B") (by decide +kernel)
  have f22 := hts (.fieldLink RJ5 22 "java/lang/AbstractStringBuilder" "coder" "B") (by decide +kernel)
  refine lv_aload_n hx hb dJ5_putStringAt_47b60_0 rfl (lv_at hl 0 rfl) ?_
  refine lv_aload_n hx hb dJ5_putStringAt_47b60_1 rfl (lv_at hl 2 rfl) ?_
  refine zUVX [.ref (xK g zi)] [] (kJ5_inflateIfNeededFor_a7421_c (lb) (lz) (R) (zi) (show (zi) < 9 from hi)) hx hb hml hown hts (va_cwU 1 hts gJ5_putStringAt_47b60_J5_inflateIfNeededFor_a7421_u397J4 rfl rfl rfl rfl (by decide +kernel) ⟨(Nat.le_of_ble_eq_true rfl), (Nat.le_of_ble_eq_true rfl)⟩) hK hP hD hS hA hX (va_recv hK hP (ci := 0) (q0 := 0) rfl rfl) rfl hl.1 rfl (Nat.le_of_ble_eq_true rfl) dJ5_putStringAt_47b60_2 ⟨(Nat.le_of_ble_eq_true rfl), (Nat.le_of_ble_eq_true rfl)⟩ (fun _ H locs hr_2 hP hD hS => ?_)
  have hP : va_P D vwCl (LW ct lb lz R) H := hP
  have hD : va_D A (LW ct lb lz R) := hD
  refine lv_aload_n hx hb dJ5_putStringAt_47b60_5 rfl (lv_at hl 2 rfl) ?_
  refine lv_aload_n hx hb dJ5_putStringAt_47b60_6 rfl (lv_at hl 0 rfl) ?_
  refine va_get (ci := 0) (v := .ref (l_q lz)) hx hb hts h_J4 hown hK hP 0 rfl rfl 0 (by decide) f15 (fun _ h9 => h9) rfl dJ5_putStringAt_47b60_7 ?_
  refine lv_iload_n hx hb dJ5_putStringAt_47b60_10 rfl (lv_at hl 1 rfl) ?_
  refine lv_aload_n hx hb dJ5_putStringAt_47b60_11 rfl (lv_at hl 0 rfl) ?_
  refine va_get (ci := 0) (v := .int (nI (0))) hx hb hts h_J4 hown hK hP 0 rfl rfl 1 (by decide) f22 (fun _ h9 => h9) rfl dJ5_putStringAt_47b60_12 ?_
  refine zVVX [.ref (l_q lz), .int (nI (at9)), .int (nI (0))] [] (kJ0_getBytes_840e7_c (lb) (lz) (R) (at9) (zi) (show (zi) < 9 from hi) (show (at9) + (fmL (zi)).length ≤ l_m lz from hat) (show l_m lz ≤ 70 from h70)) hx hb hml hown hts (cwV 3 hts gJ5_putStringAt_47b60_J0_getBytes_840e7 rfl rfl rfl (by decide +kernel) ⟨(Nat.le_of_ble_eq_true rfl), (Nat.le_of_ble_eq_true rfl)⟩) hK hP hD hS hA hX (vk_recv (i := zi) hX.g1 hi hS) rfl hl.1 rfl (Nat.le_of_ble_eq_true rfl) dJ5_putStringAt_47b60_15 ⟨(Nat.le_of_ble_eq_true rfl), (Nat.le_of_ble_eq_true rfl)⟩ (fun _ H locs hr_15 hP hD hS => ?_)
  have hP : va_P D vwCl (LW ct lb ((l_q lz), (l_m lz), (va_cpy (kF (zi)) (l_f lz) 0 (at9) (fmL (zi)).length), (l_n lz), (l_ml lz)) R) H := hP
  have hD : va_D A (LW ct lb ((l_q lz), (l_m lz), (va_cpy (kF (zi)) (l_f lz) 0 (at9) (fmL (zi)).length), (l_n lz), (l_ml lz)) R) := hD
  exact zVret () hx hb hr hlocks hK hP hD hS dJ5_putStringAt_47b60_18 trivial
abbrev rmJ5_append_cf1ce_c : Room := { frames := 4, cells := 1, slots := 70, locals := 100 }
theorem in_J5_append_cf1ce_c_J4 : ∀ w ∈ u_ws RJ4 TJ4 4, w ∈ wsJ5_append_cf1ce := by decide +kernel
set_option maxHeartbeats 4000000 in
set_option maxRecDepth 100000 in
theorem kJ5_append_cf1ce_c {D : va_G} {g : XG} {ct : Nat → ClassId} {l : Launch} (lb : Nat → Nat) (lz : LST) (R : va_W) (tx : List Nat) (zi : Nat) (hi : zi < 9) (hL : LR tx lz) (h34 : tx.length + (fmL zi).length ≤ 34) : MX D ct g l yJ5_append_cf1ce wsJ5_append_cf1ce rmJ5_append_cf1ce_c (LW ct lb lz R) [.ref (lb 0), .ref (xK g zi)] (QR D ct (fun u : LST => LR (tx ++ (fmL zi)) u) (fun _ : LST => lb 0) (fun u : LST => LW ct lb u R)) := by
  refine MXof (cc := cJ5_append_cf1ce) (maxL := 3) (ret := (some (.object "java/lang/AbstractStringBuilder"))) (by decide) rfl (Nat.le_of_ble_eq_true rfl) ?_
  intro p e s m args below meth c A H locs F hP hK hD hS hA hX ls hl
  obtain ⟨hx, hb, hr, hlocks, hml, hown, hts, hin⟩ := F
  have hl : lv_has ls 3 [(0, .ref (lb 0)), (1, .ref (xK g zi))] := hl
  obtain ⟨hl1, hl2, hl3, hl4, hl5⟩ := hL
  have h70 := hl2.le
  have h12 := fm_12 hi
  have h16 : 16 ≤ l_m lz := by rcases hl2 with h | h | h <;> omega
  have h_J4 := in_J5_append_cf1ce_c_J4
  have f79 := hts (.fieldLink RJ5 79 "java/lang/AbstractStringBuilder" "count" "I") (by decide +kernel)
  refine lv_aload_n hx hb dJ5_append_cf1ce_0 rfl (lv_at hl 1 rfl) ?_
  refine lv_ifnonnull (tgt := 9) hx hb dJ5_append_cf1ce_1 (by decide) ?_
  refine lv_aload_n hx hb dJ5_append_cf1ce_9 rfl (lv_at hl 1 rfl) ?_
  refine zVIX [] [] (kJ0_length_8abf5 (LW ct lb lz R) (zi) (show (zi) < 9 from hi)) hx hb hml hown hts (cwV 0 hts gJ5_append_cf1ce_J0_length_8abf5 rfl rfl rfl (by decide +kernel) ⟨(Nat.le_of_ble_eq_true rfl), (Nat.le_of_ble_eq_true rfl)⟩) hK hP hD hS hA hX (vk_recv (i := zi) hX.g1 hi hS) rfl hl.1 rfl (Nat.le_of_ble_eq_true rfl) dJ5_append_cf1ce_10 ⟨(Nat.le_of_ble_eq_true rfl), (Nat.le_of_ble_eq_true rfl)⟩ (fun r_10 _ H locs hr_10 hP hD hS => ?_)
  subst hr_10
  have hP : va_P D vwCl (LW ct lb lz R) H := hP
  have hD : va_D A (LW ct lb lz R) := hD
  refine lv_istore_n (lv' := [(2, .int (nI ((fmL (zi)).length))), (0, .ref (lb 0)), (1, .ref (xK g zi))]) hx hb dJ5_append_cf1ce_13 rfl hl (by decide) rfl (fun ls hl => ?_)
  refine lv_aload_n hx hb dJ5_append_cf1ce_14 rfl (lv_at hl 1 rfl) ?_
  refine lv_aload_n hx hb dJ5_append_cf1ce_15 rfl (lv_at hl 1 rfl) ?_
  refine va_get (ci := 0) (v := .int (nI (l_n lz))) hx hb hts h_J4 hown hK hP 0 rfl rfl 3 (by decide) f79 (fun _ h9 => h9) rfl dJ5_append_cf1ce_16 ?_
  refine lv_iload_n hx hb dJ5_append_cf1ce_19 rfl (lv_at hl 0 rfl) ?_
  refine zNadd hx hb dJ5_append_cf1ce_20 ?_
  refine zUVX [.int (nI ((l_n lz + (fmL (zi)).length)))] [] (kJ5_ensureCapacityInternal_d00df (lb) (lz) (R) ((l_n lz + (fmL (zi)).length)) (show okc (l_m lz) from hl2) (show sb_Fit (l_f lz) from hl4) (show ((l_n lz + (fmL (zi)).length)) ≤ 60 from (by omega)) (show ((l_n lz + (fmL (zi)).length)) ≤ 2 * l_m lz + 2 from (by omega))) hx hb hml hown hts (va_cwU 1 hts gJ5_append_cf1ce_J5_ensureCapacityInternal_d00df_u100J4 rfl rfl rfl rfl (by decide +kernel) ⟨(Nat.le_of_ble_eq_true rfl), (Nat.le_of_ble_eq_true rfl)⟩) hK hP hD hS hA hX (va_recv hK hP (ci := 0) (q0 := 0) rfl rfl) rfl hl.1 rfl (Nat.le_of_ble_eq_true rfl) dJ5_append_cf1ce_21 ⟨(Nat.le_of_ble_eq_true rfl), (Nat.le_of_ble_eq_true rfl)⟩ (fun u_21 H locs hr_21 hP hD hS => ?_)
  obtain ⟨en1_21, en2_21, en3_21, en4_21, en5_21, en6_21⟩ := hr_21
  have hP : va_P D vwCl (LW ct lb u_21 R) H := hP
  have hD : va_D A (LW ct lb u_21 R) := hD
  have hm70 := en3_21.le
  refine lv_aload_n hx hb dJ5_append_cf1ce_24 rfl (lv_at hl 1 rfl) ?_
  refine lv_aload_n hx hb dJ5_append_cf1ce_25 rfl (lv_at hl 1 rfl) ?_
  refine va_get (ci := 0) (v := .int (nI (l_n u_21))) hx hb hts h_J4 hown hK hP 0 rfl rfl 3 (by decide) f79 (fun _ h9 => h9) rfl dJ5_append_cf1ce_26 ?_
  refine lv_aload_n hx hb dJ5_append_cf1ce_29 rfl (lv_at hl 2 rfl) ?_
  refine zUVX [.int (nI (l_n u_21)), .ref (xK g zi)] [] (kJ5_putStringAt_47b60_c (lb) (u_21) (R) (l_n u_21) (zi) (show (zi) < 9 from hi) (show (l_n u_21) + (fmL (zi)).length ≤ l_m u_21 from (by omega)) (show l_m u_21 ≤ 70 from (by omega))) hx hb hml hown hts (va_cwU 2 hts gJ5_append_cf1ce_J5_putStringAt_47b60_u208J4 rfl rfl rfl rfl (by decide +kernel) ⟨(Nat.le_of_ble_eq_true rfl), (Nat.le_of_ble_eq_true rfl)⟩) hK hP hD hS hA hX (va_recv hK hP (ci := 0) (q0 := 0) rfl rfl) rfl hl.1 rfl (Nat.le_of_ble_eq_true rfl) dJ5_append_cf1ce_30 ⟨(Nat.le_of_ble_eq_true rfl), (Nat.le_of_ble_eq_true rfl)⟩ (fun _ H locs hr_30 hP hD hS => ?_)
  have hP : va_P D vwCl (LW ct lb ((l_q u_21), (l_m u_21), (va_cpy (kF (zi)) (l_f u_21) 0 (l_n u_21) (fmL (zi)).length), (l_n u_21), (l_ml u_21)) R) H := hP
  have hD : va_D A (LW ct lb ((l_q u_21), (l_m u_21), (va_cpy (kF (zi)) (l_f u_21) 0 (l_n u_21) (fmL (zi)).length), (l_n u_21), (l_ml u_21)) R) := hD
  refine lv_aload_n hx hb dJ5_append_cf1ce_33 rfl (lv_at hl 1 rfl) ?_
  refine lv_dup hx hb dJ5_append_cf1ce_34 rfl ?_
  refine va_get (ci := 0) (v := .int (nI ((l_n u_21)))) hx hb hts h_J4 hown hK hP 0 rfl rfl 3 (by decide) f79 (fun _ h9 => h9) rfl dJ5_append_cf1ce_35 ?_
  refine lv_iload_n hx hb dJ5_append_cf1ce_38 rfl (lv_at hl 0 rfl) ?_
  refine zNadd hx hb dJ5_append_cf1ce_39 ?_
  refine va_put (ci := 0) (v := .int (nI (((l_n u_21) + (fmL (zi)).length)))) (ty := .int) hx hb hts h_J4 tyJ4 tyJ4_ok nmJ4 hown hK hP hD hS 0 rfl rfl 3 (by decide) f79 (fun _ h9 => h9) rfl (by decide +kernel) rfl rfl (Nat.le_of_ble_eq_true rfl) dJ5_append_cf1ce_40 (fun H locs hP hD hS => ?_)
  have hP : va_P D vwCl (LW ct lb ((l_q u_21), (l_m u_21), (va_cpy (kF (zi)) (l_f u_21) 0 (l_n u_21) (fmL (zi)).length), ((l_n u_21) + (fmL (zi)).length), (l_ml u_21)) R) H := hP
  have hD : va_D A (LW ct lb ((l_q u_21), (l_m u_21), (va_cpy (kF (zi)) (l_f u_21) 0 (l_n u_21) (fmL (zi)).length), ((l_n u_21) + (fmL (zi)).length), (l_ml u_21)) R) := hD
  have e8 : LW ct lb ((l_q u_21), (l_m u_21), (va_cpy (kF (zi)) (l_f u_21) 0 (l_n u_21) (fmL (zi)).length), ((l_n u_21) + (fmL (zi)).length), (l_ml u_21)) R = LW ct lb (l_q u_21, l_m u_21, va_cpy (kF zi) (l_f u_21) 0 tx.length (fmL zi).length, tx.length + (fmL zi).length, l_ml u_21) R := by rw [show l_n u_21 = tx.length from en1_21.trans hl1]
  have hP : va_P D vwCl (LW ct lb (l_q u_21, l_m u_21, va_cpy (kF zi) (l_f u_21) 0 tx.length (fmL zi).length, tx.length + (fmL zi).length, l_ml u_21) R) H := by rw [← e8]; exact hP
  have hD : va_D A (LW ct lb (l_q u_21, l_m u_21, va_cpy (kF zi) (l_f u_21) 0 tx.length (fmL zi).length, tx.length + (fmL zi).length, l_ml u_21) R) := by rw [← e8]; exact hD
  refine lv_aload_n hx hb dJ5_append_cf1ce_43 rfl (lv_at hl 1 rfl) ?_
  refine W.widen (k := rmJ5_append_cf1ce_c.cells) (n := rmJ5_append_cf1ce_c.slots) (Nat.le_of_ble_eq_true rfl) (Nat.le_of_ble_eq_true rfl) ?_
  exact zRret (ra := fun _ : LST => lb 0) (wf := fun u : LST => LW ct lb u R) (l_q u_21, l_m u_21, va_cpy (kF zi) (l_f u_21) 0 tx.length (fmL zi).length, tx.length + (fmL zi).length, l_ml u_21) (Or.inl ⟨_, rfl⟩) hx hb hr hlocks hK hP hD hS dJ5_append_cf1ce_44 (LR_cat (z := lz) (u := u_21) ⟨hl1, hl2, hl3, hl4, hl5⟩ en3_21 (by omega) en5_21 en6_21 (kF_fit hi) (fun j hj => kF_sb hi hj)) rfl
abbrev rmJ4_append_15ec4_c : Room := { frames := 5, cells := 1, slots := 70, locals := 122 }
set_option maxHeartbeats 4000000 in
set_option maxRecDepth 100000 in
theorem kJ4_append_15ec4_c {D : va_G} {g : XG} {ct : Nat → ClassId} {l : Launch} (lb : Nat → Nat) (lz : LST) (R : va_W) (tx : List Nat) (zi : Nat) (hi : zi < 9) (hL : LR tx lz) (h34 : tx.length + (fmL zi).length ≤ 34) : MX D ct g l yJ4_append_15ec4 wsJ4_append_15ec4 rmJ4_append_15ec4_c (LW ct lb lz R) [.ref (lb 0), .ref (xK g zi)] (QR D ct (fun u : LST => LR (tx ++ (fmL zi)) u) (fun _ : LST => lb 0) (fun u : LST => LW ct lb u R)) := by
  refine MXof (cc := cJ4_append_15ec4) (maxL := 2) (ret := (some (.object "java/lang/StringBuilder"))) (by decide) rfl (Nat.le_of_ble_eq_true rfl) ?_
  intro p e s m args below meth c A H locs F hP hK hD hS hA hX ls hl
  obtain ⟨hx, hb, hr, hlocks, hml, hown, hts, hin⟩ := F
  have hl : lv_has ls 2 [(0, .ref (lb 0)), (1, .ref (xK g zi))] := hl
  refine lv_aload_n hx hb dJ4_append_15ec4_0 rfl (lv_at hl 0 rfl) ?_
  refine lv_aload_n hx hb dJ4_append_15ec4_1 rfl (lv_at hl 1 rfl) ?_
  refine zTRX [.ref (xK g zi)] [] (kJ5_append_cf1ce_c (lb) (lz) (R) (tx) (zi) (show (zi) < 9 from hi) (show LR (tx) lz from hL) (show (tx).length + (fmL (zi)).length ≤ 34 from h34)) hx hb hml hown hts (hK.1 0 _ rfl).2 (va_cwSU 1 hts gJ4_append_15ec4_J5_append_cf1ce_s29 rfl rfl rfl (by decide +kernel) ⟨(Nat.le_of_ble_eq_true rfl), (Nat.le_of_ble_eq_true rfl)⟩) hK hP hD hS hA hX (va_recv hK hP (ci := 0) (q0 := 0) rfl rfl) rfl hl.1 rfl (Nat.le_of_ble_eq_true rfl) dJ4_append_15ec4_2 ⟨(Nat.le_of_ble_eq_true rfl), (Nat.le_of_ble_eq_true rfl)⟩ (fun u_2 H locs hr_2 hP hD hS => ?_)
  have hP : va_P D vwCl (LW ct lb u_2 R) H := hP
  have hD : va_D A (LW ct lb u_2 R) := hD
  refine lv_pop hx hb dJ4_append_15ec4_5 rfl ?_
  refine lv_aload_n hx hb dJ4_append_15ec4_6 rfl (lv_at hl 0 rfl) ?_
  refine W.widen (k := rmJ4_append_15ec4_c.cells) (n := rmJ4_append_15ec4_c.slots) (Nat.le_of_ble_eq_true rfl) (Nat.le_of_ble_eq_true rfl) ?_
  exact zRret (ra := fun _ : LST => lb 0) (wf := fun u : LST => LW ct lb u R) u_2 (Or.inl ⟨_, rfl⟩) hx hb hr hlocks hK hP hD hS dJ4_append_15ec4_7 hr_2 rfl
abbrev rmJ5_inflateIfNeededFor_a7421_t : Room := { frames := 1, cells := 0, slots := 0, locals := 20 }
theorem in_J5_inflateIfNeededFor_a7421_t_J4 : ∀ w ∈ u_ws RJ4 TJ4 4, w ∈ wsJ5_inflateIfNeededFor_a7421 := by decide +kernel
set_option maxHeartbeats 4000000 in
set_option maxRecDepth 100000 in
theorem kJ5_inflateIfNeededFor_a7421_t {D : va_G} {g : XG} {ct : Nat → ClassId} {l : Launch} (lb : Nat → Nat) (lz : LST) (sb : Nat → Nat) (sz : SST) (R : va_W)  : MX D ct g l yJ5_inflateIfNeededFor_a7421 wsJ5_inflateIfNeededFor_a7421 rmJ5_inflateIfNeededFor_a7421_t (LW ct lb lz (SW ct sb sz R)) [.ref (lb 0), .ref (sb 0)] (QV D ct (fun _ : Unit => True) (fun _ : Unit => LW ct lb lz (SW ct sb sz R))) := by
  refine MXof (cc := cJ5_inflateIfNeededFor_a7421) (maxL := 2) (ret := none) (by decide) rfl (Nat.le_of_ble_eq_true rfl) ?_
  intro p e s m args below meth c A H locs F hP hK hD hS hA hX ls hl
  obtain ⟨hx, hb, hr, hlocks, hml, hown, hts, hin⟩ := F
  have hl : lv_has ls 2 [(0, .ref (lb 0)), (1, .ref (sb 0))] := hl
  have h_J4 := in_J5_inflateIfNeededFor_a7421_t_J4
  have f22 := hts (.fieldLink RJ5 22 "java/lang/AbstractStringBuilder" "coder" "B") (by decide +kernel)
  refine va_gets (v := .int (nI 1)) hx hb hX.g8 hS hown (hts (.fieldLink RJ5 18 "java/lang/String" "COMPACT_STRINGS" "Z") (by decide +kernel)) (fun _ h => h) dJ5_inflateIfNeededFor_a7421_0 ?_
  refine lv_if_eq (tgt := 21) hx hb dJ5_inflateIfNeededFor_a7421_3 (by decide) (fun c9 => absurd c9 (by decide)) (fun c9 => ?_)
  refine lv_aload_n hx hb dJ5_inflateIfNeededFor_a7421_6 rfl (lv_at hl 0 rfl) ?_
  refine va_get (ci := 0) (v := .int (nI (0))) hx hb hts h_J4 hown hK hP 0 rfl rfl 1 (by decide) f22 (fun _ h9 => h9) rfl dJ5_inflateIfNeededFor_a7421_7 ?_
  refine lv_aload_n hx hb dJ5_inflateIfNeededFor_a7421_10 rfl (lv_at hl 1 rfl) ?_
  have hP : va_P D vwCl (SW ct sb sz (LW ct lb lz R)) H := zPp (zMv1 (LW ct lb lz []) (SW ct sb sz []) (R)) hP
  have hD : va_D A (SW ct sb sz (LW ct lb lz R)) := zDp (zMv1 (LW ct lb lz []) (SW ct sb sz []) (R)) hD
  refine zVIX [] [.int (nI (0))] (kJ0_coder_7d493_t (sb) (sz) (LW ct lb lz R)) hx hb hml hown hts (cwV 0 hts gJ5_inflateIfNeededFor_a7421_J0_coder_7d493 rfl rfl rfl (by decide +kernel) ⟨(Nat.le_of_ble_eq_true rfl), (Nat.le_of_ble_eq_true rfl)⟩) hK hP hD hS hA hX (va_recv hK hP (ci := 10) (q0 := 0) rfl rfl) rfl hl.1 rfl (Nat.le_of_ble_eq_true rfl) dJ5_inflateIfNeededFor_a7421_11 ⟨(Nat.le_of_ble_eq_true rfl), (Nat.le_of_ble_eq_true rfl)⟩ (fun r_11 _ H locs hr_11 hP hD hS => ?_)
  subst hr_11
  have hP : va_P D vwCl (SW ct sb sz (LW ct lb lz R)) H := hP
  have hD : va_D A (SW ct sb sz (LW ct lb lz R)) := hD
  have hP : va_P D vwCl (LW ct lb lz (SW ct sb sz R)) H := zPp (zMv1 (LW ct lb lz []) (SW ct sb sz []) (R)).symm hP
  have hD : va_D A (LW ct lb lz (SW ct sb sz R)) := zDp (zMv1 (LW ct lb lz []) (SW ct sb sz []) (R)).symm hD
  refine lv_icmp_eq (tgt := 21) hx hb dJ5_inflateIfNeededFor_a7421_14 (by decide) (fun c9 => ?_) (fun c9 => absurd (by decide) c9)
  exact zVret () hx hb hr hlocks hK hP hD hS dJ5_inflateIfNeededFor_a7421_21 trivial
abbrev rmJ5_putStringAt_47b60_t : Room := { frames := 2, cells := 0, slots := 0, locals := 63 }
theorem in_J5_putStringAt_47b60_t_J4 : ∀ w ∈ u_ws RJ4 TJ4 4, w ∈ wsJ5_putStringAt_47b60 := by decide +kernel
set_option maxHeartbeats 4000000 in
set_option maxRecDepth 100000 in
theorem kJ5_putStringAt_47b60_t {D : va_G} {g : XG} {ct : Nat → ClassId} {l : Launch} (lb : Nat → Nat) (lz : LST) (sb : Nat → Nat) (sz : SST) (R : va_W) (at9 : Nat) (hat : at9 + (s_n sz) ≤ l_m lz) (h70 : l_m lz ≤ 70) (hft : sb_Fit (s_f sz)) : MX D ct g l yJ5_putStringAt_47b60 wsJ5_putStringAt_47b60 rmJ5_putStringAt_47b60_t (LW ct lb lz (SW ct sb sz R)) [.ref (lb 0), .int (nI (at9)), .ref (sb 0)] (QV D ct (fun _ : Unit => True) (fun _ : Unit => LW ct lb (l_q lz, l_m lz, (va_cpy (s_f sz) (l_f lz) 0 at9 (s_n sz)), l_n lz, l_ml lz) (SW ct sb sz R))) := by
  refine MXof (cc := cJ5_putStringAt_47b60) (maxL := 3) (ret := none) (by decide) rfl (Nat.le_of_ble_eq_true rfl) ?_
  intro p e s m args below meth c A H locs F hP hK hD hS hA hX ls hl
  obtain ⟨hx, hb, hr, hlocks, hml, hown, hts, hin⟩ := F
  have hl : lv_has ls 3 [(0, .ref (lb 0)), (1, .int (nI (at9))), (2, .ref (sb 0))] := hl
  have h_J4 := in_J5_putStringAt_47b60_t_J4
  have f15 := hts (.fieldLink RJ5 15 "java/lang/AbstractStringBuilder" "value" "[B") (by decide +kernel)
  have f22 := hts (.fieldLink RJ5 22 "java/lang/AbstractStringBuilder" "coder" "B") (by decide +kernel)
  refine lv_aload_n hx hb dJ5_putStringAt_47b60_0 rfl (lv_at hl 0 rfl) ?_
  refine lv_aload_n hx hb dJ5_putStringAt_47b60_1 rfl (lv_at hl 2 rfl) ?_
  refine zUVX [.ref (sb 0)] [] (kJ5_inflateIfNeededFor_a7421_t (lb) (lz) (sb) (sz) (R)) hx hb hml hown hts (va_cwU 1 hts gJ5_putStringAt_47b60_J5_inflateIfNeededFor_a7421_u397J4 rfl rfl rfl rfl (by decide +kernel) ⟨(Nat.le_of_ble_eq_true rfl), (Nat.le_of_ble_eq_true rfl)⟩) hK hP hD hS hA hX (va_recv hK hP (ci := 0) (q0 := 0) rfl rfl) rfl hl.1 rfl (Nat.le_of_ble_eq_true rfl) dJ5_putStringAt_47b60_2 ⟨(Nat.le_of_ble_eq_true rfl), (Nat.le_of_ble_eq_true rfl)⟩ (fun _ H locs hr_2 hP hD hS => ?_)
  have hP : va_P D vwCl (LW ct lb lz (SW ct sb sz R)) H := hP
  have hD : va_D A (LW ct lb lz (SW ct sb sz R)) := hD
  refine lv_aload_n hx hb dJ5_putStringAt_47b60_5 rfl (lv_at hl 2 rfl) ?_
  refine lv_aload_n hx hb dJ5_putStringAt_47b60_6 rfl (lv_at hl 0 rfl) ?_
  refine va_get (ci := 0) (v := .ref (l_q lz)) hx hb hts h_J4 hown hK hP 0 rfl rfl 0 (by decide) f15 (fun _ h9 => h9) rfl dJ5_putStringAt_47b60_7 ?_
  refine lv_iload_n hx hb dJ5_putStringAt_47b60_10 rfl (lv_at hl 1 rfl) ?_
  refine lv_aload_n hx hb dJ5_putStringAt_47b60_11 rfl (lv_at hl 0 rfl) ?_
  refine va_get (ci := 0) (v := .int (nI (0))) hx hb hts h_J4 hown hK hP 0 rfl rfl 1 (by decide) f22 (fun _ h9 => h9) rfl dJ5_putStringAt_47b60_12 ?_
  refine zVVX [.ref (l_q lz), .int (nI (at9)), .int (nI (0))] [] (kJ0_getBytes_840e7_t (lb) (lz) (sb) (sz) (R) (at9) (show (at9) + s_n sz ≤ l_m lz from hat) (show l_m lz ≤ 70 from h70) (show sb_Fit (s_f sz) from hft)) hx hb hml hown hts (cwV 3 hts gJ5_putStringAt_47b60_J0_getBytes_840e7 rfl rfl rfl (by decide +kernel) ⟨(Nat.le_of_ble_eq_true rfl), (Nat.le_of_ble_eq_true rfl)⟩) hK hP hD hS hA hX (va_recv hK hP (ci := 10) (q0 := 2) rfl rfl) rfl hl.1 rfl (Nat.le_of_ble_eq_true rfl) dJ5_putStringAt_47b60_15 ⟨(Nat.le_of_ble_eq_true rfl), (Nat.le_of_ble_eq_true rfl)⟩ (fun _ H locs hr_15 hP hD hS => ?_)
  have hP : va_P D vwCl (LW ct lb ((l_q lz), (l_m lz), (va_cpy (s_f sz) (l_f lz) 0 (at9) (s_n sz)), (l_n lz), (l_ml lz)) (SW ct sb sz R)) H := hP
  have hD : va_D A (LW ct lb ((l_q lz), (l_m lz), (va_cpy (s_f sz) (l_f lz) 0 (at9) (s_n sz)), (l_n lz), (l_ml lz)) (SW ct sb sz R)) := hD
  exact zVret () hx hb hr hlocks hK hP hD hS dJ5_putStringAt_47b60_18 trivial
abbrev rmJ5_append_cf1ce_t : Room := { frames := 4, cells := 1, slots := 70, locals := 100 }
theorem in_J5_append_cf1ce_t_J4 : ∀ w ∈ u_ws RJ4 TJ4 4, w ∈ wsJ5_append_cf1ce := by decide +kernel
set_option maxHeartbeats 4000000 in
set_option maxRecDepth 100000 in
theorem kJ5_append_cf1ce_t {D : va_G} {g : XG} {ct : Nat → ClassId} {l : Launch} (lb : Nat → Nat) (lz : LST) (sb : Nat → Nat) (sz : SST) (R : va_W) (tx : List Nat) (mx : List Nat) (hL : LR tx lz) (hT : SR mx sz) (h34 : tx.length + mx.length ≤ 34) : MX D ct g l yJ5_append_cf1ce wsJ5_append_cf1ce rmJ5_append_cf1ce_t (LW ct lb lz (SW ct sb sz R)) [.ref (lb 0), .ref (sb 0)] (QR D ct (fun u : LST => LR (tx ++ mx) u) (fun _ : LST => lb 0) (fun u : LST => LW ct lb u (SW ct sb sz R))) := by
  refine MXof (cc := cJ5_append_cf1ce) (maxL := 3) (ret := (some (.object "java/lang/AbstractStringBuilder"))) (by decide) rfl (Nat.le_of_ble_eq_true rfl) ?_
  intro p e s m args below meth c A H locs F hP hK hD hS hA hX ls hl
  obtain ⟨hx, hb, hr, hlocks, hml, hown, hts, hin⟩ := F
  have hl : lv_has ls 3 [(0, .ref (lb 0)), (1, .ref (sb 0))] := hl
  obtain ⟨hl1, hl2, hl3, hl4, hl5⟩ := hL
  have h70 := hl2.le
  have ht1 := hT.1
  have h16 : 16 ≤ l_m lz := by rcases hl2 with h | h | h <;> omega
  have h_J4 := in_J5_append_cf1ce_t_J4
  have f79 := hts (.fieldLink RJ5 79 "java/lang/AbstractStringBuilder" "count" "I") (by decide +kernel)
  refine lv_aload_n hx hb dJ5_append_cf1ce_0 rfl (lv_at hl 1 rfl) ?_
  refine lv_ifnonnull (tgt := 9) hx hb dJ5_append_cf1ce_1 (by decide) ?_
  refine lv_aload_n hx hb dJ5_append_cf1ce_9 rfl (lv_at hl 1 rfl) ?_
  have hP : va_P D vwCl (SW ct sb sz (LW ct lb lz R)) H := zPp (zMv1 (LW ct lb lz []) (SW ct sb sz []) (R)) hP
  have hD : va_D A (SW ct sb sz (LW ct lb lz R)) := zDp (zMv1 (LW ct lb lz []) (SW ct sb sz []) (R)) hD
  refine zVIX [] [] (kJ0_length_8abf5_t (sb) (sz) (LW ct lb lz R)) hx hb hml hown hts (cwV 0 hts gJ5_append_cf1ce_J0_length_8abf5 rfl rfl rfl (by decide +kernel) ⟨(Nat.le_of_ble_eq_true rfl), (Nat.le_of_ble_eq_true rfl)⟩) hK hP hD hS hA hX (va_recv hK hP (ci := 10) (q0 := 0) rfl rfl) rfl hl.1 rfl (Nat.le_of_ble_eq_true rfl) dJ5_append_cf1ce_10 ⟨(Nat.le_of_ble_eq_true rfl), (Nat.le_of_ble_eq_true rfl)⟩ (fun r_10 _ H locs hr_10 hP hD hS => ?_)
  subst hr_10
  have hP : va_P D vwCl (SW ct sb sz (LW ct lb lz R)) H := hP
  have hD : va_D A (SW ct sb sz (LW ct lb lz R)) := hD
  have hP : va_P D vwCl (LW ct lb lz (SW ct sb sz R)) H := zPp (zMv1 (LW ct lb lz []) (SW ct sb sz []) (R)).symm hP
  have hD : va_D A (LW ct lb lz (SW ct sb sz R)) := zDp (zMv1 (LW ct lb lz []) (SW ct sb sz []) (R)).symm hD
  refine lv_istore_n (lv' := [(2, .int (nI (s_n sz))), (0, .ref (lb 0)), (1, .ref (sb 0))]) hx hb dJ5_append_cf1ce_13 rfl hl (by decide) rfl (fun ls hl => ?_)
  refine lv_aload_n hx hb dJ5_append_cf1ce_14 rfl (lv_at hl 1 rfl) ?_
  refine lv_aload_n hx hb dJ5_append_cf1ce_15 rfl (lv_at hl 1 rfl) ?_
  refine va_get (ci := 0) (v := .int (nI (l_n lz))) hx hb hts h_J4 hown hK hP 0 rfl rfl 3 (by decide) f79 (fun _ h9 => h9) rfl dJ5_append_cf1ce_16 ?_
  refine lv_iload_n hx hb dJ5_append_cf1ce_19 rfl (lv_at hl 0 rfl) ?_
  refine zNadd hx hb dJ5_append_cf1ce_20 ?_
  refine zUVX [.int (nI ((l_n lz + s_n sz)))] [] (kJ5_ensureCapacityInternal_d00df (lb) (lz) (SW ct sb sz R) ((l_n lz + s_n sz)) (show okc (l_m lz) from hl2) (show sb_Fit (l_f lz) from hl4) (show ((l_n lz + s_n sz)) ≤ 60 from (by omega)) (show ((l_n lz + s_n sz)) ≤ 2 * l_m lz + 2 from (by omega))) hx hb hml hown hts (va_cwU 1 hts gJ5_append_cf1ce_J5_ensureCapacityInternal_d00df_u100J4 rfl rfl rfl rfl (by decide +kernel) ⟨(Nat.le_of_ble_eq_true rfl), (Nat.le_of_ble_eq_true rfl)⟩) hK hP hD hS hA hX (va_recv hK hP (ci := 0) (q0 := 0) rfl rfl) rfl hl.1 rfl (Nat.le_of_ble_eq_true rfl) dJ5_append_cf1ce_21 ⟨(Nat.le_of_ble_eq_true rfl), (Nat.le_of_ble_eq_true rfl)⟩ (fun u_21 H locs hr_21 hP hD hS => ?_)
  obtain ⟨en1_21, en2_21, en3_21, en4_21, en5_21, en6_21⟩ := hr_21
  have hP : va_P D vwCl (LW ct lb u_21 (SW ct sb sz R)) H := hP
  have hD : va_D A (LW ct lb u_21 (SW ct sb sz R)) := hD
  have hm70 := en3_21.le
  refine lv_aload_n hx hb dJ5_append_cf1ce_24 rfl (lv_at hl 1 rfl) ?_
  refine lv_aload_n hx hb dJ5_append_cf1ce_25 rfl (lv_at hl 1 rfl) ?_
  refine va_get (ci := 0) (v := .int (nI (l_n u_21))) hx hb hts h_J4 hown hK hP 0 rfl rfl 3 (by decide) f79 (fun _ h9 => h9) rfl dJ5_append_cf1ce_26 ?_
  refine lv_aload_n hx hb dJ5_append_cf1ce_29 rfl (lv_at hl 2 rfl) ?_
  refine zUVX [.int (nI (l_n u_21)), .ref (sb 0)] [] (kJ5_putStringAt_47b60_t (lb) (u_21) (sb) (sz) (R) (l_n u_21) (show (l_n u_21) + (s_n sz) ≤ l_m u_21 from (by omega)) (show l_m u_21 ≤ 70 from (by omega)) (show sb_Fit (s_f sz) from hT.2.2.1)) hx hb hml hown hts (va_cwU 2 hts gJ5_append_cf1ce_J5_putStringAt_47b60_u208J4 rfl rfl rfl rfl (by decide +kernel) ⟨(Nat.le_of_ble_eq_true rfl), (Nat.le_of_ble_eq_true rfl)⟩) hK hP hD hS hA hX (va_recv hK hP (ci := 0) (q0 := 0) rfl rfl) rfl hl.1 rfl (Nat.le_of_ble_eq_true rfl) dJ5_append_cf1ce_30 ⟨(Nat.le_of_ble_eq_true rfl), (Nat.le_of_ble_eq_true rfl)⟩ (fun _ H locs hr_30 hP hD hS => ?_)
  have hP : va_P D vwCl (LW ct lb ((l_q u_21), (l_m u_21), (va_cpy (s_f sz) (l_f u_21) 0 (l_n u_21) (s_n sz)), (l_n u_21), (l_ml u_21)) (SW ct sb sz R)) H := hP
  have hD : va_D A (LW ct lb ((l_q u_21), (l_m u_21), (va_cpy (s_f sz) (l_f u_21) 0 (l_n u_21) (s_n sz)), (l_n u_21), (l_ml u_21)) (SW ct sb sz R)) := hD
  refine lv_aload_n hx hb dJ5_append_cf1ce_33 rfl (lv_at hl 1 rfl) ?_
  refine lv_dup hx hb dJ5_append_cf1ce_34 rfl ?_
  refine va_get (ci := 0) (v := .int (nI ((l_n u_21)))) hx hb hts h_J4 hown hK hP 0 rfl rfl 3 (by decide) f79 (fun _ h9 => h9) rfl dJ5_append_cf1ce_35 ?_
  refine lv_iload_n hx hb dJ5_append_cf1ce_38 rfl (lv_at hl 0 rfl) ?_
  refine zNadd hx hb dJ5_append_cf1ce_39 ?_
  refine va_put (ci := 0) (v := .int (nI (((l_n u_21) + s_n sz)))) (ty := .int) hx hb hts h_J4 tyJ4 tyJ4_ok nmJ4 hown hK hP hD hS 0 rfl rfl 3 (by decide) f79 (fun _ h9 => h9) rfl (by decide +kernel) rfl rfl (Nat.le_of_ble_eq_true rfl) dJ5_append_cf1ce_40 (fun H locs hP hD hS => ?_)
  have hP : va_P D vwCl (LW ct lb ((l_q u_21), (l_m u_21), (va_cpy (s_f sz) (l_f u_21) 0 (l_n u_21) (s_n sz)), ((l_n u_21) + s_n sz), (l_ml u_21)) (SW ct sb sz R)) H := hP
  have hD : va_D A (LW ct lb ((l_q u_21), (l_m u_21), (va_cpy (s_f sz) (l_f u_21) 0 (l_n u_21) (s_n sz)), ((l_n u_21) + s_n sz), (l_ml u_21)) (SW ct sb sz R)) := hD
  have e8 : LW ct lb ((l_q u_21), (l_m u_21), (va_cpy (s_f sz) (l_f u_21) 0 (l_n u_21) (s_n sz)), ((l_n u_21) + s_n sz), (l_ml u_21)) (SW ct sb sz R) = LW ct lb (l_q u_21, l_m u_21, va_cpy (s_f sz) (l_f u_21) 0 tx.length mx.length, tx.length + mx.length, l_ml u_21) (SW ct sb sz R) := by rw [show s_n sz = mx.length from hT.1, show l_n u_21 = tx.length from en1_21.trans hl1]
  have hP : va_P D vwCl (LW ct lb (l_q u_21, l_m u_21, va_cpy (s_f sz) (l_f u_21) 0 tx.length mx.length, tx.length + mx.length, l_ml u_21) (SW ct sb sz R)) H := by rw [← e8]; exact hP
  have hD : va_D A (LW ct lb (l_q u_21, l_m u_21, va_cpy (s_f sz) (l_f u_21) 0 tx.length mx.length, tx.length + mx.length, l_ml u_21) (SW ct sb sz R)) := by rw [← e8]; exact hD
  refine lv_aload_n hx hb dJ5_append_cf1ce_43 rfl (lv_at hl 1 rfl) ?_
  refine W.widen (k := rmJ5_append_cf1ce_t.cells) (n := rmJ5_append_cf1ce_t.slots) (Nat.le_of_ble_eq_true rfl) (Nat.le_of_ble_eq_true rfl) ?_
  exact zRret (ra := fun _ : LST => lb 0) (wf := fun u : LST => LW ct lb u (SW ct sb sz R)) (l_q u_21, l_m u_21, va_cpy (s_f sz) (l_f u_21) 0 tx.length mx.length, tx.length + mx.length, l_ml u_21) (Or.inl ⟨_, rfl⟩) hx hb hr hlocks hK hP hD hS dJ5_append_cf1ce_44 (LR_cat (z := lz) (u := u_21) ⟨hl1, hl2, hl3, hl4, hl5⟩ en3_21 (by omega) en5_21 en6_21 hT.2.2.1 hT.2.2.2) rfl
abbrev rmJ4_append_15ec4_t : Room := { frames := 5, cells := 1, slots := 70, locals := 122 }
set_option maxHeartbeats 4000000 in
set_option maxRecDepth 100000 in
theorem kJ4_append_15ec4_t {D : va_G} {g : XG} {ct : Nat → ClassId} {l : Launch} (lb : Nat → Nat) (lz : LST) (sb : Nat → Nat) (sz : SST) (R : va_W) (tx : List Nat) (mx : List Nat) (hL : LR tx lz) (hT : SR mx sz) (h34 : tx.length + mx.length ≤ 34) : MX D ct g l yJ4_append_15ec4 wsJ4_append_15ec4 rmJ4_append_15ec4_t (LW ct lb lz (SW ct sb sz R)) [.ref (lb 0), .ref (sb 0)] (QR D ct (fun u : LST => LR (tx ++ mx) u) (fun _ : LST => lb 0) (fun u : LST => LW ct lb u (SW ct sb sz R))) := by
  refine MXof (cc := cJ4_append_15ec4) (maxL := 2) (ret := (some (.object "java/lang/StringBuilder"))) (by decide) rfl (Nat.le_of_ble_eq_true rfl) ?_
  intro p e s m args below meth c A H locs F hP hK hD hS hA hX ls hl
  obtain ⟨hx, hb, hr, hlocks, hml, hown, hts, hin⟩ := F
  have hl : lv_has ls 2 [(0, .ref (lb 0)), (1, .ref (sb 0))] := hl
  refine lv_aload_n hx hb dJ4_append_15ec4_0 rfl (lv_at hl 0 rfl) ?_
  refine lv_aload_n hx hb dJ4_append_15ec4_1 rfl (lv_at hl 1 rfl) ?_
  refine zTRX [.ref (sb 0)] [] (kJ5_append_cf1ce_t (lb) (lz) (sb) (sz) (R) (tx) (mx) (show LR (tx) lz from hL) (show SR (mx) sz from hT) (show (tx).length + (mx).length ≤ 34 from h34)) hx hb hml hown hts (hK.1 0 _ rfl).2 (va_cwSU 1 hts gJ4_append_15ec4_J5_append_cf1ce_s29 rfl rfl rfl (by decide +kernel) ⟨(Nat.le_of_ble_eq_true rfl), (Nat.le_of_ble_eq_true rfl)⟩) hK hP hD hS hA hX (va_recv hK hP (ci := 0) (q0 := 0) rfl rfl) rfl hl.1 rfl (Nat.le_of_ble_eq_true rfl) dJ4_append_15ec4_2 ⟨(Nat.le_of_ble_eq_true rfl), (Nat.le_of_ble_eq_true rfl)⟩ (fun u_2 H locs hr_2 hP hD hS => ?_)
  have hP : va_P D vwCl (LW ct lb u_2 (SW ct sb sz R)) H := hP
  have hD : va_D A (LW ct lb u_2 (SW ct sb sz R)) := hD
  refine lv_pop hx hb dJ4_append_15ec4_5 rfl ?_
  refine lv_aload_n hx hb dJ4_append_15ec4_6 rfl (lv_at hl 0 rfl) ?_
  refine W.widen (k := rmJ4_append_15ec4_t.cells) (n := rmJ4_append_15ec4_t.slots) (Nat.le_of_ble_eq_true rfl) (Nat.le_of_ble_eq_true rfl) ?_
  exact zRret (ra := fun _ : LST => lb 0) (wf := fun u : LST => LW ct lb u (SW ct sb sz R)) u_2 (Or.inl ⟨_, rfl⟩) hx hb hr hlocks hK hP hD hS dJ4_append_15ec4_7 hr_2 rfl
abbrev rmJ5_getValue_6d5f1 : Room := { frames := 0, cells := 0, slots := 0, locals := 0 }
theorem in_J5_getValue_6d5f1_J4 : ∀ w ∈ u_ws RJ4 TJ4 4, w ∈ wsJ5_getValue_6d5f1 := by decide +kernel
set_option maxHeartbeats 4000000 in
set_option maxRecDepth 100000 in
theorem kJ5_getValue_6d5f1 {D : va_G} {g : XG} {ct : Nat → ClassId} {l : Launch} (lb : Nat → Nat) (lz : LST) (R : va_W)  : MX D ct g l yJ5_getValue_6d5f1 wsJ5_getValue_6d5f1 rmJ5_getValue_6d5f1 (LW ct lb lz R) [.ref (lb 0)] (QR D ct (fun _ : Unit => True) (fun _ : Unit => l_q lz) (fun _ : Unit => LW ct lb lz R)) := by
  refine MXof (cc := cJ5_getValue_6d5f1) (maxL := 1) (ret := (some (.array .byte))) (by decide) rfl (Nat.le_of_ble_eq_true rfl) ?_
  intro p e s m args below meth c A H locs F hP hK hD hS hA hX ls hl
  obtain ⟨hx, hb, hr, hlocks, hml, hown, hts, hin⟩ := F
  have hl : lv_has ls 1 [(0, .ref (lb 0))] := hl
  have h_J4 := in_J5_getValue_6d5f1_J4
  have f15 := hts (.fieldLink RJ5 15 "java/lang/AbstractStringBuilder" "value" "[B") (by decide +kernel)
  refine lv_aload_n hx hb dJ5_getValue_6d5f1_0 rfl (lv_at hl 0 rfl) ?_
  refine va_get (ci := 0) (v := .ref (l_q lz)) hx hb hts h_J4 hown hK hP 0 rfl rfl 0 (by decide) f15 (fun _ h9 => h9) rfl dJ5_getValue_6d5f1_1 ?_
  exact zRret (ra := fun _ : Unit => l_q lz) (wf := fun _ : Unit => LW ct lb lz R) () (Or.inr ⟨_, rfl⟩) hx hb hr hlocks hK hP hD hS dJ5_getValue_6d5f1_4 trivial rfl
abbrev rmJ7_checkLength_df160 : Room := { frames := 0, cells := 0, slots := 0, locals := 0 }
set_option maxHeartbeats 4000000 in
set_option maxRecDepth 100000 in
theorem kJ7_checkLength_df160 {D : va_G} {g : XG} {ct : Nat → ClassId} {l : Launch}  (R : va_W) (n9 : Nat) (hn : n9 < 2 ^ 31) : MX D ct g l yJ7_checkLength_df160 wsJ7_checkLength_df160 rmJ7_checkLength_df160 (R) [.int (nI (0)), .int (nI (n9))] (QV D ct (fun _ : Unit => True) (fun _ : Unit => R)) := by
  refine MXof (cc := cJ7_checkLength_df160) (maxL := 2) (ret := none) (by decide) rfl (Nat.le_of_ble_eq_true rfl) ?_
  intro p e s m args below meth c A H locs F hP hK hD hS hA hX ls hl
  obtain ⟨hx, hb, hr, hlocks, hml, hown, hts, hin⟩ := F
  have hl : lv_has ls 2 [(0, .int (nI (0))), (1, .int (nI (n9)))] := hl
  refine lv_iload_n hx hb dJ7_checkLength_df160_0 rfl (lv_at hl 1 rfl) ?_
  refine lv_iload_n hx hb dJ7_checkLength_df160_1 rfl (lv_at hl 0 rfl) ?_
  refine zN_icmp_ge (tgt := 37) hx hb (by omega) (by omega) dJ7_checkLength_df160_2 (by decide) (fun c2_1 => ?_) (fun c2_1 => ?_)
  · skip
    exact zVret () hx hb hr hlocks hK hP hD hS dJ7_checkLength_df160_37 trivial
  · skip
    exact absurd (Nat.zero_le _) c2_1
abbrev rmJ7_copyOfRangeByte_39247 : Room := { frames := 1, cells := 1, slots := 70, locals := 40 }
set_option maxHeartbeats 4000000 in
set_option maxRecDepth 100000 in
theorem kJ7_copyOfRangeByte_39247 {D : va_G} {g : XG} {ct : Nat → ClassId} {l : Launch} (lb : Nat → Nat) (lz : LST) (R : va_W) (n9 : Nat) (hf : sb_Fit (l_f lz)) (hn9 : n9 ≤ l_m lz) (h70 : l_m lz ≤ 70) : MX D ct g l yJ7_copyOfRangeByte_39247 wsJ7_copyOfRangeByte_39247 rmJ7_copyOfRangeByte_39247 (LW ct lb lz R) [.ref (l_q lz), .int (nI (0)), .int (nI (n9))] (QR D ct (fun u : Nat × (Nat → Int32) => sb_Fit u.2 ∧ ∀ j, j < n9 → u.2 j = l_f lz j) (fun u : Nat × (Nat → Int32) => u.1) (fun u : Nat × (Nat → Int32) => (u.1, aB ct n9 u.2) :: LW ct lb lz R)) := by
  refine MXof (cc := cJ7_copyOfRangeByte_39247) (maxL := 5) (ret := (some (.array .byte))) (by decide) rfl (Nat.le_of_ble_eq_true rfl) ?_
  intro p e s m args below meth c A H locs F hP hK hD hS hA hX ls hl
  obtain ⟨hx, hb, hr, hlocks, hml, hown, hts, hin⟩ := F
  have hl : lv_has ls 5 [(0, .ref (l_q lz)), (1, .int (nI (0))), (2, .int (nI (n9)))] := hl
  refine lv_iload_n hx hb dJ7_copyOfRangeByte_39247_0 rfl (lv_at hl 1 rfl) ?_
  refine lv_iload_n hx hb dJ7_copyOfRangeByte_39247_1 rfl (lv_at hl 2 rfl) ?_
  refine zSVX [.int (nI (0)), .int (nI (n9))] [] (kJ7_checkLength_df160 (LW ct lb lz R) (n9) (show (n9) < 2 ^ 31 from by omega)) hx hb hml hown hts (va_cwS 2 hts gJ7_copyOfRangeByte_39247_J7_checkLength_df160 rfl rfl rfl (by decide +kernel) ⟨(Nat.le_of_ble_eq_true rfl), (Nat.le_of_ble_eq_true rfl)⟩) hK hP hD hS hA hX rfl hl.1 rfl (Nat.le_of_ble_eq_true rfl) dJ7_copyOfRangeByte_39247_2 ⟨(Nat.le_of_ble_eq_true rfl), (Nat.le_of_ble_eq_true rfl)⟩ (fun _ H locs hr_2 hP hD hS => ?_)
  have hP : va_P D vwCl (LW ct lb lz R) H := hP
  have hD : va_D A (LW ct lb lz R) := hD
  refine lv_iload_n hx hb dJ7_copyOfRangeByte_39247_5 rfl (lv_at hl 2 rfl) ?_
  refine lv_iload_n hx hb dJ7_copyOfRangeByte_39247_6 rfl (lv_at hl 1 rfl) ?_
  refine zNsub hx hb (by omega) dJ7_copyOfRangeByte_39247_7 ?_
  refine zTop (y := nI (n9)) rfl ?_
  refine lv_istore_n (lv' := [(3, .int (nI (n9))), (0, .ref (l_q lz)), (1, .int (nI (0))), (2, .int (nI (n9)))]) hx hb dJ7_copyOfRangeByte_39247_8 rfl hl (by decide) rfl (fun ls hl => ?_)
  refine lv_iload_n hx hb dJ7_copyOfRangeByte_39247_9 rfl (lv_at hl 0 rfl) ?_
  refine zNewB (N := n9) hx hb (hts (.arrayClass .byte) (by decide +kernel)) hK hP hD hS hA (by omega) (Nat.le_of_ble_eq_true rfl) (show 0 + n9 ≤ 70 from by omega) dJ7_copyOfRangeByte_39247_10 (fun q9 H hP hD hS => ?_)
  refine lv_astore (lv' := [(4, .ref (q9)), (3, .int (nI (n9))), (0, .ref (l_q lz)), (1, .int (nI (0))), (2, .int (nI (n9)))]) hx hb dJ7_copyOfRangeByte_39247_12 hl (by decide) rfl (fun ls hl => ?_)
  refine lv_aload_n hx hb dJ7_copyOfRangeByte_39247_14 rfl (lv_at hl 2 rfl) ?_
  refine lv_iload_n hx hb dJ7_copyOfRangeByte_39247_15 rfl (lv_at hl 3 rfl) ?_
  refine lv_aload hx hb dJ7_copyOfRangeByte_39247_16 (lv_at hl 0 rfl) ?_
  refine lv_iconst (v := nI (0)) hx hb dJ7_copyOfRangeByte_39247_18 (by decide) ?_
  refine lv_aload_n hx hb dJ7_copyOfRangeByte_39247_19 rfl (lv_at hl 2 rfl) ?_
  refine va_alen (x := (l_m lz, _)) (v := nI (l_m lz)) hx hb hK hP 2 4 rfl rfl rfl dJ7_copyOfRangeByte_39247_20 ?_
  refine lv_iload_n hx hb dJ7_copyOfRangeByte_39247_21 rfl (lv_at hl 3 rfl) ?_
  refine zNsub hx hb (by omega) dJ7_copyOfRangeByte_39247_22 ?_
  refine zTop (y := nI (l_m lz)) rfl ?_
  refine lv_iload_n hx hb dJ7_copyOfRangeByte_39247_23 rfl (lv_at hl 1 rfl) ?_
  refine W.widen (k := 1) (n := 70) (Nat.le_of_ble_eq_true rfl) (show 0 + n9 ≤ 70 from by omega) ?_
  refine va_mmin hx hb (hml.trans hl.1.symm) hown (hts (.methodLink RJ7 304 Lib.Math.min.name) (by decide +kernel)) (hts (.static Lib.Math.min.name) (by decide +kernel)) (hts (.initialized "java/lang/Math") (by decide +kernel)) (hts (.code Lib.Math.min.name Lib.Math.min.code 2 (some .int)) (by decide +kernel)) (Nat.le_of_ble_eq_true rfl) (Nat.le_of_ble_eq_true rfl) (Nat.le_of_ble_eq_true rfl) (Nat.le_of_ble_eq_true rfl) dJ7_copyOfRangeByte_39247_24 ?_
  refine zTop (y := nI (n9)) (min_n hn9 (by omega)) ?_
  refine zCopyB (n0 := l_m lz) (n1 := n9) (n := n9) (f := l_f lz) (g := fun _ => 0) hx hb (hml.trans hl.1.symm) hown (hts (.methodLink RJ7 150 arraycopyName) (by decide +kernel)) (hts (.native arraycopyName) (by decide +kernel)) (hts (.static arraycopyName) (by decide +kernel)) (hts (.initialized "java/lang/System") (by decide +kernel)) hK hP hD hS 2 0 rfl rfl hn9 (Nat.le_refl _) (by omega) hf (Nat.le_of_ble_eq_true rfl) (Nat.le_of_ble_eq_true rfl) dJ7_copyOfRangeByte_39247_27 (fun H locs hP hD hS => ?_)
  refine lv_aload hx hb dJ7_copyOfRangeByte_39247_30 (lv_at hl 0 rfl) ?_
  refine W.widen (k := rmJ7_copyOfRangeByte_39247.cells) (n := rmJ7_copyOfRangeByte_39247.slots) (Nat.le_of_ble_eq_true rfl) (Nat.le_of_ble_eq_true rfl) ?_
  exact zRret (ra := fun u : Nat × (Nat → Int32) => u.1) (wf := fun u : Nat × (Nat → Int32) => (u.1, aB ct n9 u.2) :: LW ct lb lz R) (q9, va_cpy (l_f lz) (fun _ => 0) 0 0 n9) (Or.inr ⟨_, rfl⟩) hx hb hr hlocks hK hP hD hS dJ7_copyOfRangeByte_39247_32 ⟨sb_fitC hf sb_fit0, fun j hj => sb_cpy0 (f := l_f lz) (g := fun _ => 0) hj⟩ rfl
abbrev rmJ7_copyOfRange_39247 : Room := { frames := 2, cells := 1, slots := 70, locals := 64 }
set_option maxHeartbeats 4000000 in
set_option maxRecDepth 100000 in
theorem kJ7_copyOfRange_39247 {D : va_G} {g : XG} {ct : Nat → ClassId} {l : Launch} (lb : Nat → Nat) (lz : LST) (R : va_W) (n9 : Nat) (hf : sb_Fit (l_f lz)) (hn9 : n9 ≤ l_m lz) (h70 : l_m lz ≤ 70) : MX D ct g l yJ7_copyOfRange_39247 wsJ7_copyOfRange_39247 rmJ7_copyOfRange_39247 (LW ct lb lz R) [.ref (l_q lz), .int (nI (0)), .int (nI (n9))] (QR D ct (fun u : Nat × (Nat → Int32) => sb_Fit u.2 ∧ ∀ j, j < n9 → u.2 j = l_f lz j) (fun u : Nat × (Nat → Int32) => u.1) (fun u : Nat × (Nat → Int32) => (u.1, aB ct n9 u.2) :: LW ct lb lz R)) := by
  refine MXof (cc := cJ7_copyOfRange_39247) (maxL := 3) (ret := (some (.array .byte))) (by decide) rfl (Nat.le_of_ble_eq_true rfl) ?_
  intro p e s m args below meth c A H locs F hP hK hD hS hA hX ls hl
  obtain ⟨hx, hb, hr, hlocks, hml, hown, hts, hin⟩ := F
  have hl : lv_has ls 3 [(0, .ref (l_q lz)), (1, .int (nI (0))), (2, .int (nI (n9)))] := hl
  refine lv_iload_n hx hb dJ7_copyOfRange_39247_0 rfl (lv_at hl 1 rfl) ?_
  refine lv_if_ne (tgt := 10) hx hb dJ7_copyOfRange_39247_1 (by decide) (fun c9 => absurd (by decide) c9) (fun c9 => ?_)
  refine lv_iload_n hx hb dJ7_copyOfRange_39247_4 rfl (lv_at hl 2 rfl) ?_
  refine lv_aload_n hx hb dJ7_copyOfRange_39247_5 rfl (lv_at hl 0 rfl) ?_
  refine va_alen (x := (l_m lz, _)) (v := nI (l_m lz)) hx hb hK hP 1 4 rfl rfl rfl dJ7_copyOfRange_39247_6 ?_
  refine zN_icmp_eq (tgt := 17) hx hb (by omega) (by omega) dJ7_copyOfRange_39247_7 (by decide) (fun c7_2 => ?_) (fun c7_2 => ?_)
  · skip
    have hcl := c7_2
    refine lv_aload_n hx hb dJ7_copyOfRange_39247_17 rfl (lv_at hl 0 rfl) ?_
    have h4 := (hK.2 4 (ct 4, .byte) rfl).2
    refine va_clone (ad := "[B") (cA := ct 4) (x := (l_m lz, .inl (l_f lz))) (ty := .byte) hx hb (hml.trans hl.1.symm) hown (hts (.methodLink RJ7 310 ⟨"[B", "clone", "()Ljava/lang/Object;"⟩) (by decide +kernel)) (hts (.sameMethod "[B" "java/lang/Object" "clone" "()Ljava/lang/Object;") (by decide +kernel)) (hts (.native ⟨"java/lang/Object", "clone", "()Ljava/lang/Object;"⟩) (by decide +kernel)) (hts (.instanceMethod ⟨"java/lang/Object", "clone", "()Ljava/lang/Object;"⟩) (by decide +kernel)) (hts (.selects "[B" ⟨"[B", "clone", "()Ljava/lang/Object;"⟩ ⟨"java/lang/Object", "clone", "()Ljava/lang/Object;"⟩) (by decide +kernel)) hX.g15 hK hP hD hS hA 1 4 rfl rfl h4 (aB_fit hf) (Nat.le_of_ble_eq_true rfl) (Nat.le_of_ble_eq_true rfl) (Nat.le_of_ble_eq_true rfl) (show 0 + l_m lz ≤ rmJ7_copyOfRange_39247.slots from by show 0 + l_m lz ≤ 70; omega) dJ7_copyOfRange_39247_18 (fun q9 H _ hP hD hS => ?_)
    have hP := zPp (List.perm_append_singleton _ _) hP
    have hD := zDp (List.perm_append_singleton _ _) hD
    refine va_castA (nm := "[B") hx hb hown (hts (.classLink RJ7 311 "[B") (by decide +kernel)) hP 0 rfl h4 dJ7_copyOfRange_39247_21 ?_
    have hP : va_P D vwCl ((q9, aB ct n9 (l_f lz)) :: LW ct lb lz R) H := by rw [show n9 = l_m lz from hcl]; exact hP
    have hD : va_D A ((q9, aB ct n9 (l_f lz)) :: LW ct lb lz R) := by rw [show n9 = l_m lz from hcl]; exact hD
    refine W.widen (k := 1) (n := 70) (Nat.le_of_ble_eq_true rfl) (show 0 + l_m lz ≤ 70 from by omega) ?_
    exact zRret (ra := fun u : Nat × (Nat → Int32) => u.1) (wf := fun u : Nat × (Nat → Int32) => (u.1, aB ct n9 u.2) :: LW ct lb lz R) (q9, l_f lz) (Or.inr ⟨_, rfl⟩) hx hb hr hlocks hK hP hD hS dJ7_copyOfRange_39247_24 ⟨hf, fun j hj => rfl⟩ rfl
  · skip
    refine lv_aload_n hx hb dJ7_copyOfRange_39247_10 rfl (lv_at hl 0 rfl) ?_
    refine lv_iload_n hx hb dJ7_copyOfRange_39247_11 rfl (lv_at hl 1 rfl) ?_
    refine lv_iload_n hx hb dJ7_copyOfRange_39247_12 rfl (lv_at hl 2 rfl) ?_
    refine zSRX [.ref (l_q lz), .int (nI (0)), .int (nI (n9))] [] (kJ7_copyOfRangeByte_39247 (lb) (lz) (R) (n9) (show sb_Fit (l_f lz) from hf) (show (n9) ≤ l_m lz from hn9) (show l_m lz ≤ 70 from h70)) hx hb hml hown hts (va_cwS 3 hts gJ7_copyOfRange_39247_J7_copyOfRangeByte_39247 rfl rfl rfl (by decide +kernel) ⟨(Nat.le_of_ble_eq_true rfl), (Nat.le_of_ble_eq_true rfl)⟩) hK hP hD hS hA hX rfl hl.1 rfl (Nat.le_of_ble_eq_true rfl) dJ7_copyOfRange_39247_13 ⟨(Nat.le_of_ble_eq_true rfl), (Nat.le_of_ble_eq_true rfl)⟩ (fun u_13 H locs hr_13 hP hD hS => ?_)
    have hP : va_P D vwCl ((u_13.1, aB ct (n9) (u_13.2)) :: (LW ct lb lz R)) H := hP
    have hD : va_D A ((u_13.1, aB ct (n9) (u_13.2)) :: (LW ct lb lz R)) := hD
    refine W.widen (k := rmJ7_copyOfRange_39247.cells) (n := rmJ7_copyOfRange_39247.slots) (Nat.le_of_ble_eq_true rfl) (Nat.le_of_ble_eq_true rfl) ?_
    exact zRret (ra := fun u : Nat × (Nat → Int32) => u.1) (wf := fun u : Nat × (Nat → Int32) => (u.1, aB ct n9 u.2) :: LW ct lb lz R) u_13 (Or.inr ⟨_, rfl⟩) hx hb hr hlocks hK hP hD hS dJ7_copyOfRange_39247_16 hr_13 rfl
abbrev rmJ0_init_db425 : Room := { frames := 3, cells := 1, slots := 70, locals := 86 }
theorem in_J0_init_db425_J0 : ∀ w ∈ u_ws RJ0 TJ0 4, w ∈ wsJ0_init_db425 := by decide +kernel
set_option maxHeartbeats 4000000 in
set_option maxRecDepth 100000 in
theorem kJ0_init_db425 {D : va_G} {g : XG} {ct : Nat → ClassId} {l : Launch} (o9 : Nat) (lb : Nat → Nat) (lz : LST) (R : va_W) (tx : List Nat) (hL : LR tx lz) (h60 : tx.length ≤ 60) : MX D ct g l yJ0_init_db425 wsJ0_init_db425 rmJ0_init_db425 ((o9, .inr (10, [.null, .int (nI 0), .int (nI 0), .int (nI 0)])) :: (LW ct lb lz R)) [.ref (o9), .ref (lb 0), .null] (QV D ct (fun z : SST => SR tx z) (fun z : SST => SW ct (fun _ => o9) z (LW ct lb lz R))) := by
  refine MXof (cc := cJ0_init_db425) (maxL := 5) (ret := none) (by decide) rfl (Nat.le_of_ble_eq_true rfl) ?_
  intro p e s m args below meth c A H locs F hP hK hD hS hA hX ls hl
  obtain ⟨hx, hb, hr, hlocks, hml, hown, hts, hin⟩ := F
  have hl : lv_has ls 5 [(0, .ref (o9)), (1, .ref (lb 0)), (2, .null)] := hl
  have h_J0 := in_J0_init_db425_J0
  obtain ⟨hl1, hl2, hl3, hl4, hl5⟩ := hL
  have h70 := hl2.le
  refine lv_aload_n hx hb dJ0_init_db425_0 rfl (lv_at hl 0 rfl) ?_
  refine W.objInit hx hb hown (hts (.methodLink RJ0 1 objectInit) (by decide +kernel)) (hts (.instanceMethod objectInit) (by decide +kernel)) (hts (.code objectInit ⟨#[0xb1]⟩ 1 none) (by decide +kernel)) rfl (by rw [hml]; exact hl.1) rfl dJ0_init_db425_1 (Nat.le_of_ble_eq_true rfl) (Nat.le_of_ble_eq_true rfl) ?_
  refine W.eq (g2 := F0 m 4 ls []) rfl ?_
  refine lv_aload_n hx hb dJ0_init_db425_4 rfl (lv_at hl 1 rfl) ?_
  have hP : va_P D vwCl (LW ct lb lz ((o9, .inr (10, [.null, .int (nI 0), .int (nI 0), .int (nI 0)])) :: R)) H := zPp (zMv1 ((o9, .inr (10, [.null, .int (nI 0), .int (nI 0), .int (nI 0)])) :: []) (LW ct lb lz []) (R)) hP
  have hD : va_D A (LW ct lb lz ((o9, .inr (10, [.null, .int (nI 0), .int (nI 0), .int (nI 0)])) :: R)) := zDp (zMv1 ((o9, .inr (10, [.null, .int (nI 0), .int (nI 0), .int (nI 0)])) :: []) (LW ct lb lz []) (R)) hD
  refine zURX [] [] (kJ5_getValue_6d5f1 (lb) (lz) ((o9, .inr (10, [.null, .int (nI 0), .int (nI 0), .int (nI 0)])) :: R)) hx hb hml hown hts (va_cwU 0 hts gJ0_init_db425_J5_getValue_6d5f1_u552J4 rfl rfl rfl rfl (by decide +kernel) ⟨(Nat.le_of_ble_eq_true rfl), (Nat.le_of_ble_eq_true rfl)⟩) hK hP hD hS hA hX (va_recv hK hP (ci := 0) (q0 := 0) rfl rfl) rfl hl.1 rfl (Nat.le_of_ble_eq_true rfl) dJ0_init_db425_5 ⟨(Nat.le_of_ble_eq_true rfl), (Nat.le_of_ble_eq_true rfl)⟩ (fun _ H locs hr_5 hP hD hS => ?_)
  have hP : va_P D vwCl (LW ct lb lz ((o9, .inr (10, [.null, .int (nI 0), .int (nI 0), .int (nI 0)])) :: R)) H := hP
  have hD : va_D A (LW ct lb lz ((o9, .inr (10, [.null, .int (nI 0), .int (nI 0), .int (nI 0)])) :: R)) := hD
  refine lv_astore_n (lv' := [(3, .ref (l_q lz)), (0, .ref (o9)), (1, .ref (lb 0)), (2, .null)]) hx hb dJ0_init_db425_8 rfl hl (by decide) rfl (fun ls hl => ?_)
  refine lv_aload_n hx hb dJ0_init_db425_9 rfl (lv_at hl 2 rfl) ?_
  refine zUIX [] [] (kJ4_length_8abf5 (lb) (lz) ((o9, .inr (10, [.null, .int (nI 0), .int (nI 0), .int (nI 0)])) :: R)) hx hb hml hown hts (va_cwO 0 hts gJ0_init_db425_J4_length_8abf5_u549J4 rfl rfl rfl (b0 := cJ5_length_8abf5) (m0 := 1) (r0 := some .int) (by decide +kernel) (by decide +kernel) ⟨(Nat.le_of_ble_eq_true rfl), (Nat.le_of_ble_eq_true rfl)⟩) hK hP hD hS hA hX (va_recv hK hP (ci := 0) (q0 := 0) rfl rfl) rfl hl.1 rfl (Nat.le_of_ble_eq_true rfl) dJ0_init_db425_10 ⟨(Nat.le_of_ble_eq_true rfl), (Nat.le_of_ble_eq_true rfl)⟩ (fun r_10 _ H locs hr_10 hP hD hS => ?_)
  subst hr_10
  have hP : va_P D vwCl (LW ct lb lz ((o9, .inr (10, [.null, .int (nI 0), .int (nI 0), .int (nI 0)])) :: R)) H := hP
  have hD : va_D A (LW ct lb lz ((o9, .inr (10, [.null, .int (nI 0), .int (nI 0), .int (nI 0)])) :: R)) := hD
  refine lv_istore (lv' := [(4, .int (nI (l_n lz))), (3, .ref (l_q lz)), (0, .ref (o9)), (1, .ref (lb 0)), (2, .null)]) hx hb dJ0_init_db425_13 hl (by decide) rfl (fun ls hl => ?_)
  refine lv_aload_n hx hb dJ0_init_db425_15 rfl (lv_at hl 3 rfl) ?_
  refine zUIX [] [] (kJ5_isLatin1_aae02 (lb) (lz) ((o9, .inr (10, [.null, .int (nI 0), .int (nI 0), .int (nI 0)])) :: R)) hx hb hml hown hts (va_cwU 0 hts gJ0_init_db425_J5_isLatin1_aae02_u1047J4 rfl rfl rfl rfl (by decide +kernel) ⟨(Nat.le_of_ble_eq_true rfl), (Nat.le_of_ble_eq_true rfl)⟩) hK hP hD hS hA hX (va_recv hK hP (ci := 0) (q0 := 0) rfl rfl) rfl hl.1 rfl (Nat.le_of_ble_eq_true rfl) dJ0_init_db425_16 ⟨(Nat.le_of_ble_eq_true rfl), (Nat.le_of_ble_eq_true rfl)⟩ (fun r_16 _ H locs hr_16 hP hD hS => ?_)
  subst hr_16
  have hP : va_P D vwCl (LW ct lb lz ((o9, .inr (10, [.null, .int (nI 0), .int (nI 0), .int (nI 0)])) :: R)) H := hP
  have hD : va_D A (LW ct lb lz ((o9, .inr (10, [.null, .int (nI 0), .int (nI 0), .int (nI 0)])) :: R)) := hD
  refine lv_if_eq (tgt := 41) hx hb dJ0_init_db425_19 (by decide) (fun c9 => absurd c9 (by decide)) (fun c9 => ?_)
  refine lv_aload_n hx hb dJ0_init_db425_22 rfl (lv_at hl 2 rfl) ?_
  refine lv_iconst (v := nI (0)) hx hb dJ0_init_db425_23 (by decide) ?_
  refine va_putF (ci := 10) (v := .int (nI (0))) (ty := tyJ0 1) hx hb hts h_J0 tyJ0 tyJ0_ok nmJ0 hown hK hP hD hS 2 rfl rfl 1 (by decide) (hts (.fieldLink RJ0 15 "java/lang/String" "coder" "B") (by decide +kernel)) (fun _ h9 => h9) rfl (hin.trans rfl) rfl (tyJ0_ok 1 (by decide)) rfl rfl (Nat.le_of_ble_eq_true rfl) dJ0_init_db425_24 (fun H locs hP hD hS => ?_)
  have hP : va_P D vwCl (LW ct lb lz ((o9, .inr (10, [.null, .int (nI (0)), .int (nI 0), .int (nI 0)])) :: R)) H := hP
  have hD : va_D A (LW ct lb lz ((o9, .inr (10, [.null, .int (nI (0)), .int (nI 0), .int (nI 0)])) :: R)) := hD
  refine lv_aload_n hx hb dJ0_init_db425_27 rfl (lv_at hl 2 rfl) ?_
  refine lv_aload_n hx hb dJ0_init_db425_28 rfl (lv_at hl 1 rfl) ?_
  refine lv_iconst (v := nI (0)) hx hb dJ0_init_db425_29 (by decide) ?_
  refine lv_iload hx hb dJ0_init_db425_30 (lv_at hl 0 rfl) ?_
  refine zSRX [.ref (l_q lz), .int (nI (0)), .int (nI (l_n lz))] [.ref (o9)] (kJ7_copyOfRange_39247 (lb) (lz) ((o9, .inr (10, [.null, .int (nI (0)), .int (nI 0), .int (nI 0)])) :: R) (l_n lz) (show sb_Fit (l_f lz) from hl4) (show (l_n lz) ≤ l_m lz from (by omega)) (show l_m lz ≤ 70 from h70)) hx hb hml hown hts (va_cwS 3 hts gJ0_init_db425_J7_copyOfRange_39247 rfl rfl rfl (by decide +kernel) ⟨(Nat.le_of_ble_eq_true rfl), (Nat.le_of_ble_eq_true rfl)⟩) hK hP hD hS hA hX rfl hl.1 rfl (Nat.le_of_ble_eq_true rfl) dJ0_init_db425_32 ⟨(Nat.le_of_ble_eq_true rfl), (Nat.le_of_ble_eq_true rfl)⟩ (fun u_32 H locs hr_32 hP hD hS => ?_)
  have hP : va_P D vwCl ((u_32.1, aB ct (l_n lz) (u_32.2)) :: (LW ct lb lz ((o9, .inr (10, [.null, .int (nI (0)), .int (nI 0), .int (nI 0)])) :: R))) H := hP
  have hD : va_D A ((u_32.1, aB ct (l_n lz) (u_32.2)) :: (LW ct lb lz ((o9, .inr (10, [.null, .int (nI (0)), .int (nI 0), .int (nI 0)])) :: R))) := hD
  refine va_putF (ci := 10) (v := .ref (u_32.1)) (ty := tyJ0 0) hx hb hts h_J0 tyJ0 tyJ0_ok nmJ0 hown hK hP hD hS 3 rfl rfl 0 (by decide) (hts (.fieldLink RJ0 9 "java/lang/String" "value" "[B") (by decide +kernel)) (fun _ h9 => h9) rfl (hin.trans rfl) rfl (tyJ0_ok 0 (by decide)) rfl rfl (Nat.le_of_ble_eq_true rfl) dJ0_init_db425_35 (fun H locs hP hD hS => ?_)
  have hP : va_P D vwCl ((u_32.1, aB ct (l_n lz) (u_32.2)) :: (LW ct lb lz ((o9, .inr (10, [.ref (u_32.1), .int (nI (0)), .int (nI 0), .int (nI 0)])) :: R))) H := hP
  have hD : va_D A ((u_32.1, aB ct (l_n lz) (u_32.2)) :: (LW ct lb lz ((o9, .inr (10, [.ref (u_32.1), .int (nI (0)), .int (nI 0), .int (nI 0)])) :: R))) := hD
  refine lv_goto (tgt := 97) hx hb dJ0_init_db425_38 (by decide) ?_
  have hP : va_P D vwCl ((u_32.1, aB ct (l_n lz) (u_32.2)) :: ((o9, .inr (10, [.ref (u_32.1), .int (nI (0)), .int (nI 0), .int (nI 0)])) :: (LW ct lb lz R))) H := zPp ((zF2 ((u_32.1, aB ct (l_n lz) (u_32.2)) :: []) (LW ct lb lz []) ((o9, .inr (10, [.ref (u_32.1), .int (nI (0)), .int (nI 0), .int (nI 0)])) :: []) (R)).trans (zMv1 ((o9, .inr (10, [.ref (u_32.1), .int (nI (0)), .int (nI 0), .int (nI 0)])) :: []) ((u_32.1, aB ct (l_n lz) (u_32.2)) :: []) (LW ct lb lz R))) hP
  have hD : va_D A ((u_32.1, aB ct (l_n lz) (u_32.2)) :: ((o9, .inr (10, [.ref (u_32.1), .int (nI (0)), .int (nI 0), .int (nI 0)])) :: (LW ct lb lz R))) := zDp ((zF2 ((u_32.1, aB ct (l_n lz) (u_32.2)) :: []) (LW ct lb lz []) ((o9, .inr (10, [.ref (u_32.1), .int (nI (0)), .int (nI 0), .int (nI 0)])) :: []) (R)).trans (zMv1 ((o9, .inr (10, [.ref (u_32.1), .int (nI (0)), .int (nI 0), .int (nI 0)])) :: []) ((u_32.1, aB ct (l_n lz) (u_32.2)) :: []) (LW ct lb lz R))) hD
  have hP : va_P D vwCl (SW ct (fun _ => o9) (u_32.1, l_n lz, u_32.2, nI 0, nI 0) (LW ct lb lz R)) H := zPp (List.Perm.swap _ _ _) hP
  have hD : va_D A (SW ct (fun _ => o9) (u_32.1, l_n lz, u_32.2, nI 0, nI 0) (LW ct lb lz R)) := zDp (List.Perm.swap _ _ _) hD
  refine W.widen (k := rmJ0_init_db425.cells) (n := rmJ0_init_db425.slots) (Nat.le_of_ble_eq_true rfl) (Nat.le_of_ble_eq_true rfl) ?_
  exact zVret (wf := fun z : SST => SW ct (fun _ => o9) z (LW ct lb lz R)) (u_32.1, l_n lz, u_32.2, nI 0, nI 0) hx hb hr hlocks hK hP hD hS dJ0_init_db425_97 ⟨hl1, h60, hr_32.1, fun j hj => ⟨(hr_32.2 j (by omega)).trans (hl5 j hj).1, (hl5 j hj).2⟩⟩
