/-! THE CLASS: its input -/
abbrev rmJ0_coder_7d493 : Room := { frames := 0, cells := 0, slots := 0, locals := 0 }
set_option maxHeartbeats 4000000 in
set_option maxRecDepth 100000 in
theorem kJ0_coder_7d493 {D : va_G} {g : XG} {ct : Nat → ClassId} {l : Launch}  (R : va_W) (zi : Nat) (hi : zi < 9) : MX D ct g l yJ0_coder_7d493 wsJ0_coder_7d493 rmJ0_coder_7d493 (R) [.ref (xK g zi)] (QI D ct (fun r0 (_ : Unit) => r0 = nI (0)) (fun _ : Unit => R)) := by
  refine MXof (cc := cJ0_coder_7d493) (maxL := 1) (ret := (some .byte)) (by decide) rfl (Nat.le_of_ble_eq_true rfl) ?_
  intro p e s m args below meth c A H locs F hP hK hD hS hA hX ls hl
  obtain ⟨hx, hb, hr, hlocks, hml, hown, hts, hin⟩ := F
  have hl : lv_has ls 1 [(0, .ref (xK g zi))] := hl
  refine va_gets (v := .int (nI 1)) hx hb hX.g8 hS hown (hts (.fieldLink RJ0 38 "java/lang/String" "COMPACT_STRINGS" "Z") (by decide +kernel)) (fun _ h => h) dJ0_coder_7d493_0 ?_
  refine lv_if_eq (tgt := 13) hx hb dJ0_coder_7d493_3 (by decide) (fun c9 => absurd c9 (by decide)) (fun c9 => ?_)
  refine lv_aload_n hx hb dJ0_coder_7d493_6 rfl (lv_at hl 0 rfl) ?_
  refine vk_getf (v := .int (nI (0))) hx hb (hX.g1.1 zi hi).2.1 hS hown (hts (.fieldLink RJ0 15 "java/lang/String" "coder" "B") (by decide +kernel)) (fun _ h => h) dJ0_coder_7d493_7 ?_
  refine lv_goto (tgt := 14) hx hb dJ0_coder_7d493_10 (by decide) ?_
  exact zNret () (by decide) hx hb hr hlocks hK hP hD hS dJ0_coder_7d493_14 (show nI (0) = nI (0) from rfl)
abbrev rmJ0_length_8abf5 : Room := { frames := 1, cells := 0, slots := 0, locals := 20 }
set_option maxHeartbeats 4000000 in
set_option maxRecDepth 100000 in
theorem kJ0_length_8abf5 {D : va_G} {g : XG} {ct : Nat → ClassId} {l : Launch}  (R : va_W) (zi : Nat) (hi : zi < 9) : MX D ct g l yJ0_length_8abf5 wsJ0_length_8abf5 rmJ0_length_8abf5 (R) [.ref (xK g zi)] (QI D ct (fun r0 (_ : Unit) => r0 = nI ((fmL zi).length)) (fun _ : Unit => R)) := by
  refine MXof (cc := cJ0_length_8abf5) (maxL := 1) (ret := (some .int)) (by decide) rfl (Nat.le_of_ble_eq_true rfl) ?_
  intro p e s m args below meth c A H locs F hP hK hD hS hA hX ls hl
  obtain ⟨hx, hb, hr, hlocks, hml, hown, hts, hin⟩ := F
  have hl : lv_has ls 1 [(0, .ref (xK g zi))] := hl
  refine lv_aload_n hx hb dJ0_length_8abf5_0 rfl (lv_at hl 0 rfl) ?_
  refine vk_getf (v := .ref (xV g zi)) hx hb (hX.g1.1 zi hi).2.2.1 hS hown (hts (.fieldLink RJ0 9 "java/lang/String" "value" "[B") (by decide +kernel)) (fun _ h => h) dJ0_length_8abf5_1 ?_
  refine va_tlen (v := nI ((fmL zi).length)) hx hb (hX.g1.1 zi hi).2.2.2 hS (by rw [fm_len hi]; rfl) dJ0_length_8abf5_4 ?_
  refine lv_aload_n hx hb dJ0_length_8abf5_5 rfl (lv_at hl 0 rfl) ?_
  refine zVIX [] [.int (nI ((fmL zi).length))] (kJ0_coder_7d493 (R) (zi) (show (zi) < 9 from hi)) hx hb hml hown hts (cwV 0 hts gJ0_length_8abf5_J0_coder_7d493 rfl rfl rfl (by decide +kernel) ⟨(Nat.le_of_ble_eq_true rfl), (Nat.le_of_ble_eq_true rfl)⟩) hK hP hD hS hA hX (vk_recv (i := zi) hX.g1 hi hS) rfl hl.1 rfl (Nat.le_of_ble_eq_true rfl) dJ0_length_8abf5_6 ⟨(Nat.le_of_ble_eq_true rfl), (Nat.le_of_ble_eq_true rfl)⟩ (fun r_6 _ H locs hr_6 hP hD hS => ?_)
  subst hr_6
  have hP : va_P D vwCl (R) H := hP
  have hD : va_D A (R) := hD
  refine lv_ishr hx hb dJ0_length_8abf5_9 ?_
  exact zIret () hx hb hr hlocks hK hP hD hS dJ0_length_8abf5_10 (show (nI ((fmL zi).length) >>> (nI (0) &&& 31)) = nI ((fmL zi).length) from (sb_shr0 _))
abbrev rmJ0_isLatin1_aae02 : Room := { frames := 0, cells := 0, slots := 0, locals := 0 }
set_option maxHeartbeats 4000000 in
set_option maxRecDepth 100000 in
theorem kJ0_isLatin1_aae02 {D : va_G} {g : XG} {ct : Nat → ClassId} {l : Launch}  (R : va_W) (zi : Nat) (hi : zi < 9) : MX D ct g l yJ0_isLatin1_aae02 wsJ0_isLatin1_aae02 rmJ0_isLatin1_aae02 (R) [.ref (xK g zi)] (QI D ct (fun r0 (_ : Unit) => r0 = nI (1)) (fun _ : Unit => R)) := by
  refine MXof (cc := cJ0_isLatin1_aae02) (maxL := 1) (ret := (some .boolean)) (by decide) rfl (Nat.le_of_ble_eq_true rfl) ?_
  intro p e s m args below meth c A H locs F hP hK hD hS hA hX ls hl
  obtain ⟨hx, hb, hr, hlocks, hml, hown, hts, hin⟩ := F
  have hl : lv_has ls 1 [(0, .ref (xK g zi))] := hl
  refine va_gets (v := .int (nI 1)) hx hb hX.g8 hS hown (hts (.fieldLink RJ0 38 "java/lang/String" "COMPACT_STRINGS" "Z") (by decide +kernel)) (fun _ h => h) dJ0_isLatin1_aae02_0 ?_
  refine lv_if_eq (tgt := 17) hx hb dJ0_isLatin1_aae02_3 (by decide) (fun c9 => absurd c9 (by decide)) (fun c9 => ?_)
  refine lv_aload_n hx hb dJ0_isLatin1_aae02_6 rfl (lv_at hl 0 rfl) ?_
  refine vk_getf (v := .int (nI (0))) hx hb (hX.g1.1 zi hi).2.1 hS hown (hts (.fieldLink RJ0 15 "java/lang/String" "coder" "B") (by decide +kernel)) (fun _ h => h) dJ0_isLatin1_aae02_7 ?_
  refine lv_if_ne (tgt := 17) hx hb dJ0_isLatin1_aae02_10 (by decide) (fun c9 => absurd (by decide) c9) (fun c9 => ?_)
  refine lv_iconst (v := nI (1)) hx hb dJ0_isLatin1_aae02_13 (by decide) ?_
  refine lv_goto (tgt := 18) hx hb dJ0_isLatin1_aae02_14 (by decide) ?_
  exact zZret () (by decide) hx hb hr hlocks hK hP hD hS dJ0_isLatin1_aae02_18 (show nI (1) = nI (1) from rfl)
abbrev rmJ3_checkIndex_8e157_n : Room := { frames := 0, cells := 0, slots := 0, locals := 0 }
set_option maxHeartbeats 4000000 in
set_option maxRecDepth 100000 in
theorem kJ3_checkIndex_8e157_n {D : va_G} {g : XG} {ct : Nat → ClassId} {l : Launch}  (R : va_W) (k : Nat) (n : Nat) (hk : k < n) (hn : n < 2 ^ 31) : MX D ct g l yJ3_checkIndex_8e157 wsJ3_checkIndex_8e157 rmJ3_checkIndex_8e157_n (R) [.int (nI (k)), .int (nI (n)), .null] (QI D ct (fun r0 (_ : Unit) => r0 = nI (k)) (fun _ : Unit => R)) := by
  refine MXof (cc := cJ3_checkIndex_8e157) (maxL := 3) (ret := (some .int)) (by decide) rfl (Nat.le_of_ble_eq_true rfl) ?_
  intro p e s m args below meth c A H locs F hP hK hD hS hA hX ls hl
  obtain ⟨hx, hb, hr, hlocks, hml, hown, hts, hin⟩ := F
  have hl : lv_has ls 3 [(0, .int (nI (k))), (1, .int (nI (n))), (2, .null)] := hl
  refine lv_iload_n hx hb dJ3_checkIndex_8e157_0 rfl (lv_at hl 0 rfl) ?_
  refine zN_if_lt (tgt := 9) hx hb (by omega) dJ3_checkIndex_8e157_1 (by decide) ?_
  refine lv_iload_n hx hb dJ3_checkIndex_8e157_4 rfl (lv_at hl 0 rfl) ?_
  refine lv_iload_n hx hb dJ3_checkIndex_8e157_5 rfl (lv_at hl 1 rfl) ?_
  refine zN_icmp_lt (tgt := 16) hx hb (by omega) (by omega) dJ3_checkIndex_8e157_6 (by decide) (fun c6_2 => ?_) (fun c6_2 => ?_)
  · skip
    refine lv_iload_n hx hb dJ3_checkIndex_8e157_16 rfl (lv_at hl 0 rfl) ?_
    exact zIret () hx hb hr hlocks hK hP hD hS dJ3_checkIndex_8e157_17 (show nI (k) = nI (k) from rfl)
  · skip
    exact absurd hk c6_2
abbrev rmJ3_checkIndex_8e157_r : Room := { frames := 0, cells := 0, slots := 0, locals := 0 }
set_option maxHeartbeats 4000000 in
set_option maxRecDepth 100000 in
theorem kJ3_checkIndex_8e157_r {D : va_G} {g : XG} {ct : Nat → ClassId} {l : Launch}  (R : va_W) (k : Nat) (n : Nat) (t9 : Nat) (hk : k < n) (hn : n < 2 ^ 31) : MX D ct g l yJ3_checkIndex_8e157 wsJ3_checkIndex_8e157 rmJ3_checkIndex_8e157_r (R) [.int (nI (k)), .int (nI (n)), .ref (t9)] (QI D ct (fun r0 (_ : Unit) => r0 = nI (k)) (fun _ : Unit => R)) := by
  refine MXof (cc := cJ3_checkIndex_8e157) (maxL := 3) (ret := (some .int)) (by decide) rfl (Nat.le_of_ble_eq_true rfl) ?_
  intro p e s m args below meth c A H locs F hP hK hD hS hA hX ls hl
  obtain ⟨hx, hb, hr, hlocks, hml, hown, hts, hin⟩ := F
  have hl : lv_has ls 3 [(0, .int (nI (k))), (1, .int (nI (n))), (2, .ref (t9))] := hl
  refine lv_iload_n hx hb dJ3_checkIndex_8e157_0 rfl (lv_at hl 0 rfl) ?_
  refine zN_if_lt (tgt := 9) hx hb (by omega) dJ3_checkIndex_8e157_1 (by decide) ?_
  refine lv_iload_n hx hb dJ3_checkIndex_8e157_4 rfl (lv_at hl 0 rfl) ?_
  refine lv_iload_n hx hb dJ3_checkIndex_8e157_5 rfl (lv_at hl 1 rfl) ?_
  refine zN_icmp_lt (tgt := 16) hx hb (by omega) (by omega) dJ3_checkIndex_8e157_6 (by decide) (fun c6_2 => ?_) (fun c6_2 => ?_)
  · skip
    refine lv_iload_n hx hb dJ3_checkIndex_8e157_16 rfl (lv_at hl 0 rfl) ?_
    exact zIret () hx hb hr hlocks hK hP hD hS dJ3_checkIndex_8e157_17 (show nI (k) = nI (k) from rfl)
  · skip
    exact absurd hk c6_2
abbrev rmJ0_checkIndex_df160 : Room := { frames := 1, cells := 0, slots := 0, locals := 22 }
set_option maxHeartbeats 4000000 in
set_option maxRecDepth 100000 in
theorem kJ0_checkIndex_df160 {D : va_G} {g : XG} {ct : Nat → ClassId} {l : Launch}  (R : va_W) (k : Nat) (n : Nat) (hk : k < n) (hn : n < 2 ^ 31) : MX D ct g l yJ0_checkIndex_df160 wsJ0_checkIndex_df160 rmJ0_checkIndex_df160 (R) [.int (nI (k)), .int (nI (n))] (QV D ct (fun _ : Unit => True) (fun _ : Unit => R)) := by
  refine MXof (cc := cJ0_checkIndex_df160) (maxL := 2) (ret := none) (by decide) rfl (Nat.le_of_ble_eq_true rfl) ?_
  intro p e s m args below meth c A H locs F hP hK hD hS hA hX ls hl
  obtain ⟨hx, hb, hr, hlocks, hml, hown, hts, hin⟩ := F
  have hl : lv_has ls 2 [(0, .int (nI (k))), (1, .int (nI (n)))] := hl
  refine lv_iload_n hx hb dJ0_checkIndex_df160_0 rfl (lv_at hl 0 rfl) ?_
  refine lv_iload_n hx hb dJ0_checkIndex_df160_1 rfl (lv_at hl 1 rfl) ?_
  rcases hX.g13 with h13 | ⟨t13, h13⟩
  · skip
    refine va_gets hx hb h13 hS hown (hts (.fieldLink RJ0 1053 "jdk/internal/util/Preconditions" "SIOOBE_FORMATTER" "Ljava/util/function/BiFunction;") (by decide +kernel)) (fun _ h => h) dJ0_checkIndex_df160_2 ?_
    refine zSIX [.int (nI (k)), .int (nI (n)), .null] [] (kJ3_checkIndex_8e157_n (R) (k) (n) (show (k) < (n) from hk) (show (n) < 2 ^ 31 from hn)) hx hb hml hown hts (va_cwS 3 hts gJ0_checkIndex_df160_J3_checkIndex_8e157 rfl rfl rfl (by decide +kernel) ⟨(Nat.le_of_ble_eq_true rfl), (Nat.le_of_ble_eq_true rfl)⟩) hK hP hD hS hA hX rfl hl.1 rfl (Nat.le_of_ble_eq_true rfl) dJ0_checkIndex_df160_5 ⟨(Nat.le_of_ble_eq_true rfl), (Nat.le_of_ble_eq_true rfl)⟩ (fun r_5 _ H locs hr_5 hP hD hS => ?_)
    subst hr_5
    have hP : va_P D vwCl (R) H := hP
    have hD : va_D A (R) := hD
    refine lv_pop hx hb dJ0_checkIndex_df160_8 rfl ?_
    exact zVret () hx hb hr hlocks hK hP hD hS dJ0_checkIndex_df160_9 trivial
  · skip
    refine va_gets hx hb h13 hS hown (hts (.fieldLink RJ0 1053 "jdk/internal/util/Preconditions" "SIOOBE_FORMATTER" "Ljava/util/function/BiFunction;") (by decide +kernel)) (fun _ h => h) dJ0_checkIndex_df160_2 ?_
    refine zSIX [.int (nI (k)), .int (nI (n)), .ref (t13)] [] (kJ3_checkIndex_8e157_r (R) (k) (n) (t13) (show (k) < (n) from hk) (show (n) < 2 ^ 31 from hn)) hx hb hml hown hts (va_cwS 3 hts gJ0_checkIndex_df160_J3_checkIndex_8e157 rfl rfl rfl (by decide +kernel) ⟨(Nat.le_of_ble_eq_true rfl), (Nat.le_of_ble_eq_true rfl)⟩) hK hP hD hS hA hX rfl hl.1 rfl (Nat.le_of_ble_eq_true rfl) dJ0_checkIndex_df160_5 ⟨(Nat.le_of_ble_eq_true rfl), (Nat.le_of_ble_eq_true rfl)⟩ (fun r_5 _ H locs hr_5 hP hD hS => ?_)
    subst hr_5
    have hP : va_P D vwCl (R) H := hP
    have hD : va_D A (R) := hD
    refine lv_pop hx hb dJ0_checkIndex_df160_8 rfl ?_
    exact zVret () hx hb hr hlocks hK hP hD hS dJ0_checkIndex_df160_9 trivial
abbrev rmJ1_charAt_3b067 : Room := { frames := 2, cells := 0, slots := 0, locals := 43 }
set_option maxHeartbeats 4000000 in
set_option maxRecDepth 100000 in
theorem kJ1_charAt_3b067 {D : va_G} {g : XG} {ct : Nat → ClassId} {l : Launch}  (R : va_W) (k : Nat) (zi : Nat) (hi : zi < 9) (hk : k < (fmL zi).length) : MX D ct g l yJ1_charAt_3b067 wsJ1_charAt_3b067 rmJ1_charAt_3b067 (R) [.ref (xV g zi), .int (nI (k))] (QI D ct (fun r0 (_ : Unit) => r0 = nI ((fmL zi).getD k 0)) (fun _ : Unit => R)) := by
  refine MXof (cc := cJ1_charAt_3b067) (maxL := 2) (ret := (some .char)) (by decide) rfl (Nat.le_of_ble_eq_true rfl) ?_
  intro p e s m args below meth c A H locs F hP hK hD hS hA hX ls hl
  obtain ⟨hx, hb, hr, hlocks, hml, hown, hts, hin⟩ := F
  have hl : lv_has ls 2 [(0, .ref (xV g zi)), (1, .int (nI (k)))] := hl
  refine lv_iload_n hx hb dJ1_charAt_3b067_0 rfl (lv_at hl 1 rfl) ?_
  refine lv_aload_n hx hb dJ1_charAt_3b067_1 rfl (lv_at hl 0 rfl) ?_
  refine va_tlen (v := nI ((fmL zi).length)) hx hb (hX.g1.1 zi hi).2.2.2 hS (by rw [fm_len hi]; rfl) dJ1_charAt_3b067_2 ?_
  refine zSVX [.int (nI (k)), .int (nI ((fmL zi).length))] [] (kJ0_checkIndex_df160 (R) (k) ((fmL zi).length) (show (k) < ((fmL zi).length) from hk) (show ((fmL zi).length) < 2 ^ 31 from fm_lt hi)) hx hb hml hown hts (va_cwS 2 hts gJ1_charAt_3b067_J0_checkIndex_df160 rfl rfl rfl (by decide +kernel) ⟨(Nat.le_of_ble_eq_true rfl), (Nat.le_of_ble_eq_true rfl)⟩) hK hP hD hS hA hX rfl hl.1 rfl (Nat.le_of_ble_eq_true rfl) dJ1_charAt_3b067_3 ⟨(Nat.le_of_ble_eq_true rfl), (Nat.le_of_ble_eq_true rfl)⟩ (fun _ H locs hr_3 hP hD hS => ?_)
  have hP : va_P D vwCl (R) H := hP
  have hD : va_D A (R) := hD
  refine lv_aload_n hx hb dJ1_charAt_3b067_6 rfl (lv_at hl 0 rfl) ?_
  refine lv_iload_n hx hb dJ1_charAt_3b067_7 rfl (lv_at hl 1 rfl) ?_
  refine va_tb (v := .int (nI ((fmL zi).getD k 0))) hx hb (hX.g1.1 zi hi).2.2.2 hS (by rw [fm_len hi]; exact vp_in_nI (n := k) hk (fm_lt hi)) (by show Value.int ((xBy.getD zi []).getD (nI k).toNatClampNeg 0) = _; rw [nI_clamp (fm_ix hi hk), fm_by hi hk]) dJ1_charAt_3b067_8 ?_
  refine lv_sipush (v := nI (255)) hx hb dJ1_charAt_3b067_9 (by decide) ?_
  refine lv_iand hx hb dJ1_charAt_3b067_12 ?_
  refine lv_i2c (v := nI ((fmL zi).getD k 0)) hx hb dJ1_charAt_3b067_13 (ch_i2c (fm_128 hi hk)) ?_
  exact zNret () (ch_nar (by have := fm_128 hi hk; omega)) hx hb hr hlocks hK hP hD hS dJ1_charAt_3b067_14 (show nI ((fmL zi).getD k 0) = nI ((fmL zi).getD k 0) from rfl)
abbrev rmJ0_charAt_5068e : Room := { frames := 3, cells := 0, slots := 0, locals := 64 }
set_option maxHeartbeats 4000000 in
set_option maxRecDepth 100000 in
theorem kJ0_charAt_5068e {D : va_G} {g : XG} {ct : Nat → ClassId} {l : Launch}  (R : va_W) (k : Nat) (zi : Nat) (hi : zi < 9) (hk : k < (fmL zi).length) : MX D ct g l yJ0_charAt_5068e wsJ0_charAt_5068e rmJ0_charAt_5068e (R) [.ref (xK g zi), .int (nI (k))] (QI D ct (fun r0 (_ : Unit) => r0 = nI ((fmL zi).getD k 0)) (fun _ : Unit => R)) := by
  refine MXof (cc := cJ0_charAt_5068e) (maxL := 2) (ret := (some .char)) (by decide) rfl (Nat.le_of_ble_eq_true rfl) ?_
  intro p e s m args below meth c A H locs F hP hK hD hS hA hX ls hl
  obtain ⟨hx, hb, hr, hlocks, hml, hown, hts, hin⟩ := F
  have hl : lv_has ls 2 [(0, .ref (xK g zi)), (1, .int (nI (k)))] := hl
  refine lv_aload_n hx hb dJ0_charAt_5068e_0 rfl (lv_at hl 0 rfl) ?_
  refine zVIX [] [] (kJ0_isLatin1_aae02 (R) (zi) (show (zi) < 9 from hi)) hx hb hml hown hts (cwV 0 hts gJ0_charAt_5068e_J0_isLatin1_aae02 rfl rfl rfl (by decide +kernel) ⟨(Nat.le_of_ble_eq_true rfl), (Nat.le_of_ble_eq_true rfl)⟩) hK hP hD hS hA hX (vk_recv (i := zi) hX.g1 hi hS) rfl hl.1 rfl (Nat.le_of_ble_eq_true rfl) dJ0_charAt_5068e_1 ⟨(Nat.le_of_ble_eq_true rfl), (Nat.le_of_ble_eq_true rfl)⟩ (fun r_1 _ H locs hr_1 hP hD hS => ?_)
  subst hr_1
  have hP : va_P D vwCl (R) H := hP
  have hD : va_D A (R) := hD
  refine lv_if_eq (tgt := 16) hx hb dJ0_charAt_5068e_4 (by decide) (fun c9 => absurd c9 (by decide)) (fun c9 => ?_)
  refine lv_aload_n hx hb dJ0_charAt_5068e_7 rfl (lv_at hl 0 rfl) ?_
  refine vk_getf (v := .ref (xV g zi)) hx hb (hX.g1.1 zi hi).2.2.1 hS hown (hts (.fieldLink RJ0 9 "java/lang/String" "value" "[B") (by decide +kernel)) (fun _ h => h) dJ0_charAt_5068e_8 ?_
  refine lv_iload_n hx hb dJ0_charAt_5068e_11 rfl (lv_at hl 1 rfl) ?_
  refine zSIX [.ref (xV g zi), .int (nI (k))] [] (kJ1_charAt_3b067 (R) (k) (zi) (show (zi) < 9 from hi) (show (k) < (fmL (zi)).length from hk)) hx hb hml hown hts (va_cwS 2 hts gJ0_charAt_5068e_J1_charAt_3b067 rfl rfl rfl (by decide +kernel) ⟨(Nat.le_of_ble_eq_true rfl), (Nat.le_of_ble_eq_true rfl)⟩) hK hP hD hS hA hX rfl hl.1 rfl (Nat.le_of_ble_eq_true rfl) dJ0_charAt_5068e_12 ⟨(Nat.le_of_ble_eq_true rfl), (Nat.le_of_ble_eq_true rfl)⟩ (fun r_12 _ H locs hr_12 hP hD hS => ?_)
  subst hr_12
  have hP : va_P D vwCl (R) H := hP
  have hD : va_D A (R) := hD
  exact zNret () (ch_nar (by have := fm_128 hi hk; omega)) hx hb hr hlocks hK hP hD hS dJ0_charAt_5068e_15 (show nI ((fmL (zi)).getD (k) 0) = nI ((fmL zi).getD k 0) from rfl)
