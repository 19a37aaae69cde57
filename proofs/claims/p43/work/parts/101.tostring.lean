/-! TEXTS: a builder's text as a String -/
abbrev rmJ0_init_81219 : Room := { frames := 4, cells := 1, slots := 70, locals := 130 }
set_option maxHeartbeats 4000000 in
set_option maxRecDepth 100000 in
theorem kJ0_init_81219 {D : va_G} {g : XG} {ct : Nat → ClassId} {l : Launch} (o9 : Nat) (lb : Nat → Nat) (lz : LST) (R : va_W) (tx : List Nat) (hL : LR tx lz) (h60 : tx.length ≤ 60) : MX D ct g l yJ0_init_81219 wsJ0_init_81219 rmJ0_init_81219 ((o9, .inr (10, [.null, .int (nI 0), .int (nI 0), .int (nI 0)])) :: LW ct lb lz R) [.ref o9, .ref (lb 0)] (QV D ct (fun z : SST => SR tx z) (fun z : SST => SW ct (fun _ => o9) z (LW ct lb lz R))) := by
  refine MXof (cc := cJ0_init_81219) (maxL := 2) (ret := none) (by decide) rfl (Nat.le_of_ble_eq_true rfl) ?_
  intro p e s m args below meth c A H locs F hP hK hD hS hA hX ls hl
  obtain ⟨hx, hb, hr, hlocks, hml, hown, hts, hin⟩ := F
  have hl : lv_has ls 2 [(0, .ref o9), (1, .ref (lb 0))] := hl
  refine lv_aload_n hx hb dJ0_init_81219_0 rfl (lv_at hl 0 rfl) ?_
  refine lv_aload_n hx hb dJ0_init_81219_1 rfl (lv_at hl 1 rfl) ?_
  refine lv_null hx hb dJ0_init_81219_2 ?_
  refine zNVX [.ref (lb 0), .null] [] (kJ0_init_db425 o9 lb lz R tx hL h60) hx hb hml hown hts (cwI 2 hts gJ0_init_81219_J0_init_db425 rfl rfl rfl (hts (.initialized RJ0) (by decide +kernel)) (hts (.methodLink RJ0 489 yJ0_init_db425) (by decide +kernel)) (hts (.instanceMethod yJ0_init_db425) (by decide +kernel)) rfl (by decide +kernel) ⟨(Nat.le_of_ble_eq_true rfl), (Nat.le_of_ble_eq_true rfl)⟩) hK hP hD hS hA hX rfl hl.1 rfl (Nat.le_of_ble_eq_true rfl) dJ0_init_81219_3 ⟨(Nat.le_of_ble_eq_true rfl), (Nat.le_of_ble_eq_true rfl)⟩ (fun u H locs hu hP hD hS => ?_)
  refine W.widen (k := rmJ0_init_81219.cells) (n := rmJ0_init_81219.slots) (Nat.le_of_ble_eq_true rfl) (Nat.le_of_ble_eq_true rfl) ?_
  exact zVret (wf := fun z : SST => SW ct (fun _ => o9) z (LW ct lb lz R)) u hx hb hr hlocks hK hP hD hS dJ0_init_81219_6 hu
abbrev rmJ4_toString_0e30d : Room := { frames := 5, cells := 2, slots := 74, locals := 170 }
theorem in_J4_toString_J0 : ∀ w ∈ u_ws RJ0 TJ0 4, w ∈ wsJ4_toString_0e30d := by decide +kernel
set_option maxHeartbeats 4000000 in
set_option maxRecDepth 100000 in
theorem kJ4_toString_0e30d {D : va_G} {g : XG} {ct : Nat → ClassId} {l : Launch} (lb : Nat → Nat) (lz : LST) (R : va_W) (tx : List Nat) (hL : LR tx lz) (h60 : tx.length ≤ 60) : MX D ct g l yJ4_toString_0e30d wsJ4_toString_0e30d rmJ4_toString_0e30d (LW ct lb lz R) [.ref (lb 0)] (QR D ct (fun u : Nat × SST => SR tx u.2) (fun u : Nat × SST => u.1) (fun u : Nat × SST => SW ct (fun _ => u.1) u.2 (LW ct lb lz R))) := by
  refine MXof (cc := cJ4_toString_0e30d) (maxL := 1) (ret := (some (.object "java/lang/String"))) (by decide) rfl (Nat.le_of_ble_eq_true rfl) ?_
  intro p e s m args below meth c A H locs F hP hK hD hS hA hX ls hl
  obtain ⟨hx, hb, hr, hlocks, hml, hown, hts, hin⟩ := F
  have hl : lv_has ls 1 [(0, .ref (lb 0))] := hl
  refine va_new (ci := 10) (fs := [.null, .int (nI 0), .int (nI 0), .int (nI 0)]) (C := RJ0) (T := TJ0) (N := 4) hx hb hts in_J4_toString_J0 tyJ0 tyJ0_ok hown (hts (.classLink RJ4 18 RJ0) (by decide +kernel)) (hts (.instantiable RJ0 4) (by decide +kernel)) (hts (.initialized RJ0) (by decide +kernel)) hK hP hD hS hA rfl tv_J0 (Nat.le_of_ble_eq_true rfl) (Nat.le_of_ble_eq_true rfl) dJ4_toString_0e30d_0 (fun n0 H hP hD hS => ?_)
  have hP := zPp (List.perm_append_singleton _ _) hP
  have hD := zDp (List.perm_append_singleton _ _) hD
  refine lv_dup hx hb dJ4_toString_0e30d_3 rfl ?_
  refine lv_aload_n hx hb dJ4_toString_0e30d_4 rfl (lv_at hl 0 rfl) ?_
  refine zNVX [.ref (lb 0)] [.ref n0] (kJ0_init_81219 n0 lb lz R tx hL h60) hx hb hml hown hts (cwI 1 hts gJ4_toString_0e30d_J0_init_81219 rfl rfl rfl (hts (.initialized RJ0) (by decide +kernel)) (hts (.methodLink RJ4 137 yJ0_init_81219) (by decide +kernel)) (hts (.instanceMethod yJ0_init_81219) (by decide +kernel)) rfl (by decide +kernel) ⟨(Nat.le_of_ble_eq_true rfl), (Nat.le_of_ble_eq_true rfl)⟩) hK hP hD hS hA hX rfl hl.1 rfl (Nat.le_of_ble_eq_true rfl) dJ4_toString_0e30d_5 ⟨(Nat.le_of_ble_eq_true rfl), (Nat.le_of_ble_eq_true rfl)⟩ (fun u H locs hu hP hD hS => ?_)
  refine W.widen (k := rmJ4_toString_0e30d.cells) (n := rmJ4_toString_0e30d.slots) (Nat.le_of_ble_eq_true rfl) (Nat.le_of_ble_eq_true rfl) ?_
  exact zRret (ra := fun u : Nat × SST => u.1) (wf := fun u : Nat × SST => SW ct (fun _ => u.1) u.2 (LW ct lb lz R)) (n0, u) (Or.inl ⟨_, rfl⟩) hx hb hr hlocks hK hP hD hS dJ4_toString_0e30d_8 hu rfl
