/-! THE LAW FROM ITS ENTRY -/
theorem arr_K {args : Array Value} {s : State} {ty : FieldType} (h : (Cond.arrayClass ty).before args s = true) : ∃ cA : ClassId, ArrOfT s cA ty ∧ s.vm.findClass ("[" ++ ty.toString) = some cA := by
  obtain ⟨c, k, comp, h1, h2, h3⟩ := Cond.arrayClass_spec h
  exact ⟨c, fun n z => ⟨fun k h => (by cases h), k, h2, comp, h3⟩, h1⟩
theorem arr_O {args : Array Value} {s : State} {C : String} (h : (Cond.arrayOver (.object C)).before args s = true) : ∃ cA : ClassId, ArrOfT s cA (.object C) ∧ va_RA s cA (.object C) := by
  obtain ⟨comp, c, k, h1, h2, h3, h4, h5⟩ := Cond.arrayOver_spec h
  exact ⟨c, fun n z => ⟨fun k h => (by cases h), k, h3, comp, h4⟩, k, comp, h3, h4, h1, h5⟩
theorem law_K {args : Array Value} {s : State} (hts : ∀ w ∈ lw_tbl, w.before args s = true) (htsL : ∀ w ∈ wsL_law, w.before args s = true) : ∃ (D : va_G) (ct : Nat → ClassId), zK D ct s := by
  obtain ⟨c0, i0, k0⟩ := u_known (C := RJ4) (T := TJ4) (N := 4) (n := 4) htsL inlJ4 (hts _ (List.mem_of_getElem? (i := 276) (by decide +kernel)))
  obtain ⟨c1, i1, k1⟩ := u_known (C := RX1) (T := TX1) (N := 6) (n := 6) htsL inlX1 (hts _ (List.mem_of_getElem? (i := 213) (by decide +kernel)))
  obtain ⟨c2, i2, k2⟩ := u_known (C := RX3) (T := TX3) (N := 3) (n := 3) htsL inlX3 (hts _ (List.mem_of_getElem? (i := 148) (by decide +kernel)))
  obtain ⟨c3, i3, k3⟩ := u_known (C := RX4) (T := TX4) (N := 5) (n := 5) htsL inlX4 (hts _ (List.mem_of_getElem? (i := 252) (by decide +kernel)))
  obtain ⟨c4, i4, k4⟩ := u_known (C := RX5) (T := TX5) (N := 2) (n := 2) htsL inlX5 (hts _ (List.mem_of_getElem? (i := 239) (by decide +kernel)))
  obtain ⟨c5, i5, k5⟩ := u_known (C := RX6) (T := TX6) (N := 4) (n := 4) htsL inlX6 (hts _ (List.mem_of_getElem? (i := 168) (by decide +kernel)))
  obtain ⟨c6, i6, k6⟩ := u_known (C := RX7) (T := TX7) (N := 1) (n := 1) htsL inlX7 (hts _ (List.mem_of_getElem? (i := 187) (by decide +kernel)))
  obtain ⟨c7, i7, k7⟩ := u_known (C := RX8) (T := TX8) (N := 3) (n := 3) htsL inlX8 (hts _ (List.mem_of_getElem? (i := 197) (by decide +kernel)))
  obtain ⟨c8, i8, k8⟩ := u_known (C := RX9) (T := TX9) (N := 16) (n := 16) htsL inlX9 (hts _ (List.mem_of_getElem? (i := 43) (by decide +kernel)))
  obtain ⟨c9, i9, k9⟩ := u_known (C := RX10) (T := TX10) (N := 12) (n := 12) htsL inlX10 (hts _ (List.mem_of_getElem? (i := 35) (by decide +kernel)))
  obtain ⟨c10, i10, k10⟩ := u_known (C := RJ0) (T := TJ0) (N := 4) (n := 4) htsL inlJ0 (hts _ (List.mem_of_getElem? (i := 982) (by decide +kernel)))
  obtain ⟨a0, b0, d0⟩ := arr_K (ty := .int) (hts _ (List.mem_of_getElem? (i := 145) (by decide +kernel)))
  obtain ⟨a1, b1, d1⟩ := arr_K (ty := .float) (hts _ (List.mem_of_getElem? (i := 146) (by decide +kernel)))
  obtain ⟨a2, b2, d2⟩ := arr_K (ty := .long) (hts _ (List.mem_of_getElem? (i := 237) (by decide +kernel)))
  obtain ⟨a3, b3, d3⟩ := arr_K (ty := .char) (hts _ (List.mem_of_getElem? (i := 274) (by decide +kernel)))
  obtain ⟨a4, b4, d4⟩ := arr_K (ty := .byte) (hts _ (List.mem_of_getElem? (i := 307) (by decide +kernel)))
  obtain ⟨a5, b5, d5⟩ := arr_O (C := RX9) (hts _ (List.mem_of_getElem? (i := 154) (by decide +kernel)))
  refine ⟨(fun k => [c0, c1, c2, c3, c4, c5, c6, c7, c8, c9, c10].getD k c0, fun k => [i0, i1, i2, i3, i4, i5, i6, i7, i8, i9, i10].getD k i0), fun k => [a0, a1, a2, a3, a4, a5].getD k a0, fun k q hq => ?_, fun k q hq => ?_⟩
  · match k, hq with
    | 0, hq => cases hq; exact k0
    | 1, hq => cases hq; exact k1
    | 2, hq => cases hq; exact k2
    | 3, hq => cases hq; exact k3
    | 4, hq => cases hq; exact k4
    | 5, hq => cases hq; exact k5
    | 6, hq => cases hq; exact k6
    | 7, hq => cases hq; exact k7
    | 8, hq => cases hq; exact k8
    | 9, hq => cases hq; exact k9
    | 10, hq => cases hq; exact k10
    | k + 11, hq => simp [vwCl] at hq
  · match k, hq with
    | 0, hq => cases hq; exact ⟨b0, d0⟩
    | 1, hq => cases hq; exact ⟨b1, d1⟩
    | 2, hq => cases hq; exact ⟨b2, d2⟩
    | 3, hq => cases hq; exact ⟨b3, d3⟩
    | 4, hq => cases hq; exact ⟨b4, d4⟩
    | 5, hq => cases hq; exact ⟨b5, d5⟩
    | k + 6, hq => simp at hq
theorem yJ_0 : yJ y00 := by
  have nf0 : nF 0 := by unfold nF; decide
  refine ⟨fun _ => 0, fun _ => 0, ⟨rfl, rfl, rfl, fun k hk => absurd hk (Nat.not_lt_zero k), fun k hk => absurd hk (Nat.not_lt_zero k), fun k hk => absurd hk (Nat.not_lt_zero k)⟩, ⟨fun k hk => absurd hk (Nat.not_lt_zero k), fun j _ _ => rfl, rfl, rfl, rfl, fun k hk => absurd hk (Nat.not_lt_zero k), fun k hk => absurd hk (Nat.not_lt_zero k)⟩, ?_⟩
  exact ⟨⟨Nat.zero_le _, Nat.zero_le _, Nat.zero_le _, fun k hk => absurd hk (Nat.not_lt_zero k), fun k hk => absurd hk (Nat.not_lt_zero k), fun k hk => absurd hk (Nat.not_lt_zero k)⟩, fun j k _ hk => absurd hk (Nat.not_lt_zero k), fun k hk => absurd hk (Nat.not_lt_zero k), fun k hk => absurd hk (Nat.not_lt_zero k), fun _ _ => nf0, nf0⟩
theorem B43_0 : B43 y00 := ⟨yJ_0, rfl, rfl⟩
theorem LR_new (q : Nat) : LR [] (q, 16, fun _ => 0, 0, 0) := ⟨rfl, Or.inl rfl, Nat.zero_le _, sb_fit0, fun k hk => absurd hk (Nat.not_lt_zero k)⟩
theorem tv_X10 : ∀ j, j < 12 → defaultValue (tyX10 j) = vp_V [.null, .null, .int (nI 0), .null, .null, .null, .null, .null, .null, .null, .int (nI 0), .null] j := fun j hj => by
  rcases (show j = 0 ∨ j = 1 ∨ j = 2 ∨ j = 3 ∨ j = 4 ∨ j = 5 ∨ j = 6 ∨ j = 7 ∨ j = 8 ∨ j = 9 ∨ j = 10 ∨ j = 11 by omega) with rfl | rfl | rfl | rfl | rfl | rfl | rfl | rfl | rfl | rfl | rfl | rfl <;> rfl
set_option maxHeartbeats 4000000 in
set_option maxRecDepth 100000 in
theorem whole_start {p : Program} {e : Env} {s : State} {m : MethodId} {below : List Frame} {meth : Method} {c : Code} (l : Launch) (hflags : l.flags = flags0) {b L : Nat} {xs : Nat → Int32} (hL : L ≤ 260) (C0 : lw_At p s m meth c b L xs) : W p l e room_1 s m #[Value.ref b] below meth c s.heap [] 0 0 (lw_Z below #[Value.ref b] s) (entryFrame m ([Value.ref b] : List Value).toArray 27) := by
  obtain ⟨hx, hb, hr, hml, hown, hts, hXs, hbl, hlocks, hgv⟩ := id C0
  have hb : c.code = cL_law := hb
  have hown : s.vm.findClass RL = some m.cls := hown
  have htsL := law_hts hts
  obtain ⟨g, hX, hZ, hgb, hgl⟩ := law_zX hgv hts hXs hbl
  obtain ⟨D, ct, hK⟩ := law_K hts htsL
  have hO : va_AO RX9 s := va_AO.of (hts _ (List.mem_of_getElem? (i := 154) (by decide +kernel)))
  have hA : ∀ q : Nat, s.heap.size ≤ q → AD s q := fun _ h => h
  have hS : va_S (AD s) s.heap s.heap [] := va_S.rf
  have hP : va_P D vwCl [] s.heap := fun k q h => by simp at h
  have hD : va_D (AD s) [] := ⟨fun i j p q h => by simp at h, fun k q h => by simp at h⟩
  have hl := lv_entry ([.ref b]) (n := 27) (Nat.le_of_ble_eq_true rfl)
  rw [lg_entry_eq]
  generalize (lg_sl ([.ref b]) ++ List.replicate (27 - (lg_sl ([.ref b])).length) Slot.unset).toArray = ls at hl ⊢
  have hl : lv_has ls 27 [(0, .ref b)] := hl
  refine va_new (ci := 9) (fs := [.null, .null, .int (nI 0), .null, .null, .null, .null, .null, .null, .null, .int (nI 0), .null]) (C := RX10) (T := TX10) (N := 12) hx hb htsL inlX10 tyX10 tyX10_ok hown (htsL (.classLink RL 18 RX10) (by decide +kernel)) (htsL (.instantiable RX10 12) (by decide +kernel)) (htsL (.initialized RX10) (by decide +kernel)) hK hP hD hS hA rfl tv_X10 (Nat.le_of_ble_eq_true rfl) (Nat.le_of_ble_eq_true rfl) dL_law_0 (fun q0 H hP hD hS => ?_)
  have hP : va_P D vwCl [(q0, .inr (9, [.null, .null, .int (nI 0), .null, .null, .null, .null, .null, .null, .null, .int (nI 0), .null]))] H := hP
  have hD : va_D (AD s) [(q0, .inr (9, [.null, .null, .int (nI 0), .null, .null, .null, .null, .null, .null, .null, .int (nI 0), .null]))] := hD
  refine lv_dup hx hb dL_law_3 rfl ?_
  refine zNVY [] [.ref q0] (kX10_init q0 []) hx hb hml hown htsL (cwI 0 htsL gL_law_X10_init rfl rfl rfl (htsL (.initialized RX10) (by decide +kernel)) (htsL (.methodLink RL 88 yX10_init) (by decide +kernel)) (htsL (.instanceMethod yX10_init) (by decide +kernel)) rfl (by decide +kernel) ⟨(Nat.le_of_ble_eq_true rfl), (Nat.le_of_ble_eq_true rfl)⟩) hK hP hD hS hA hX hO rfl hl.1 rfl (Nat.le_of_ble_eq_true rfl) dL_law_4 ⟨(Nat.le_of_ble_eq_true rfl), (Nat.le_of_ble_eq_true rfl)⟩ (fun u H locs hu hP hD hS => ?_)
  have hP : va_P D vwCl (YW ct u.1 y00 (KR u.1 u.2.2.2.2.1 (-4, -4, -4, -4) (BW ct u.1 u.2.2.2.2.2.1 b00 (IW ct u.2.2.2.2.2.2.1 (xE g) i00 (LW ct (fun _ => u.2.2.2.2.2.2.2.1) (u.2.2.2.2.2.2.2.2, 16, fun _ => 0, 0, 0) (YW ct u.2.1 y00 (XO (fun _ => q0) u.1 u.2.1 u.2.2.1 u.2.2.2.2.1 u.2.2.2.2.2.1 u.2.2.2.2.2.2.1 (fun _ => u.2.2.2.2.2.2.2.1) (0, -4) (HW ct u.2.2.1 u.2.2.2.1 (0, 0, fun _ => y00) [])))))))) H := hP
  have hD : va_D (AD s) (YW ct u.1 y00 (KR u.1 u.2.2.2.2.1 (-4, -4, -4, -4) (BW ct u.1 u.2.2.2.2.2.1 b00 (IW ct u.2.2.2.2.2.2.1 (xE g) i00 (LW ct (fun _ => u.2.2.2.2.2.2.2.1) (u.2.2.2.2.2.2.2.2, 16, fun _ => 0, 0, 0) (YW ct u.2.1 y00 (XO (fun _ => q0) u.1 u.2.1 u.2.2.1 u.2.2.2.2.1 u.2.2.2.2.2.1 u.2.2.2.2.2.2.1 (fun _ => u.2.2.2.2.2.2.2.1) (0, -4) (HW ct u.2.2.1 u.2.2.2.1 (0, 0, fun _ => y00) [])))))))) := hD
  have hl : lv_has ls 27 [(0, .ref (xB g))] := by rw [hgb]; exact hl
  refine lv_astore_n (lv' := [(1, .ref ((fun _ => q0) 0)), (0, .ref (xB g))]) hx hb dL_law_7 rfl hl (by decide) rfl (fun ls hl => ?_)
  refine W.widen (k := 1000) (n := 10000) (Nat.le_of_ble_eq_true rfl) (Nat.le_of_ble_eq_true rfl) ?_
  have hs9 : xL g ≤ 260 := by rw [hgl]; exact hL
  refine law_s0 hx hb hml hown htsL hK hA hX u.1 y00 u.2.2.2.2.1 (-4, -4, -4, -4) u.2.2.2.2.2.1 b00 u.2.2.2.2.2.2.1 i00 (fun _ => u.2.2.2.2.2.2.2.1) (u.2.2.2.2.2.2.2.2, 16, fun _ => 0, 0, 0) u.2.1 y00 (fun _ => q0) (0, -4) u.2.2.1 u.2.2.2.1 (0, 0, fun _ => y00) [] B43_0 rfl rfl rfl (Nat.zero_le _) (Nat.zero_le _) hs9 1000 10000 (Nat.le_of_ble_eq_true rfl) (Nat.le_of_ble_eq_true rfl) ?_ H locs ls hP hD hS hl
  intro y1 rs1 hz1 H locs ls hk1 hk2 hk3 hP hD hS hl
  refine law_tl hx hb hml hown htsL hK hA hX u.1 u.2.2.2.2.1 u.2.2.2.2.2.1 u.2.2.2.2.2.2.1 i00 (fun _ => u.2.2.2.2.2.2.2.1) u.2.1 y00 (fun _ => q0) (0, -4) u.2.2.1 u.2.2.2.1 [] hZ hs9 (fun cc ss H locs ls hcc hss hS => ?_) 3 0 1000 10000 y1 rs1 b00 (u.2.2.2.2.2.2.2.2, 16, fun _ => 0, 0, 0) hz1 [] H locs ls rfl (Nat.le_of_ble_eq_true rfl) (Nat.le_of_ble_eq_true rfl) hk1 hk2 hk3 (LR_new _) hP hD hS hl
  refine lv_iconst (v := 1) hx hb dL_law_1511 (by decide) ?_
  refine va_forget (fun q hq => hS.2.2 q hq) ?_
  refine W.widen (k := room_1.cells) (n := room_1.slots) hcc hss ?_
  exact lw_ret (d0 := s.drawn) (Drawn.sameBut.refl s.drawn lw_cs) hx hb hr hlocks dL_law_1512
