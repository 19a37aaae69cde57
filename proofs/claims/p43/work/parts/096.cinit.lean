/-! CONSTRUCTORS -/
section ZNEW
variable {D : va_G} {ct : Nat → ClassId} {p : Program} {l : Launch} {e : Env} {R : Room} {s : State} {m : MethodId} {args : Array Value} {below : List Frame} {meth : Method} {c : Code} {H : Heap} {locs : List Loc} {cells slots : Nat} {Q : State → Prop}
variable {cc : ByteArray} {pc : Nat} {ls : Array Slot} {rest : List Value} {A : Nat → Prop} {ws : va_W} {a a0 index : Nat} {own : String}
theorem zNewI {N : Nat} (hx : p.tables.exec = Jvm.exec) (hb : c.code = cc) (harr : (Cond.arrayClass .int).before args s = true) (hK : zK D ct s) (hP : va_P D vwCl ws H) (hD : va_D A ws) (hS : va_S A s.heap H locs) (hA : ∀ q, s.heap.size ≤ q → A q) (hN : N < 65536) (hcells : cells + 1 ≤ R.cells) (hslots : slots + N ≤ R.slots) (hdg : decode cc pc = .ok (.newarray .int, 2))
    (kk : ∀ (q : Nat) (H1 : Heap), va_P D vwCl ((q, aI ct N (fun _ => 0)) :: ws) H1 → va_D A ((q, aI ct N (fun _ => 0)) :: ws) → va_S A s.heap H1 locs → W p l e R s m args below meth c H1 locs (cells + 1) (slots + N) Q (F0 m (pc + 2) ls (.ref q :: rest))) : W p l e R s m args below meth c H locs cells slots Q (F0 m pc ls (.int (nI N) :: rest)) := by
  refine va_newa (atype := .int) (ty := .int) (a0 := (N, .inl (fun _ => 0))) (N' := N) hx hb harr rfl hK hP hD hS hA (fun cA => rfl) (nI_pos (by omega)) (nI_clamp (by omega)) (by show N * 4 ≤ 536870912; omega) hcells hslots hdg (fun q cA H1 hK1 hP1 hD1 hS1 => ?_)
  have e1 : cA = ct 0 := by
    have h1 := (hK1.2 6 (cA, .int) rfl).2
    have h2 := (hK.2 0 (ct 0, .int) rfl).2
    exact Option.some.inj (h1.symm.trans h2)
  subst e1
  exact kk q H1 (zPp (List.perm_append_singleton _ _) hP1) (zDp (List.perm_append_singleton _ _) hD1) hS1
theorem zNewF {N : Nat} (hx : p.tables.exec = Jvm.exec) (hb : c.code = cc) (harr : (Cond.arrayClass .float).before args s = true) (hK : zK D ct s) (hP : va_P D vwCl ws H) (hD : va_D A ws) (hS : va_S A s.heap H locs) (hA : ∀ q, s.heap.size ≤ q → A q) (hN : N < 65536) (hcells : cells + 1 ≤ R.cells) (hslots : slots + N ≤ R.slots) (hdg : decode cc pc = .ok (.newarray .float, 2))
    (kk : ∀ (q : Nat) (H1 : Heap), va_P D vwCl ((q, aF ct N (fun _ => 0)) :: ws) H1 → va_D A ((q, aF ct N (fun _ => 0)) :: ws) → va_S A s.heap H1 locs → W p l e R s m args below meth c H1 locs (cells + 1) (slots + N) Q (F0 m (pc + 2) ls (.ref q :: rest))) : W p l e R s m args below meth c H locs cells slots Q (F0 m pc ls (.int (nI N) :: rest)) := by
  refine va_newa (atype := .float) (ty := .float) (a0 := (N, .inr (.inr (.inl (fun _ => 0))))) (N' := N) hx hb harr rfl hK hP hD hS hA (fun cA => rfl) (nI_pos (by omega)) (nI_clamp (by omega)) (by show N * 4 ≤ 536870912; omega) hcells hslots hdg (fun q cA H1 hK1 hP1 hD1 hS1 => ?_)
  have e1 : cA = ct 1 := by
    have h1 := (hK1.2 6 (cA, .float) rfl).2
    have h2 := (hK.2 1 (ct 1, .float) rfl).2
    exact Option.some.inj (h1.symm.trans h2)
  subst e1
  exact kk q H1 (zPp (List.perm_append_singleton _ _) hP1) (zDp (List.perm_append_singleton _ _) hD1) hS1
theorem zNewL {N : Nat} (hx : p.tables.exec = Jvm.exec) (hb : c.code = cc) (harr : (Cond.arrayClass .long).before args s = true) (hK : zK D ct s) (hP : va_P D vwCl ws H) (hD : va_D A ws) (hS : va_S A s.heap H locs) (hA : ∀ q, s.heap.size ≤ q → A q) (hN : N < 65536) (hcells : cells + 1 ≤ R.cells) (hslots : slots + N ≤ R.slots) (hdg : decode cc pc = .ok (.newarray .long, 2))
    (kk : ∀ (q : Nat) (H1 : Heap), va_P D vwCl ((q, aL ct N (fun _ => 0)) :: ws) H1 → va_D A ((q, aL ct N (fun _ => 0)) :: ws) → va_S A s.heap H1 locs → W p l e R s m args below meth c H1 locs (cells + 1) (slots + N) Q (F0 m (pc + 2) ls (.ref q :: rest))) : W p l e R s m args below meth c H locs cells slots Q (F0 m pc ls (.int (nI N) :: rest)) := by
  refine va_newa (atype := .long) (ty := .long) (a0 := (N, .inr (.inl (fun _ => 0)))) (N' := N) hx hb harr rfl hK hP hD hS hA (fun cA => rfl) (nI_pos (by omega)) (nI_clamp (by omega)) (by show N * 8 ≤ 536870912; omega) hcells hslots hdg (fun q cA H1 hK1 hP1 hD1 hS1 => ?_)
  have e1 : cA = ct 2 := by
    have h1 := (hK1.2 6 (cA, .long) rfl).2
    have h2 := (hK.2 2 (ct 2, .long) rfl).2
    exact Option.some.inj (h1.symm.trans h2)
  subst e1
  exact kk q H1 (zPp (List.perm_append_singleton _ _) hP1) (zDp (List.perm_append_singleton _ _) hD1) hS1
theorem zNewC {N : Nat} (hx : p.tables.exec = Jvm.exec) (hb : c.code = cc) (harr : (Cond.arrayClass .char).before args s = true) (hK : zK D ct s) (hP : va_P D vwCl ws H) (hD : va_D A ws) (hS : va_S A s.heap H locs) (hA : ∀ q, s.heap.size ≤ q → A q) (hN : N < 65536) (hcells : cells + 1 ≤ R.cells) (hslots : slots + N ≤ R.slots) (hdg : decode cc pc = .ok (.newarray .char, 2))
    (kk : ∀ (q : Nat) (H1 : Heap), va_P D vwCl ((q, aC ct N (fun _ => 0)) :: ws) H1 → va_D A ((q, aC ct N (fun _ => 0)) :: ws) → va_S A s.heap H1 locs → W p l e R s m args below meth c H1 locs (cells + 1) (slots + N) Q (F0 m (pc + 2) ls (.ref q :: rest))) : W p l e R s m args below meth c H locs cells slots Q (F0 m pc ls (.int (nI N) :: rest)) := by
  refine va_newa (atype := .char) (ty := .char) (a0 := (N, .inl (fun _ => 0))) (N' := N) hx hb harr rfl hK hP hD hS hA (fun cA => rfl) (nI_pos (by omega)) (nI_clamp (by omega)) (by show N * 2 ≤ 536870912; omega) hcells hslots hdg (fun q cA H1 hK1 hP1 hD1 hS1 => ?_)
  have e1 : cA = ct 3 := by
    have h1 := (hK1.2 6 (cA, .char) rfl).2
    have h2 := (hK.2 3 (ct 3, .char) rfl).2
    exact Option.some.inj (h1.symm.trans h2)
  subst e1
  exact kk q H1 (zPp (List.perm_append_singleton _ _) hP1) (zDp (List.perm_append_singleton _ _) hD1) hS1
end ZNEW
/-- a yard that is new -/
def y00 : YS := (0, fun _ => 0, fun _ => 0, fun _ => 0, fun _ => 0, 0, fun _ => 0, fun _ => 0, fun _ => 0, 0, fun _ => 0, fun _ => 0, fun _ => 0, fun _ => 0, 0, 0)
def b00 : BS := (fun _ => 0, 0, fun _ => 0, fun _ => 0, fun _ => 0)
def m00 : MS := (fun _ => 0, fun _ => 0, 0, 0, 0, 0, 0, 0, fun _ => 0, 0, fun _ => 0, 0, fun _ => 0, 0, 0, 0, -4, fun _ => 0, 0)
abbrev rmX9_init : Room := { frames := 1, cells := 11, slots := 84, locals := 20 }
theorem in_X9_init : ∀ w ∈ u_ws RX9 TX9 16, w ∈ wsX9_init := by decide +kernel
set_option maxHeartbeats 4000000 in
set_option maxRecDepth 100000 in
theorem kX9_init {D : va_G} {ct : Nat → ClassId} {l : Launch} (o9 : Nat)  (R : va_W) : MV D ct l yX9_init wsX9_init rmX9_init ((o9, .inr (8, [.int (nI 0), .null, .null, .null, .null, .int (nI 0), .null, .null, .null, .int (nI 0), .null, .null, .null, .null, .float 0, .int (nI 0)])) :: R) [.ref o9] (fun o : Nat → Nat => o 0 = o9) (fun o : Nat → Nat => YW ct o y00 R) := by
  refine MVof (cc := cX9_init) (maxL := 1) (ret := none) (by decide) rfl (Nat.le_of_ble_eq_true rfl) ?_
  intro p e s m args below meth c A H locs F hP hK hD hS hA ls hl
  obtain ⟨hx, hb, hr, hlocks, hml, hown, hts, hin⟩ := F
  have hl : lv_has ls 1 [(0, .ref o9)] := hl
  have h_own := in_X9_init
  refine lv_aload_n hx hb dX9_init_0 rfl (lv_at hl 0 rfl) ?_
  refine W.objInit hx hb hown (hts (.methodLink RX9 3 objectInit) (by decide +kernel)) (hts (.instanceMethod objectInit) (by decide +kernel)) (hts (.code objectInit ⟨#[0xb1]⟩ 1 none) (by decide +kernel)) rfl (by rw [hml]; exact hl.1) rfl dX9_init_1 (Nat.le_of_ble_eq_true rfl) (Nat.le_of_ble_eq_true rfl) ?_
  refine W.eq (g2 := F0 m 4 ls []) rfl ?_
  refine lv_aload_n hx hb dX9_init_4 rfl (lv_at hl 0 rfl) ?_
  refine lv_bipush (v := nI (12)) hx hb dX9_init_5 (by decide) ?_
  refine zNewI (N := 12) hx hb (hts (.arrayClass .int) (by decide +kernel)) hK hP hD hS hA (by decide) (Nat.le_of_ble_eq_true rfl) (Nat.le_of_ble_eq_true rfl) dX9_init_7 (fun q1 H hP hD hS => ?_)
  refine va_putF (ci := 8) (v := .ref q1) (ty := tyX9 1) hx hb hts h_own tyX9 tyX9_ok nmX9 hown hK hP hD hS 1 rfl rfl 1 (by decide) (hts (.fieldLink RX9 9 "CartArguments$Yard" "kinds" "[I") (by decide +kernel)) (fun _ h9 => h9) rfl (hin.trans rfl) rfl (tyX9_ok 1 (by decide)) rfl rfl (Nat.le_of_ble_eq_true rfl) dX9_init_9 (fun H locs hP hD hS => ?_)
  have hP : va_P D vwCl ((q1, aI ct 12 (fun _ => 0)) :: (o9, .inr (8, [.int (nI 0), .ref q1, .null, .null, .null, .int (nI 0), .null, .null, .null, .int (nI 0), .null, .null, .null, .null, .float 0, .int (nI 0)])) :: R) H := hP
  have hD : va_D A ((q1, aI ct 12 (fun _ => 0)) :: (o9, .inr (8, [.int (nI 0), .ref q1, .null, .null, .null, .int (nI 0), .null, .null, .null, .int (nI 0), .null, .null, .null, .null, .float 0, .int (nI 0)])) :: R) := hD
  refine lv_aload_n hx hb dX9_init_12 rfl (lv_at hl 0 rfl) ?_
  refine lv_bipush (v := nI (12)) hx hb dX9_init_13 (by decide) ?_
  refine zNewI (N := 12) hx hb (hts (.arrayClass .int) (by decide +kernel)) hK hP hD hS hA (by decide) (Nat.le_of_ble_eq_true rfl) (Nat.le_of_ble_eq_true rfl) dX9_init_15 (fun q2 H hP hD hS => ?_)
  refine va_putF (ci := 8) (v := .ref q2) (ty := tyX9 2) hx hb hts h_own tyX9 tyX9_ok nmX9 hown hK hP hD hS 2 rfl rfl 2 (by decide) (hts (.fieldLink RX9 15 "CartArguments$Yard" "weights" "[I") (by decide +kernel)) (fun _ h9 => h9) rfl (hin.trans rfl) rfl (tyX9_ok 2 (by decide)) rfl rfl (Nat.le_of_ble_eq_true rfl) dX9_init_17 (fun H locs hP hD hS => ?_)
  have hP : va_P D vwCl ((q2, aI ct 12 (fun _ => 0)) :: (q1, aI ct 12 (fun _ => 0)) :: (o9, .inr (8, [.int (nI 0), .ref q1, .ref q2, .null, .null, .int (nI 0), .null, .null, .null, .int (nI 0), .null, .null, .null, .null, .float 0, .int (nI 0)])) :: R) H := hP
  have hD : va_D A ((q2, aI ct 12 (fun _ => 0)) :: (q1, aI ct 12 (fun _ => 0)) :: (o9, .inr (8, [.int (nI 0), .ref q1, .ref q2, .null, .null, .int (nI 0), .null, .null, .null, .int (nI 0), .null, .null, .null, .null, .float 0, .int (nI 0)])) :: R) := hD
  refine lv_aload_n hx hb dX9_init_20 rfl (lv_at hl 0 rfl) ?_
  refine lv_bipush (v := nI (12)) hx hb dX9_init_21 (by decide) ?_
  refine zNewI (N := 12) hx hb (hts (.arrayClass .int) (by decide +kernel)) hK hP hD hS hA (by decide) (Nat.le_of_ble_eq_true rfl) (Nat.le_of_ble_eq_true rfl) dX9_init_23 (fun q3 H hP hD hS => ?_)
  refine va_putF (ci := 8) (v := .ref q3) (ty := tyX9 3) hx hb hts h_own tyX9 tyX9_ok nmX9 hown hK hP hD hS 3 rfl rfl 3 (by decide) (hts (.fieldLink RX9 18 "CartArguments$Yard" "cartsUnder" "[I") (by decide +kernel)) (fun _ h9 => h9) rfl (hin.trans rfl) rfl (tyX9_ok 3 (by decide)) rfl rfl (Nat.le_of_ble_eq_true rfl) dX9_init_25 (fun H locs hP hD hS => ?_)
  have hP : va_P D vwCl ((q3, aI ct 12 (fun _ => 0)) :: (q2, aI ct 12 (fun _ => 0)) :: (q1, aI ct 12 (fun _ => 0)) :: (o9, .inr (8, [.int (nI 0), .ref q1, .ref q2, .ref q3, .null, .int (nI 0), .null, .null, .null, .int (nI 0), .null, .null, .null, .null, .float 0, .int (nI 0)])) :: R) H := hP
  have hD : va_D A ((q3, aI ct 12 (fun _ => 0)) :: (q2, aI ct 12 (fun _ => 0)) :: (q1, aI ct 12 (fun _ => 0)) :: (o9, .inr (8, [.int (nI 0), .ref q1, .ref q2, .ref q3, .null, .int (nI 0), .null, .null, .null, .int (nI 0), .null, .null, .null, .null, .float 0, .int (nI 0)])) :: R) := hD
  refine lv_aload_n hx hb dX9_init_28 rfl (lv_at hl 0 rfl) ?_
  refine lv_bipush (v := nI (12)) hx hb dX9_init_29 (by decide) ?_
  refine zNewI (N := 12) hx hb (hts (.arrayClass .int) (by decide +kernel)) hK hP hD hS hA (by decide) (Nat.le_of_ble_eq_true rfl) (Nat.le_of_ble_eq_true rfl) dX9_init_31 (fun q4 H hP hD hS => ?_)
  refine va_putF (ci := 8) (v := .ref q4) (ty := tyX9 4) hx hb hts h_own tyX9 tyX9_ok nmX9 hown hK hP hD hS 4 rfl rfl 4 (by decide) (hts (.fieldLink RX9 21 "CartArguments$Yard" "places" "[I") (by decide +kernel)) (fun _ h9 => h9) rfl (hin.trans rfl) rfl (tyX9_ok 4 (by decide)) rfl rfl (Nat.le_of_ble_eq_true rfl) dX9_init_33 (fun H locs hP hD hS => ?_)
  have hP : va_P D vwCl ((q4, aI ct 12 (fun _ => 0)) :: (q3, aI ct 12 (fun _ => 0)) :: (q2, aI ct 12 (fun _ => 0)) :: (q1, aI ct 12 (fun _ => 0)) :: (o9, .inr (8, [.int (nI 0), .ref q1, .ref q2, .ref q3, .ref q4, .int (nI 0), .null, .null, .null, .int (nI 0), .null, .null, .null, .null, .float 0, .int (nI 0)])) :: R) H := hP
  have hD : va_D A ((q4, aI ct 12 (fun _ => 0)) :: (q3, aI ct 12 (fun _ => 0)) :: (q2, aI ct 12 (fun _ => 0)) :: (q1, aI ct 12 (fun _ => 0)) :: (o9, .inr (8, [.int (nI 0), .ref q1, .ref q2, .ref q3, .ref q4, .int (nI 0), .null, .null, .null, .int (nI 0), .null, .null, .null, .null, .float 0, .int (nI 0)])) :: R) := hD
  refine lv_aload_n hx hb dX9_init_36 rfl (lv_at hl 0 rfl) ?_
  refine lv_iconst (v := nI (4)) hx hb dX9_init_37 (by decide) ?_
  refine zNewI (N := 4) hx hb (hts (.arrayClass .int) (by decide +kernel)) hK hP hD hS hA (by decide) (Nat.le_of_ble_eq_true rfl) (Nat.le_of_ble_eq_true rfl) dX9_init_38 (fun q5 H hP hD hS => ?_)
  refine va_putF (ci := 8) (v := .ref q5) (ty := tyX9 6) hx hb hts h_own tyX9 tyX9_ok nmX9 hown hK hP hD hS 5 rfl rfl 6 (by decide) (hts (.fieldLink RX9 24 "CartArguments$Yard" "strengths" "[I") (by decide +kernel)) (fun _ h9 => h9) rfl (hin.trans rfl) rfl (tyX9_ok 6 (by decide)) rfl rfl (Nat.le_of_ble_eq_true rfl) dX9_init_40 (fun H locs hP hD hS => ?_)
  have hP : va_P D vwCl ((q5, aI ct 4 (fun _ => 0)) :: (q4, aI ct 12 (fun _ => 0)) :: (q3, aI ct 12 (fun _ => 0)) :: (q2, aI ct 12 (fun _ => 0)) :: (q1, aI ct 12 (fun _ => 0)) :: (o9, .inr (8, [.int (nI 0), .ref q1, .ref q2, .ref q3, .ref q4, .int (nI 0), .ref q5, .null, .null, .int (nI 0), .null, .null, .null, .null, .float 0, .int (nI 0)])) :: R) H := hP
  have hD : va_D A ((q5, aI ct 4 (fun _ => 0)) :: (q4, aI ct 12 (fun _ => 0)) :: (q3, aI ct 12 (fun _ => 0)) :: (q2, aI ct 12 (fun _ => 0)) :: (q1, aI ct 12 (fun _ => 0)) :: (o9, .inr (8, [.int (nI 0), .ref q1, .ref q2, .ref q3, .ref q4, .int (nI 0), .ref q5, .null, .null, .int (nI 0), .null, .null, .null, .null, .float 0, .int (nI 0)])) :: R) := hD
  refine lv_aload_n hx hb dX9_init_43 rfl (lv_at hl 0 rfl) ?_
  refine lv_bipush (v := nI (8)) hx hb dX9_init_44 (by decide) ?_
  refine zNewF (N := 8) hx hb (hts (.arrayClass .float) (by decide +kernel)) hK hP hD hS hA (by decide) (Nat.le_of_ble_eq_true rfl) (Nat.le_of_ble_eq_true rfl) dX9_init_46 (fun q6 H hP hD hS => ?_)
  refine va_putF (ci := 8) (v := .ref q6) (ty := tyX9 7) hx hb hts h_own tyX9 tyX9_ok nmX9 hown hK hP hD hS 6 rfl rfl 7 (by decide) (hts (.fieldLink RX9 27 "CartArguments$Yard" "wears" "[F") (by decide +kernel)) (fun _ h9 => h9) rfl (hin.trans rfl) rfl (tyX9_ok 7 (by decide)) rfl rfl (Nat.le_of_ble_eq_true rfl) dX9_init_48 (fun H locs hP hD hS => ?_)
  have hP : va_P D vwCl ((q6, aF ct 8 (fun _ => 0)) :: (q5, aI ct 4 (fun _ => 0)) :: (q4, aI ct 12 (fun _ => 0)) :: (q3, aI ct 12 (fun _ => 0)) :: (q2, aI ct 12 (fun _ => 0)) :: (q1, aI ct 12 (fun _ => 0)) :: (o9, .inr (8, [.int (nI 0), .ref q1, .ref q2, .ref q3, .ref q4, .int (nI 0), .ref q5, .ref q6, .null, .int (nI 0), .null, .null, .null, .null, .float 0, .int (nI 0)])) :: R) H := hP
  have hD : va_D A ((q6, aF ct 8 (fun _ => 0)) :: (q5, aI ct 4 (fun _ => 0)) :: (q4, aI ct 12 (fun _ => 0)) :: (q3, aI ct 12 (fun _ => 0)) :: (q2, aI ct 12 (fun _ => 0)) :: (q1, aI ct 12 (fun _ => 0)) :: (o9, .inr (8, [.int (nI 0), .ref q1, .ref q2, .ref q3, .ref q4, .int (nI 0), .ref q5, .ref q6, .null, .int (nI 0), .null, .null, .null, .null, .float 0, .int (nI 0)])) :: R) := hD
  refine lv_aload_n hx hb dX9_init_51 rfl (lv_at hl 0 rfl) ?_
  refine lv_iconst (v := nI (4)) hx hb dX9_init_52 (by decide) ?_
  refine zNewI (N := 4) hx hb (hts (.arrayClass .int) (by decide +kernel)) hK hP hD hS hA (by decide) (Nat.le_of_ble_eq_true rfl) (Nat.le_of_ble_eq_true rfl) dX9_init_53 (fun q7 H hP hD hS => ?_)
  refine va_putF (ci := 8) (v := .ref q7) (ty := tyX9 8) hx hb hts h_own tyX9 tyX9_ok nmX9 hown hK hP hD hS 7 rfl rfl 8 (by decide) (hts (.fieldLink RX9 31 "CartArguments$Yard" "cartTrips" "[I") (by decide +kernel)) (fun _ h9 => h9) rfl (hin.trans rfl) rfl (tyX9_ok 8 (by decide)) rfl rfl (Nat.le_of_ble_eq_true rfl) dX9_init_55 (fun H locs hP hD hS => ?_)
  have hP : va_P D vwCl ((q7, aI ct 4 (fun _ => 0)) :: (q6, aF ct 8 (fun _ => 0)) :: (q5, aI ct 4 (fun _ => 0)) :: (q4, aI ct 12 (fun _ => 0)) :: (q3, aI ct 12 (fun _ => 0)) :: (q2, aI ct 12 (fun _ => 0)) :: (q1, aI ct 12 (fun _ => 0)) :: (o9, .inr (8, [.int (nI 0), .ref q1, .ref q2, .ref q3, .ref q4, .int (nI 0), .ref q5, .ref q6, .ref q7, .int (nI 0), .null, .null, .null, .null, .float 0, .int (nI 0)])) :: R) H := hP
  have hD : va_D A ((q7, aI ct 4 (fun _ => 0)) :: (q6, aF ct 8 (fun _ => 0)) :: (q5, aI ct 4 (fun _ => 0)) :: (q4, aI ct 12 (fun _ => 0)) :: (q3, aI ct 12 (fun _ => 0)) :: (q2, aI ct 12 (fun _ => 0)) :: (q1, aI ct 12 (fun _ => 0)) :: (o9, .inr (8, [.int (nI 0), .ref q1, .ref q2, .ref q3, .ref q4, .int (nI 0), .ref q5, .ref q6, .ref q7, .int (nI 0), .null, .null, .null, .null, .float 0, .int (nI 0)])) :: R) := hD
  refine lv_aload_n hx hb dX9_init_58 rfl (lv_at hl 0 rfl) ?_
  refine lv_iconst (v := nI (5)) hx hb dX9_init_59 (by decide) ?_
  refine zNewI (N := 5) hx hb (hts (.arrayClass .int) (by decide +kernel)) hK hP hD hS hA (by decide) (Nat.le_of_ble_eq_true rfl) (Nat.le_of_ble_eq_true rfl) dX9_init_60 (fun q8 H hP hD hS => ?_)
  refine va_putF (ci := 8) (v := .ref q8) (ty := tyX9 10) hx hb hts h_own tyX9 tyX9_ok nmX9 hown hK hP hD hS 8 rfl rfl 10 (by decide) (hts (.fieldLink RX9 34 "CartArguments$Yard" "limits" "[I") (by decide +kernel)) (fun _ h9 => h9) rfl (hin.trans rfl) rfl (tyX9_ok 10 (by decide)) rfl rfl (Nat.le_of_ble_eq_true rfl) dX9_init_62 (fun H locs hP hD hS => ?_)
  have hP : va_P D vwCl ((q8, aI ct 5 (fun _ => 0)) :: (q7, aI ct 4 (fun _ => 0)) :: (q6, aF ct 8 (fun _ => 0)) :: (q5, aI ct 4 (fun _ => 0)) :: (q4, aI ct 12 (fun _ => 0)) :: (q3, aI ct 12 (fun _ => 0)) :: (q2, aI ct 12 (fun _ => 0)) :: (q1, aI ct 12 (fun _ => 0)) :: (o9, .inr (8, [.int (nI 0), .ref q1, .ref q2, .ref q3, .ref q4, .int (nI 0), .ref q5, .ref q6, .ref q7, .int (nI 0), .ref q8, .null, .null, .null, .float 0, .int (nI 0)])) :: R) H := hP
  have hD : va_D A ((q8, aI ct 5 (fun _ => 0)) :: (q7, aI ct 4 (fun _ => 0)) :: (q6, aF ct 8 (fun _ => 0)) :: (q5, aI ct 4 (fun _ => 0)) :: (q4, aI ct 12 (fun _ => 0)) :: (q3, aI ct 12 (fun _ => 0)) :: (q2, aI ct 12 (fun _ => 0)) :: (q1, aI ct 12 (fun _ => 0)) :: (o9, .inr (8, [.int (nI 0), .ref q1, .ref q2, .ref q3, .ref q4, .int (nI 0), .ref q5, .ref q6, .ref q7, .int (nI 0), .ref q8, .null, .null, .null, .float 0, .int (nI 0)])) :: R) := hD
  refine lv_aload_n hx hb dX9_init_65 rfl (lv_at hl 0 rfl) ?_
  refine lv_iconst (v := nI (5)) hx hb dX9_init_66 (by decide) ?_
  refine zNewI (N := 5) hx hb (hts (.arrayClass .int) (by decide +kernel)) hK hP hD hS hA (by decide) (Nat.le_of_ble_eq_true rfl) (Nat.le_of_ble_eq_true rfl) dX9_init_67 (fun q9 H hP hD hS => ?_)
  refine va_putF (ci := 8) (v := .ref q9) (ty := tyX9 11) hx hb hts h_own tyX9 tyX9_ok nmX9 hown hK hP hD hS 9 rfl rfl 11 (by decide) (hts (.fieldLink RX9 37 "CartArguments$Yard" "miles" "[I") (by decide +kernel)) (fun _ h9 => h9) rfl (hin.trans rfl) rfl (tyX9_ok 11 (by decide)) rfl rfl (Nat.le_of_ble_eq_true rfl) dX9_init_69 (fun H locs hP hD hS => ?_)
  have hP : va_P D vwCl ((q9, aI ct 5 (fun _ => 0)) :: (q8, aI ct 5 (fun _ => 0)) :: (q7, aI ct 4 (fun _ => 0)) :: (q6, aF ct 8 (fun _ => 0)) :: (q5, aI ct 4 (fun _ => 0)) :: (q4, aI ct 12 (fun _ => 0)) :: (q3, aI ct 12 (fun _ => 0)) :: (q2, aI ct 12 (fun _ => 0)) :: (q1, aI ct 12 (fun _ => 0)) :: (o9, .inr (8, [.int (nI 0), .ref q1, .ref q2, .ref q3, .ref q4, .int (nI 0), .ref q5, .ref q6, .ref q7, .int (nI 0), .ref q8, .ref q9, .null, .null, .float 0, .int (nI 0)])) :: R) H := hP
  have hD : va_D A ((q9, aI ct 5 (fun _ => 0)) :: (q8, aI ct 5 (fun _ => 0)) :: (q7, aI ct 4 (fun _ => 0)) :: (q6, aF ct 8 (fun _ => 0)) :: (q5, aI ct 4 (fun _ => 0)) :: (q4, aI ct 12 (fun _ => 0)) :: (q3, aI ct 12 (fun _ => 0)) :: (q2, aI ct 12 (fun _ => 0)) :: (q1, aI ct 12 (fun _ => 0)) :: (o9, .inr (8, [.int (nI 0), .ref q1, .ref q2, .ref q3, .ref q4, .int (nI 0), .ref q5, .ref q6, .ref q7, .int (nI 0), .ref q8, .ref q9, .null, .null, .float 0, .int (nI 0)])) :: R) := hD
  refine lv_aload_n hx hb dX9_init_72 rfl (lv_at hl 0 rfl) ?_
  refine lv_iconst (v := nI (5)) hx hb dX9_init_73 (by decide) ?_
  refine zNewI (N := 5) hx hb (hts (.arrayClass .int) (by decide +kernel)) hK hP hD hS hA (by decide) (Nat.le_of_ble_eq_true rfl) (Nat.le_of_ble_eq_true rfl) dX9_init_74 (fun q10 H hP hD hS => ?_)
  refine va_putF (ci := 8) (v := .ref q10) (ty := tyX9 12) hx hb hts h_own tyX9 tyX9_ok nmX9 hown hK hP hD hS 10 rfl rfl 12 (by decide) (hts (.fieldLink RX9 40 "CartArguments$Yard" "rates" "[I") (by decide +kernel)) (fun _ h9 => h9) rfl (hin.trans rfl) rfl (tyX9_ok 12 (by decide)) rfl rfl (Nat.le_of_ble_eq_true rfl) dX9_init_76 (fun H locs hP hD hS => ?_)
  have hP : va_P D vwCl ((q10, aI ct 5 (fun _ => 0)) :: (q9, aI ct 5 (fun _ => 0)) :: (q8, aI ct 5 (fun _ => 0)) :: (q7, aI ct 4 (fun _ => 0)) :: (q6, aF ct 8 (fun _ => 0)) :: (q5, aI ct 4 (fun _ => 0)) :: (q4, aI ct 12 (fun _ => 0)) :: (q3, aI ct 12 (fun _ => 0)) :: (q2, aI ct 12 (fun _ => 0)) :: (q1, aI ct 12 (fun _ => 0)) :: (o9, .inr (8, [.int (nI 0), .ref q1, .ref q2, .ref q3, .ref q4, .int (nI 0), .ref q5, .ref q6, .ref q7, .int (nI 0), .ref q8, .ref q9, .ref q10, .null, .float 0, .int (nI 0)])) :: R) H := hP
  have hD : va_D A ((q10, aI ct 5 (fun _ => 0)) :: (q9, aI ct 5 (fun _ => 0)) :: (q8, aI ct 5 (fun _ => 0)) :: (q7, aI ct 4 (fun _ => 0)) :: (q6, aF ct 8 (fun _ => 0)) :: (q5, aI ct 4 (fun _ => 0)) :: (q4, aI ct 12 (fun _ => 0)) :: (q3, aI ct 12 (fun _ => 0)) :: (q2, aI ct 12 (fun _ => 0)) :: (q1, aI ct 12 (fun _ => 0)) :: (o9, .inr (8, [.int (nI 0), .ref q1, .ref q2, .ref q3, .ref q4, .int (nI 0), .ref q5, .ref q6, .ref q7, .int (nI 0), .ref q8, .ref q9, .ref q10, .null, .float 0, .int (nI 0)])) :: R) := hD
  refine lv_aload_n hx hb dX9_init_79 rfl (lv_at hl 0 rfl) ?_
  refine lv_iconst (v := nI (5)) hx hb dX9_init_80 (by decide) ?_
  refine zNewI (N := 5) hx hb (hts (.arrayClass .int) (by decide +kernel)) hK hP hD hS hA (by decide) (Nat.le_of_ble_eq_true rfl) (Nat.le_of_ble_eq_true rfl) dX9_init_81 (fun q11 H hP hD hS => ?_)
  refine va_putF (ci := 8) (v := .ref q11) (ty := tyX9 13) hx hb hts h_own tyX9 tyX9_ok nmX9 hown hK hP hD hS 11 rfl rfl 13 (by decide) (hts (.fieldLink RX9 43 "CartArguments$Yard" "roadTrips" "[I") (by decide +kernel)) (fun _ h9 => h9) rfl (hin.trans rfl) rfl (tyX9_ok 13 (by decide)) rfl rfl (Nat.le_of_ble_eq_true rfl) dX9_init_83 (fun H locs hP hD hS => ?_)
  have hP : va_P D vwCl ((q11, aI ct 5 (fun _ => 0)) :: (q10, aI ct 5 (fun _ => 0)) :: (q9, aI ct 5 (fun _ => 0)) :: (q8, aI ct 5 (fun _ => 0)) :: (q7, aI ct 4 (fun _ => 0)) :: (q6, aF ct 8 (fun _ => 0)) :: (q5, aI ct 4 (fun _ => 0)) :: (q4, aI ct 12 (fun _ => 0)) :: (q3, aI ct 12 (fun _ => 0)) :: (q2, aI ct 12 (fun _ => 0)) :: (q1, aI ct 12 (fun _ => 0)) :: (o9, .inr (8, [.int (nI 0), .ref q1, .ref q2, .ref q3, .ref q4, .int (nI 0), .ref q5, .ref q6, .ref q7, .int (nI 0), .ref q8, .ref q9, .ref q10, .ref q11, .float 0, .int (nI 0)])) :: R) H := hP
  have hD : va_D A ((q11, aI ct 5 (fun _ => 0)) :: (q10, aI ct 5 (fun _ => 0)) :: (q9, aI ct 5 (fun _ => 0)) :: (q8, aI ct 5 (fun _ => 0)) :: (q7, aI ct 4 (fun _ => 0)) :: (q6, aF ct 8 (fun _ => 0)) :: (q5, aI ct 4 (fun _ => 0)) :: (q4, aI ct 12 (fun _ => 0)) :: (q3, aI ct 12 (fun _ => 0)) :: (q2, aI ct 12 (fun _ => 0)) :: (q1, aI ct 12 (fun _ => 0)) :: (o9, .inr (8, [.int (nI 0), .ref q1, .ref q2, .ref q3, .ref q4, .int (nI 0), .ref q5, .ref q6, .ref q7, .int (nI 0), .ref q8, .ref q9, .ref q10, .ref q11, .float 0, .int (nI 0)])) :: R) := hD
  have hP := zPp ((List.reverse_perm [(q11, aI ct 5 (fun _ => 0)), (q10, aI ct 5 (fun _ => 0)), (q9, aI ct 5 (fun _ => 0)), (q8, aI ct 5 (fun _ => 0)), (q7, aI ct 4 (fun _ => 0)), (q6, aF ct 8 (fun _ => 0)), (q5, aI ct 4 (fun _ => 0)), (q4, aI ct 12 (fun _ => 0)), (q3, aI ct 12 (fun _ => 0)), (q2, aI ct 12 (fun _ => 0)), (q1, aI ct 12 (fun _ => 0)), (o9, .inr (8, [.int (nI 0), .ref q1, .ref q2, .ref q3, .ref q4, .int (nI 0), .ref q5, .ref q6, .ref q7, .int (nI 0), .ref q8, .ref q9, .ref q10, .ref q11, .float 0, .int (nI 0)]))]).symm.append_right R) hP
  have hD := zDp ((List.reverse_perm [(q11, aI ct 5 (fun _ => 0)), (q10, aI ct 5 (fun _ => 0)), (q9, aI ct 5 (fun _ => 0)), (q8, aI ct 5 (fun _ => 0)), (q7, aI ct 4 (fun _ => 0)), (q6, aF ct 8 (fun _ => 0)), (q5, aI ct 4 (fun _ => 0)), (q4, aI ct 12 (fun _ => 0)), (q3, aI ct 12 (fun _ => 0)), (q2, aI ct 12 (fun _ => 0)), (q1, aI ct 12 (fun _ => 0)), (o9, .inr (8, [.int (nI 0), .ref q1, .ref q2, .ref q3, .ref q4, .int (nI 0), .ref q5, .ref q6, .ref q7, .int (nI 0), .ref q8, .ref q9, .ref q10, .ref q11, .float 0, .int (nI 0)]))]).symm.append_right R) hD
  exact zVret (wf := fun o : Nat → Nat => YW ct o y00 R) (fun k => [o9, q1, q2, q3, q4, q5, q6, q7, q8, q9, q10, q11].getD k 0) hx hb hr hlocks hK hP hD hS dX9_init_86 rfl
abbrev rmX1_init : Room := { frames := 1, cells := 4, slots := 198, locals := 20 }
theorem in_X1_init : ∀ w ∈ u_ws RX1 TX1 6, w ∈ wsX1_init := by decide +kernel
set_option maxHeartbeats 4000000 in
set_option maxRecDepth 100000 in
theorem kX1_init {D : va_G} {ct : Nat → ClassId} {l : Launch} (o9 : Nat) (a : Nat → Nat) (R : va_W) : MV D ct l yX1_init wsX1_init rmX1_init ((o9, .inr (1, [.null, .null, .int (nI 0), .null, .null, .null])) :: R) [.ref o9, .ref (a 0)] (fun o : Nat → Nat => o 0 = o9) (fun o : Nat → Nat => BW ct a o b00 R) := by
  refine MVof (cc := cX1_init) (maxL := 2) (ret := none) (by decide) rfl (Nat.le_of_ble_eq_true rfl) ?_
  intro p e s m args below meth c A H locs F hP hK hD hS hA ls hl
  obtain ⟨hx, hb, hr, hlocks, hml, hown, hts, hin⟩ := F
  have hl : lv_has ls 2 [(0, .ref o9), (1, .ref (a 0))] := hl
  have h_own := in_X1_init
  refine lv_aload_n hx hb dX1_init_0 rfl (lv_at hl 0 rfl) ?_
  refine W.objInit hx hb hown (hts (.methodLink RX1 3 objectInit) (by decide +kernel)) (hts (.instanceMethod objectInit) (by decide +kernel)) (hts (.code objectInit ⟨#[0xb1]⟩ 1 none) (by decide +kernel)) rfl (by rw [hml]; exact hl.1) rfl dX1_init_1 (Nat.le_of_ble_eq_true rfl) (Nat.le_of_ble_eq_true rfl) ?_
  refine W.eq (g2 := F0 m 4 ls []) rfl ?_
  refine lv_aload_n hx hb dX1_init_4 rfl (lv_at hl 0 rfl) ?_
  refine lv_aload_n hx hb dX1_init_5 rfl (lv_at hl 1 rfl) ?_
  refine va_putF (ci := 1) (v := .ref (a 0)) (ty := tyX1 0) hx hb hts h_own tyX1 tyX1_ok nmX1 hown hK hP hD hS 0 rfl rfl 0 (by decide) (hts (.fieldLink RX1 9 "CartArguments$Balance" "yard" "LCartArguments$Yard;") (by decide +kernel)) (fun _ h9 => h9) rfl (hin.trans rfl) rfl (tyX1_ok 0 (by decide)) rfl rfl (Nat.le_of_ble_eq_true rfl) dX1_init_6 (fun H locs hP hD hS => ?_)
  have hP : va_P D vwCl ((o9, .inr (1, [.ref (a 0), .null, .int (nI 0), .null, .null, .null])) :: R) H := hP
  have hD : va_D A ((o9, .inr (1, [.ref (a 0), .null, .int (nI 0), .null, .null, .null])) :: R) := hD
  refine lv_aload_n hx hb dX1_init_9 rfl (lv_at hl 0 rfl) ?_
  refine lv_bipush (v := nI (6)) hx hb dX1_init_10 (by decide) ?_
  refine zNewI (N := 6) hx hb (hts (.arrayClass .int) (by decide +kernel)) hK hP hD hS hA (by decide) (Nat.le_of_ble_eq_true rfl) (Nat.le_of_ble_eq_true rfl) dX1_init_12 (fun q1 H hP hD hS => ?_)
  refine va_putF (ci := 1) (v := .ref q1) (ty := tyX1 1) hx hb hts h_own tyX1 tyX1_ok nmX1 hown hK hP hD hS 1 rfl rfl 1 (by decide) (hts (.fieldLink RX1 15 "CartArguments$Balance" "weights" "[I") (by decide +kernel)) (fun _ h9 => h9) rfl (hin.trans rfl) rfl (tyX1_ok 1 (by decide)) rfl rfl (Nat.le_of_ble_eq_true rfl) dX1_init_14 (fun H locs hP hD hS => ?_)
  have hP : va_P D vwCl ((q1, aI ct 6 (fun _ => 0)) :: (o9, .inr (1, [.ref (a 0), .ref q1, .int (nI 0), .null, .null, .null])) :: R) H := hP
  have hD : va_D A ((q1, aI ct 6 (fun _ => 0)) :: (o9, .inr (1, [.ref (a 0), .ref q1, .int (nI 0), .null, .null, .null])) :: R) := hD
  refine lv_aload_n hx hb dX1_init_17 rfl (lv_at hl 0 rfl) ?_
  refine lv_bipush (v := nI (64)) hx hb dX1_init_18 (by decide) ?_
  refine zNewL (N := 64) hx hb (hts (.arrayClass .long) (by decide +kernel)) hK hP hD hS hA (by decide) (Nat.le_of_ble_eq_true rfl) (Nat.le_of_ble_eq_true rfl) dX1_init_20 (fun q2 H hP hD hS => ?_)
  refine va_putF (ci := 1) (v := .ref q2) (ty := tyX1 3) hx hb hts h_own tyX1 tyX1_ok nmX1 hown hK hP hD hS 2 rfl rfl 3 (by decide) (hts (.fieldLink RX1 19 "CartArguments$Balance" "low" "[J") (by decide +kernel)) (fun _ h9 => h9) rfl (hin.trans rfl) rfl (tyX1_ok 3 (by decide)) rfl rfl (Nat.le_of_ble_eq_true rfl) dX1_init_22 (fun H locs hP hD hS => ?_)
  have hP : va_P D vwCl ((q2, aL ct 64 (fun _ => 0)) :: (q1, aI ct 6 (fun _ => 0)) :: (o9, .inr (1, [.ref (a 0), .ref q1, .int (nI 0), .ref q2, .null, .null])) :: R) H := hP
  have hD : va_D A ((q2, aL ct 64 (fun _ => 0)) :: (q1, aI ct 6 (fun _ => 0)) :: (o9, .inr (1, [.ref (a 0), .ref q1, .int (nI 0), .ref q2, .null, .null])) :: R) := hD
  refine lv_aload_n hx hb dX1_init_25 rfl (lv_at hl 0 rfl) ?_
  refine lv_bipush (v := nI (64)) hx hb dX1_init_26 (by decide) ?_
  refine zNewL (N := 64) hx hb (hts (.arrayClass .long) (by decide +kernel)) hK hP hD hS hA (by decide) (Nat.le_of_ble_eq_true rfl) (Nat.le_of_ble_eq_true rfl) dX1_init_28 (fun q3 H hP hD hS => ?_)
  refine va_putF (ci := 1) (v := .ref q3) (ty := tyX1 4) hx hb hts h_own tyX1 tyX1_ok nmX1 hown hK hP hD hS 3 rfl rfl 4 (by decide) (hts (.fieldLink RX1 23 "CartArguments$Balance" "middle" "[J") (by decide +kernel)) (fun _ h9 => h9) rfl (hin.trans rfl) rfl (tyX1_ok 4 (by decide)) rfl rfl (Nat.le_of_ble_eq_true rfl) dX1_init_30 (fun H locs hP hD hS => ?_)
  have hP : va_P D vwCl ((q3, aL ct 64 (fun _ => 0)) :: (q2, aL ct 64 (fun _ => 0)) :: (q1, aI ct 6 (fun _ => 0)) :: (o9, .inr (1, [.ref (a 0), .ref q1, .int (nI 0), .ref q2, .ref q3, .null])) :: R) H := hP
  have hD : va_D A ((q3, aL ct 64 (fun _ => 0)) :: (q2, aL ct 64 (fun _ => 0)) :: (q1, aI ct 6 (fun _ => 0)) :: (o9, .inr (1, [.ref (a 0), .ref q1, .int (nI 0), .ref q2, .ref q3, .null])) :: R) := hD
  refine lv_aload_n hx hb dX1_init_33 rfl (lv_at hl 0 rfl) ?_
  refine lv_bipush (v := nI (64)) hx hb dX1_init_34 (by decide) ?_
  refine zNewL (N := 64) hx hb (hts (.arrayClass .long) (by decide +kernel)) hK hP hD hS hA (by decide) (Nat.le_of_ble_eq_true rfl) (Nat.le_of_ble_eq_true rfl) dX1_init_36 (fun q4 H hP hD hS => ?_)
  refine va_putF (ci := 1) (v := .ref q4) (ty := tyX1 5) hx hb hts h_own tyX1 tyX1_ok nmX1 hown hK hP hD hS 4 rfl rfl 5 (by decide) (hts (.fieldLink RX1 26 "CartArguments$Balance" "high" "[J") (by decide +kernel)) (fun _ h9 => h9) rfl (hin.trans rfl) rfl (tyX1_ok 5 (by decide)) rfl rfl (Nat.le_of_ble_eq_true rfl) dX1_init_38 (fun H locs hP hD hS => ?_)
  have hP : va_P D vwCl ((q4, aL ct 64 (fun _ => 0)) :: (q3, aL ct 64 (fun _ => 0)) :: (q2, aL ct 64 (fun _ => 0)) :: (q1, aI ct 6 (fun _ => 0)) :: (o9, .inr (1, [.ref (a 0), .ref q1, .int (nI 0), .ref q2, .ref q3, .ref q4])) :: R) H := hP
  have hD : va_D A ((q4, aL ct 64 (fun _ => 0)) :: (q3, aL ct 64 (fun _ => 0)) :: (q2, aL ct 64 (fun _ => 0)) :: (q1, aI ct 6 (fun _ => 0)) :: (o9, .inr (1, [.ref (a 0), .ref q1, .int (nI 0), .ref q2, .ref q3, .ref q4])) :: R) := hD
  have hP := zPp ((List.reverse_perm [(q4, aL ct 64 (fun _ => 0)), (q3, aL ct 64 (fun _ => 0)), (q2, aL ct 64 (fun _ => 0)), (q1, aI ct 6 (fun _ => 0)), (o9, .inr (1, [.ref (a 0), .ref q1, .int (nI 0), .ref q2, .ref q3, .ref q4]))]).symm.append_right R) hP
  have hD := zDp ((List.reverse_perm [(q4, aL ct 64 (fun _ => 0)), (q3, aL ct 64 (fun _ => 0)), (q2, aL ct 64 (fun _ => 0)), (q1, aI ct 6 (fun _ => 0)), (o9, .inr (1, [.ref (a 0), .ref q1, .int (nI 0), .ref q2, .ref q3, .ref q4]))]).symm.append_right R) hD
  exact zVret (wf := fun o : Nat → Nat => BW ct a o b00 R) (fun k => [o9, q1, q2, q3, q4].getD k 0) hx hb hr hlocks hK hP hD hS dX1_init_41 rfl
abbrev rmX5_init : Room := { frames := 1, cells := 0, slots := 0, locals := 20 }
theorem in_X5_init : ∀ w ∈ u_ws RX5 TX5 2, w ∈ wsX5_init := by decide +kernel
set_option maxHeartbeats 4000000 in
set_option maxRecDepth 100000 in
theorem kX5_init {D : va_G} {ct : Nat → ClassId} {l : Launch} (o9 : Nat) (p1 p2 : Nat) (R : va_W) : MV D ct l yX5_init wsX5_init rmX5_init ((o9, .inr (4, [.null, .null])) :: R) [.ref o9, .ref p1, .ref p2] (fun _ : Unit => True) (fun _ : Unit => (o9, .inr (4, [.ref p1, .ref p2])) :: R) := by
  refine MVof (cc := cX5_init) (maxL := 3) (ret := none) (by decide) rfl (Nat.le_of_ble_eq_true rfl) ?_
  intro p e s m args below meth c A H locs F hP hK hD hS hA ls hl
  obtain ⟨hx, hb, hr, hlocks, hml, hown, hts, hin⟩ := F
  have hl : lv_has ls 3 [(0, .ref o9), (1, .ref p1), (2, .ref p2)] := hl
  have h_own := in_X5_init
  refine lv_aload_n hx hb dX5_init_0 rfl (lv_at hl 0 rfl) ?_
  refine W.objInit hx hb hown (hts (.methodLink RX5 3 objectInit) (by decide +kernel)) (hts (.instanceMethod objectInit) (by decide +kernel)) (hts (.code objectInit ⟨#[0xb1]⟩ 1 none) (by decide +kernel)) rfl (by rw [hml]; exact hl.1) rfl dX5_init_1 (Nat.le_of_ble_eq_true rfl) (Nat.le_of_ble_eq_true rfl) ?_
  refine W.eq (g2 := F0 m 4 ls []) rfl ?_
  refine lv_aload_n hx hb dX5_init_4 rfl (lv_at hl 0 rfl) ?_
  refine lv_aload_n hx hb dX5_init_5 rfl (lv_at hl 1 rfl) ?_
  refine va_putF (ci := 4) (v := .ref p1) (ty := tyX5 0) hx hb hts h_own tyX5 tyX5_ok nmX5 hown hK hP hD hS 0 rfl rfl 0 (by decide) (hts (.fieldLink RX5 9 "CartArguments$Orders" "yard" "LCartArguments$Yard;") (by decide +kernel)) (fun _ h9 => h9) rfl (hin.trans rfl) rfl (tyX5_ok 0 (by decide)) rfl rfl (Nat.le_of_ble_eq_true rfl) dX5_init_6 (fun H locs hP hD hS => ?_)
  have hP : va_P D vwCl ((o9, .inr (4, [.ref p1, .null])) :: R) H := hP
  have hD : va_D A ((o9, .inr (4, [.ref p1, .null])) :: R) := hD
  refine lv_aload_n hx hb dX5_init_9 rfl (lv_at hl 0 rfl) ?_
  refine lv_aload_n hx hb dX5_init_10 rfl (lv_at hl 2 rfl) ?_
  refine va_putF (ci := 4) (v := .ref p2) (ty := tyX5 1) hx hb hts h_own tyX5 tyX5_ok nmX5 hown hK hP hD hS 0 rfl rfl 1 (by decide) (hts (.fieldLink RX5 15 "CartArguments$Orders" "scale" "LCartArguments$Scale;") (by decide +kernel)) (fun _ h9 => h9) rfl (hin.trans rfl) rfl (tyX5_ok 1 (by decide)) rfl rfl (Nat.le_of_ble_eq_true rfl) dX5_init_11 (fun H locs hP hD hS => ?_)
  have hP : va_P D vwCl ((o9, .inr (4, [.ref p1, .ref p2])) :: R) H := hP
  have hD : va_D A ((o9, .inr (4, [.ref p1, .ref p2])) :: R) := hD
  exact zVret (wf := fun _ : Unit => (o9, .inr (4, [.ref p1, .ref p2])) :: R) (()) hx hb hr hlocks hK hP hD hS dX5_init_14 trivial
abbrev rmX6_init : Room := { frames := 1, cells := 0, slots := 0, locals := 20 }
theorem in_X6_init : ∀ w ∈ u_ws RX6 TX6 4, w ∈ wsX6_init := by decide +kernel
set_option maxHeartbeats 4000000 in
set_option maxRecDepth 100000 in
theorem kX6_init {D : va_G} {ct : Nat → ClassId} {l : Launch} (o9 : Nat)  (R : va_W) : MV D ct l yX6_init wsX6_init rmX6_init ((o9, .inr (5, [.int (nI 0), .int (nI 0), .int (nI 0), .int (nI 0)])) :: R) [.ref o9] (fun _ : Unit => True) (fun _ : Unit => (o9, .inr (5, [.int (-4), .int (-4), .int (-4), .int (-4)])) :: R) := by
  refine MVof (cc := cX6_init) (maxL := 1) (ret := none) (by decide) rfl (Nat.le_of_ble_eq_true rfl) ?_
  intro p e s m args below meth c A H locs F hP hK hD hS hA ls hl
  obtain ⟨hx, hb, hr, hlocks, hml, hown, hts, hin⟩ := F
  have hl : lv_has ls 1 [(0, .ref o9)] := hl
  have h_own := in_X6_init
  refine lv_aload_n hx hb dX6_init_0 rfl (lv_at hl 0 rfl) ?_
  refine W.objInit hx hb hown (hts (.methodLink RX6 3 objectInit) (by decide +kernel)) (hts (.instanceMethod objectInit) (by decide +kernel)) (hts (.code objectInit ⟨#[0xb1]⟩ 1 none) (by decide +kernel)) rfl (by rw [hml]; exact hl.1) rfl dX6_init_1 (Nat.le_of_ble_eq_true rfl) (Nat.le_of_ble_eq_true rfl) ?_
  refine W.eq (g2 := F0 m 4 ls []) rfl ?_
  refine lv_aload_n hx hb dX6_init_4 rfl (lv_at hl 0 rfl) ?_
  refine lv_bipush (v := (-4)) hx hb dX6_init_5 (by decide) ?_
  refine va_put (ci := 5) (v := .int (-4)) (ty := tyX6 0) hx hb hts h_own tyX6 tyX6_ok nmX6 hown hK hP hD hS 0 rfl rfl 0 (by decide) (hts (.fieldLink RX6 9 "CartArguments$Reasons" "reason" "I") (by decide +kernel)) (fun _ h9 => h9) rfl (tyX6_ok 0 (by decide)) rfl rfl (Nat.le_of_ble_eq_true rfl) dX6_init_7 (fun H locs hP hD hS => ?_)
  have hP : va_P D vwCl ((o9, .inr (5, [.int (-4), .int (nI 0), .int (nI 0), .int (nI 0)])) :: R) H := hP
  have hD : va_D A ((o9, .inr (5, [.int (-4), .int (nI 0), .int (nI 0), .int (nI 0)])) :: R) := hD
  refine lv_aload_n hx hb dX6_init_10 rfl (lv_at hl 0 rfl) ?_
  refine lv_bipush (v := (-4)) hx hb dX6_init_11 (by decide) ?_
  refine va_put (ci := 5) (v := .int (-4)) (ty := tyX6 1) hx hb hts h_own tyX6 tyX6_ok nmX6 hown hK hP hD hS 0 rfl rfl 1 (by decide) (hts (.fieldLink RX6 15 "CartArguments$Reasons" "detail" "I") (by decide +kernel)) (fun _ h9 => h9) rfl (tyX6_ok 1 (by decide)) rfl rfl (Nat.le_of_ble_eq_true rfl) dX6_init_13 (fun H locs hP hD hS => ?_)
  have hP : va_P D vwCl ((o9, .inr (5, [.int (-4), .int (-4), .int (nI 0), .int (nI 0)])) :: R) H := hP
  have hD : va_D A ((o9, .inr (5, [.int (-4), .int (-4), .int (nI 0), .int (nI 0)])) :: R) := hD
  refine lv_aload_n hx hb dX6_init_16 rfl (lv_at hl 0 rfl) ?_
  refine lv_bipush (v := (-4)) hx hb dX6_init_17 (by decide) ?_
  refine va_put (ci := 5) (v := .int (-4)) (ty := tyX6 2) hx hb hts h_own tyX6 tyX6_ok nmX6 hown hK hP hD hS 0 rfl rfl 2 (by decide) (hts (.fieldLink RX6 18 "CartArguments$Reasons" "reasonBehind" "I") (by decide +kernel)) (fun _ h9 => h9) rfl (tyX6_ok 2 (by decide)) rfl rfl (Nat.le_of_ble_eq_true rfl) dX6_init_19 (fun H locs hP hD hS => ?_)
  have hP : va_P D vwCl ((o9, .inr (5, [.int (-4), .int (-4), .int (-4), .int (nI 0)])) :: R) H := hP
  have hD : va_D A ((o9, .inr (5, [.int (-4), .int (-4), .int (-4), .int (nI 0)])) :: R) := hD
  refine lv_aload_n hx hb dX6_init_22 rfl (lv_at hl 0 rfl) ?_
  refine lv_bipush (v := (-4)) hx hb dX6_init_23 (by decide) ?_
  refine va_put (ci := 5) (v := .int (-4)) (ty := tyX6 3) hx hb hts h_own tyX6 tyX6_ok nmX6 hown hK hP hD hS 0 rfl rfl 3 (by decide) (hts (.fieldLink RX6 21 "CartArguments$Reasons" "detailBehind" "I") (by decide +kernel)) (fun _ h9 => h9) rfl (tyX6_ok 3 (by decide)) rfl rfl (Nat.le_of_ble_eq_true rfl) dX6_init_25 (fun H locs hP hD hS => ?_)
  have hP : va_P D vwCl ((o9, .inr (5, [.int (-4), .int (-4), .int (-4), .int (-4)])) :: R) H := hP
  have hD : va_D A ((o9, .inr (5, [.int (-4), .int (-4), .int (-4), .int (-4)])) :: R) := hD
  exact zVret (wf := fun _ : Unit => (o9, .inr (5, [.int (-4), .int (-4), .int (-4), .int (-4)])) :: R) (()) hx hb hr hlocks hK hP hD hS dX6_init_28 trivial
abbrev rmX7_init : Room := { frames := 1, cells := 0, slots := 0, locals := 20 }
theorem in_X7_init : ∀ w ∈ u_ws RX7 TX7 1, w ∈ wsX7_init := by decide +kernel
set_option maxHeartbeats 4000000 in
set_option maxRecDepth 100000 in
theorem kX7_init {D : va_G} {ct : Nat → ClassId} {l : Launch} (o9 : Nat) (p1 : Nat) (R : va_W) : MV D ct l yX7_init wsX7_init rmX7_init ((o9, .inr (6, [.null])) :: R) [.ref o9, .ref p1] (fun _ : Unit => True) (fun _ : Unit => (o9, .inr (6, [.ref p1])) :: R) := by
  refine MVof (cc := cX7_init) (maxL := 2) (ret := none) (by decide) rfl (Nat.le_of_ble_eq_true rfl) ?_
  intro p e s m args below meth c A H locs F hP hK hD hS hA ls hl
  obtain ⟨hx, hb, hr, hlocks, hml, hown, hts, hin⟩ := F
  have hl : lv_has ls 2 [(0, .ref o9), (1, .ref p1)] := hl
  have h_own := in_X7_init
  refine lv_aload_n hx hb dX7_init_0 rfl (lv_at hl 0 rfl) ?_
  refine W.objInit hx hb hown (hts (.methodLink RX7 3 objectInit) (by decide +kernel)) (hts (.instanceMethod objectInit) (by decide +kernel)) (hts (.code objectInit ⟨#[0xb1]⟩ 1 none) (by decide +kernel)) rfl (by rw [hml]; exact hl.1) rfl dX7_init_1 (Nat.le_of_ble_eq_true rfl) (Nat.le_of_ble_eq_true rfl) ?_
  refine W.eq (g2 := F0 m 4 ls []) rfl ?_
  refine lv_aload_n hx hb dX7_init_4 rfl (lv_at hl 0 rfl) ?_
  refine lv_aload_n hx hb dX7_init_5 rfl (lv_at hl 1 rfl) ?_
  refine va_putF (ci := 6) (v := .ref p1) (ty := tyX7 0) hx hb hts h_own tyX7 tyX7_ok nmX7 hown hK hP hD hS 0 rfl rfl 0 (by decide) (hts (.fieldLink RX7 9 "CartArguments$Scale" "yard" "LCartArguments$Yard;") (by decide +kernel)) (fun _ h9 => h9) rfl (hin.trans rfl) rfl (tyX7_ok 0 (by decide)) rfl rfl (Nat.le_of_ble_eq_true rfl) dX7_init_6 (fun H locs hP hD hS => ?_)
  have hP : va_P D vwCl ((o9, .inr (6, [.ref p1])) :: R) H := hP
  have hD : va_D A ((o9, .inr (6, [.ref p1])) :: R) := hD
  exact zVret (wf := fun _ : Unit => (o9, .inr (6, [.ref p1])) :: R) (()) hx hb hr hlocks hK hP hD hS dX7_init_9 trivial
abbrev rmX8_init : Room := { frames := 1, cells := 0, slots := 0, locals := 20 }
theorem in_X8_init : ∀ w ∈ u_ws RX8 TX8 3, w ∈ wsX8_init := by decide +kernel
set_option maxHeartbeats 4000000 in
set_option maxRecDepth 100000 in
theorem kX8_init {D : va_G} {ct : Nat → ClassId} {l : Launch} (o9 : Nat) (p1 p2 p3 : Nat) (R : va_W) : MV D ct l yX8_init wsX8_init rmX8_init ((o9, .inr (7, [.null, .null, .null])) :: R) [.ref o9, .ref p1, .ref p2, .ref p3] (fun _ : Unit => True) (fun _ : Unit => (o9, .inr (7, [.ref p1, .ref p2, .ref p3])) :: R) := by
  refine MVof (cc := cX8_init) (maxL := 4) (ret := none) (by decide) rfl (Nat.le_of_ble_eq_true rfl) ?_
  intro p e s m args below meth c A H locs F hP hK hD hS hA ls hl
  obtain ⟨hx, hb, hr, hlocks, hml, hown, hts, hin⟩ := F
  have hl : lv_has ls 4 [(0, .ref o9), (1, .ref p1), (2, .ref p2), (3, .ref p3)] := hl
  have h_own := in_X8_init
  refine lv_aload_n hx hb dX8_init_0 rfl (lv_at hl 0 rfl) ?_
  refine W.objInit hx hb hown (hts (.methodLink RX8 3 objectInit) (by decide +kernel)) (hts (.instanceMethod objectInit) (by decide +kernel)) (hts (.code objectInit ⟨#[0xb1]⟩ 1 none) (by decide +kernel)) rfl (by rw [hml]; exact hl.1) rfl dX8_init_1 (Nat.le_of_ble_eq_true rfl) (Nat.le_of_ble_eq_true rfl) ?_
  refine W.eq (g2 := F0 m 4 ls []) rfl ?_
  refine lv_aload_n hx hb dX8_init_4 rfl (lv_at hl 0 rfl) ?_
  refine lv_aload_n hx hb dX8_init_5 rfl (lv_at hl 1 rfl) ?_
  refine va_putF (ci := 7) (v := .ref p1) (ty := tyX8 0) hx hb hts h_own tyX8 tyX8_ok nmX8 hown hK hP hD hS 0 rfl rfl 0 (by decide) (hts (.fieldLink RX8 9 "CartArguments$Works" "yard" "LCartArguments$Yard;") (by decide +kernel)) (fun _ h9 => h9) rfl (hin.trans rfl) rfl (tyX8_ok 0 (by decide)) rfl rfl (Nat.le_of_ble_eq_true rfl) dX8_init_6 (fun H locs hP hD hS => ?_)
  have hP : va_P D vwCl ((o9, .inr (7, [.ref p1, .null, .null])) :: R) H := hP
  have hD : va_D A ((o9, .inr (7, [.ref p1, .null, .null])) :: R) := hD
  refine lv_aload_n hx hb dX8_init_9 rfl (lv_at hl 0 rfl) ?_
  refine lv_aload_n hx hb dX8_init_10 rfl (lv_at hl 2 rfl) ?_
  refine va_putF (ci := 7) (v := .ref p2) (ty := tyX8 1) hx hb hts h_own tyX8 tyX8_ok nmX8 hown hK hP hD hS 0 rfl rfl 1 (by decide) (hts (.fieldLink RX8 15 "CartArguments$Works" "scale" "LCartArguments$Scale;") (by decide +kernel)) (fun _ h9 => h9) rfl (hin.trans rfl) rfl (tyX8_ok 1 (by decide)) rfl rfl (Nat.le_of_ble_eq_true rfl) dX8_init_11 (fun H locs hP hD hS => ?_)
  have hP : va_P D vwCl ((o9, .inr (7, [.ref p1, .ref p2, .null])) :: R) H := hP
  have hD : va_D A ((o9, .inr (7, [.ref p1, .ref p2, .null])) :: R) := hD
  refine lv_aload_n hx hb dX8_init_14 rfl (lv_at hl 0 rfl) ?_
  refine lv_aload_n hx hb dX8_init_15 rfl (lv_at hl 3 rfl) ?_
  refine va_putF (ci := 7) (v := .ref p3) (ty := tyX8 2) hx hb hts h_own tyX8 tyX8_ok nmX8 hown hK hP hD hS 0 rfl rfl 2 (by decide) (hts (.fieldLink RX8 19 "CartArguments$Works" "reasons" "LCartArguments$Reasons;") (by decide +kernel)) (fun _ h9 => h9) rfl (hin.trans rfl) rfl (tyX8_ok 2 (by decide)) rfl rfl (Nat.le_of_ble_eq_true rfl) dX8_init_16 (fun H locs hP hD hS => ?_)
  have hP : va_P D vwCl ((o9, .inr (7, [.ref p1, .ref p2, .ref p3])) :: R) H := hP
  have hD : va_D A ((o9, .inr (7, [.ref p1, .ref p2, .ref p3])) :: R) := hD
  exact zVret (wf := fun _ : Unit => (o9, .inr (7, [.ref p1, .ref p2, .ref p3])) :: R) (()) hx hb hr hlocks hK hP hD hS dX8_init_19 trivial
