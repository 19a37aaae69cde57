/-! THE LAW: its branches -/
set_option maxHeartbeats 4000000 in
set_option maxRecDepth 100000 in
theorem law_c12 {D : va_G} {ct : Nat → ClassId} {g : XG} {p : Program} {l : Launch} {e : Env} {s : State} {m : MethodId} {b L : Nat} {xs : Nat → Int32} {below : List Frame} {meth : Method} {c : Code} {K : CK} {o : Nat → Nat} {i cc ss : Nat} {Q : State → Prop} (C : lwX D ct g p s m b L xs c) (hi : i + 3 < L) (hL : L ≤ 2048) (hcc : cc + 64 ≤ room_1.cells) (hss : ss + 4000 ≤ room_1.slots) (go : lwAt D ct g p l e s m b below meth c K o i (cc + 64) (ss + 4000) Q 1418) : lwAt D ct g p l e s m b below meth c K o i cc ss Q 536 := by
  obtain ⟨hx, hb, hml, hown, hts, hXs, hbl, hK, hX⟩ := C
  intro y rs bz iv lz sy xv tx hz v H locs ls hQ hR hP hD hS hl
  have hA : ∀ q, s.heap.size ≤ q → AD s q := fun _ h => h
  have hbA : ¬ AD s b := Nat.not_le.mpr hbl
  have hJ := hQ.1
  have hy : yI y := hJ.2.2.1
  have hf : yF y := hJ.2.2.2.2.2.2
  have hN : RelN iv v := hQ.2.2.2.2.1
  refine lv_aload_n hx hb dL_law_536 rfl (lv_at hl 2 rfl) ?_
  have hP : va_P D vwCl (CWd ct (xE g) K y rs bz iv lz sy xv hz (MW ct o v [])) H := hP
  refine zVIX [] [] (kX10_fault (kA K) y (kB K) rs (kD K) bz (kI K) iv (kL K) lz (kS K) sy (kX K) xv (kH K) (kHa K) hz (MW ct o v []) ) hx hb hml hown hts (cwV 0 hts gL_law_X10_fault rfl rfl rfl (by decide +kernel) ⟨(Nat.le_of_ble_eq_true rfl), (Nat.le_of_ble_eq_true rfl)⟩) hK hP hD hS hA hX (va_recv hK hP (ci := 9) (q0 := 38) rfl rfl) rfl hl.1 rfl (Nat.le_of_ble_eq_true rfl) dL_law_537 ⟨rm1 (Nat.le_of_ble_eq_true rfl) hcc, rs1 (Nat.le_of_ble_eq_true rfl) hss⟩ (fun r1 _ H locs hr1 hP hD hS => ?_)
  have hP : va_P D vwCl (CWd ct (xE g) K y rs bz iv lz sy xv hz (MW ct o v [])) H := hP
  have hD : va_D (AD s) (CWd ct (xE g) K y rs bz iv lz sy xv hz (MW ct o v [])) := hD
  refine W.widen (k := cc + 40) (n := ss + 3000) (rm4 (Nat.le_of_ble_eq_true rfl)) (rs4 (Nat.le_of_ble_eq_true rfl)) ?_
  refine lv_aload_n hx hb dL_law_540 rfl (lv_at hl 1 rfl) ?_
  have hP := lwTo hP
  have hD := lwToD hD
  refine zVI [] [.int r1] (kX11_fault o v (CLd ct (xE g) K y rs bz iv lz sy xv hz) ) hx hb hml hown hts (cwV 0 hts gL_law_X11_fault rfl rfl rfl (by decide +kernel) ⟨(Nat.le_of_ble_eq_true rfl), (Nat.le_of_ble_eq_true rfl)⟩) hK hP hD hS hA (va_recv hK hP (ci := 10) (q0 := 0) rfl rfl) rfl hl.1 rfl (Nat.le_of_ble_eq_true rfl) dL_law_541 ⟨rm2 (Nat.le_of_ble_eq_true rfl) hcc, rs2 (Nat.le_of_ble_eq_true rfl) hss⟩ (fun r2 _ H locs hr2 hP hD hS => ?_)
  have hP := lwFr (show va_P D vwCl (MW ct o v (CLd ct (xE g) K y rs bz iv lz sy xv hz)) H from hP)
  have hD := lwFrD (show va_D (AD s) (MW ct o v (CLd ct (xE g) K y rs bz iv lz sy xv hz)) from hD)
  refine W.widen (k := cc + 64) (n := ss + 4000) (rm3 (Nat.le_of_ble_eq_true rfl)) (rs3 (Nat.le_of_ble_eq_true rfl)) ?_
  exact lv_icmp_eq (tgt := 1418) hx hb dL_law_544 (by decide) (fun _ => go y rs bz iv lz sy xv tx hz v _ _ ls hQ hR hP hD hS hl) (fun hne => absurd (hr1.trans (hQ.2.2.2.2.2.2.1.trans hr2.symm)) hne)
set_option maxHeartbeats 4000000 in
set_option maxRecDepth 100000 in
theorem law_c13 {D : va_G} {ct : Nat → ClassId} {g : XG} {p : Program} {l : Launch} {e : Env} {s : State} {m : MethodId} {b L : Nat} {xs : Nat → Int32} {below : List Frame} {meth : Method} {c : Code} {K : CK} {o : Nat → Nat} {i cc ss : Nat} {Q : State → Prop} (C : lwX D ct g p s m b L xs c) (hi : i + 3 < L) (hL : L ≤ 2048) (hcc : cc + 64 ≤ room_1.cells) (hss : ss + 4000 ≤ room_1.slots) (go : lwAt D ct g p l e s m b below meth c K o i (cc + 64) (ss + 4000) Q 1418) : lwAt D ct g p l e s m b below meth c K o i cc ss Q 549 := by
  obtain ⟨hx, hb, hml, hown, hts, hXs, hbl, hK, hX⟩ := C
  intro y rs bz iv lz sy xv tx hz v H locs ls hQ hR hP hD hS hl
  have hA : ∀ q, s.heap.size ≤ q → AD s q := fun _ h => h
  have hbA : ¬ AD s b := Nat.not_le.mpr hbl
  have hJ := hQ.1
  have hy : yI y := hJ.2.2.1
  have hf : yF y := hJ.2.2.2.2.2.2
  have hN : RelN iv v := hQ.2.2.2.2.1
  obtain ⟨x1, hx1⟩ : ∃ x, x = xs (nI (i + 1)).toNatClampNeg := ⟨_, rfl⟩
  obtain ⟨x2, hx2⟩ : ∃ x, x = xs (nI (i + 2)).toNatClampNeg := ⟨_, rfl⟩
  refine lv_aload_n hx hb dL_law_549 rfl (lv_at hl 2 rfl) ?_
  refine zScr (k := 1) hx hb hXs hbl hbA hS hl (by omega) hL (by decide) hx1 dL_law_550 dL_law_551 dL_law_552 dL_law_553 dL_law_554 ?_
  refine zScr (k := 2) hx hb hXs hbl hbA hS hl (by omega) hL (by decide) hx2 dL_law_555 dL_law_556 dL_law_557 dL_law_558 dL_law_559 ?_
  refine zBoo hx hb dL_law_560 dL_law_563 dL_law_564 dL_law_567 ?_
  have hP : va_P D vwCl (CWd ct (xE g) K y rs bz iv lz sy xv hz (MW ct o v [])) H := hP
  refine zVIX [.int x1, .int (zbl x2)] [] (kX10_reason (kA K) y (kB K) rs (kD K) bz (kI K) iv (kL K) lz (kS K) sy (kX K) xv (kH K) (kHa K) hz (MW ct o v []) x1 (zbl x2)) hx hb hml hown hts (cwV 2 hts gL_law_X10_reason rfl rfl rfl (by decide +kernel) ⟨(Nat.le_of_ble_eq_true rfl), (Nat.le_of_ble_eq_true rfl)⟩) hK hP hD hS hA hX (va_recv hK hP (ci := 9) (q0 := 38) rfl rfl) rfl hl.1 rfl (Nat.le_of_ble_eq_true rfl) dL_law_568 ⟨rm1 (Nat.le_of_ble_eq_true rfl) hcc, rs1 (Nat.le_of_ble_eq_true rfl) hss⟩ (fun r1 _ H locs hr1 hP hD hS => ?_)
  have hP : va_P D vwCl (CWd ct (xE g) K y rs bz iv lz sy xv hz (MW ct o v [])) H := hP
  have hD : va_D (AD s) (CWd ct (xE g) K y rs bz iv lz sy xv hz (MW ct o v [])) := hD
  refine W.widen (k := cc + 40) (n := ss + 3000) (rm4 (Nat.le_of_ble_eq_true rfl)) (rs4 (Nat.le_of_ble_eq_true rfl)) ?_
  refine lv_aload_n hx hb dL_law_571 rfl (lv_at hl 1 rfl) ?_
  refine zScr (k := 1) hx hb hXs hbl hbA hS hl (by omega) hL (by decide) hx1 dL_law_572 dL_law_573 dL_law_574 dL_law_575 dL_law_576 ?_
  refine zScr (k := 2) hx hb hXs hbl hbA hS hl (by omega) hL (by decide) hx2 dL_law_577 dL_law_578 dL_law_579 dL_law_580 dL_law_581 ?_
  refine zBoo hx hb dL_law_582 dL_law_585 dL_law_586 dL_law_589 ?_
  have hP := lwTo hP
  have hD := lwToD hD
  refine zVI [.int x1, .int (zbl x2)] [.int r1] (kX11_reason o v (CLd ct (xE g) K y rs bz iv lz sy xv hz) x1 (zbl x2)) hx hb hml hown hts (cwV 2 hts gL_law_X11_reason rfl rfl rfl (by decide +kernel) ⟨(Nat.le_of_ble_eq_true rfl), (Nat.le_of_ble_eq_true rfl)⟩) hK hP hD hS hA (va_recv hK hP (ci := 10) (q0 := 0) rfl rfl) rfl hl.1 rfl (Nat.le_of_ble_eq_true rfl) dL_law_590 ⟨rm2 (Nat.le_of_ble_eq_true rfl) hcc, rs2 (Nat.le_of_ble_eq_true rfl) hss⟩ (fun r2 _ H locs hr2 hP hD hS => ?_)
  have hP := lwFr (show va_P D vwCl (MW ct o v (CLd ct (xE g) K y rs bz iv lz sy xv hz)) H from hP)
  have hD := lwFrD (show va_D (AD s) (MW ct o v (CLd ct (xE g) K y rs bz iv lz sy xv hz)) from hD)
  refine W.widen (k := cc + 64) (n := ss + 4000) (rm3 (Nat.le_of_ble_eq_true rfl)) (rs3 (Nat.le_of_ble_eq_true rfl)) ?_
  exact lv_icmp_eq (tgt := 1418) hx hb dL_law_593 (by decide) (fun _ => go y rs bz iv lz sy xv tx hz v _ _ ls hQ hR hP hD hS hl) (fun hne => absurd (hr1.trans ((RL_rsn hQ x1 (zbl x2)).trans hr2.symm)) hne)
set_option maxHeartbeats 4000000 in
set_option maxRecDepth 100000 in
theorem law_c14 {D : va_G} {ct : Nat → ClassId} {g : XG} {p : Program} {l : Launch} {e : Env} {s : State} {m : MethodId} {b L : Nat} {xs : Nat → Int32} {below : List Frame} {meth : Method} {c : Code} {K : CK} {o : Nat → Nat} {i cc ss : Nat} {Q : State → Prop} (C : lwX D ct g p s m b L xs c) (hi : i + 3 < L) (hL : L ≤ 2048) (hcc : cc + 64 ≤ room_1.cells) (hss : ss + 4000 ≤ room_1.slots) (go : lwAt D ct g p l e s m b below meth c K o i (cc + 64) (ss + 4000) Q 1418) : lwAt D ct g p l e s m b below meth c K o i cc ss Q 598 := by
  obtain ⟨hx, hb, hml, hown, hts, hXs, hbl, hK, hX⟩ := C
  intro y rs bz iv lz sy xv tx hz v H locs ls hQ hR hP hD hS hl
  have hA : ∀ q, s.heap.size ≤ q → AD s q := fun _ h => h
  have hbA : ¬ AD s b := Nat.not_le.mpr hbl
  have hJ := hQ.1
  have hy : yI y := hJ.2.2.1
  have hf : yF y := hJ.2.2.2.2.2.2
  have hN : RelN iv v := hQ.2.2.2.2.1
  obtain ⟨x1, hx1⟩ : ∃ x, x = xs (nI (i + 1)).toNatClampNeg := ⟨_, rfl⟩
  obtain ⟨x2, hx2⟩ : ∃ x, x = xs (nI (i + 2)).toNatClampNeg := ⟨_, rfl⟩
  refine lv_aload_n hx hb dL_law_598 rfl (lv_at hl 2 rfl) ?_
  refine zScr (k := 1) hx hb hXs hbl hbA hS hl (by omega) hL (by decide) hx1 dL_law_599 dL_law_600 dL_law_601 dL_law_602 dL_law_603 ?_
  refine zScr (k := 2) hx hb hXs hbl hbA hS hl (by omega) hL (by decide) hx2 dL_law_604 dL_law_605 dL_law_606 dL_law_607 dL_law_608 ?_
  have hP : va_P D vwCl (CWd ct (xE g) K y rs bz iv lz sy xv hz (MW ct o v [])) H := hP
  refine zVIX [.int x1, .int x2] [] (kX10_thingOf (kA K) y (kB K) rs (kD K) bz (kI K) iv (kL K) lz (kS K) sy (kX K) xv (kH K) (kHa K) hz (MW ct o v []) x1 x2 hy hf) hx hb hml hown hts (cwV 2 hts gL_law_X10_thingOf rfl rfl rfl (by decide +kernel) ⟨(Nat.le_of_ble_eq_true rfl), (Nat.le_of_ble_eq_true rfl)⟩) hK hP hD hS hA hX (va_recv hK hP (ci := 9) (q0 := 38) rfl rfl) rfl hl.1 rfl (Nat.le_of_ble_eq_true rfl) dL_law_609 ⟨rm1 (Nat.le_of_ble_eq_true rfl) hcc, rs1 (Nat.le_of_ble_eq_true rfl) hss⟩ (fun r1 _ H locs hr1 hP hD hS => ?_)
  have hP : va_P D vwCl (CWd ct (xE g) K y rs bz iv lz sy xv hz (MW ct o v [])) H := hP
  have hD : va_D (AD s) (CWd ct (xE g) K y rs bz iv lz sy xv hz (MW ct o v [])) := hD
  refine W.widen (k := cc + 40) (n := ss + 3000) (rm4 (Nat.le_of_ble_eq_true rfl)) (rs4 (Nat.le_of_ble_eq_true rfl)) ?_
  refine lv_aload_n hx hb dL_law_612 rfl (lv_at hl 1 rfl) ?_
  refine zScr (k := 1) hx hb hXs hbl hbA hS hl (by omega) hL (by decide) hx1 dL_law_613 dL_law_614 dL_law_615 dL_law_616 dL_law_617 ?_
  refine zScr (k := 2) hx hb hXs hbl hbA hS hl (by omega) hL (by decide) hx2 dL_law_618 dL_law_619 dL_law_620 dL_law_621 dL_law_622 ?_
  have hP := lwTo hP
  have hD := lwToD hD
  refine zVI [.int x1, .int x2] [.int r1] (kX11_thingOf o v (CLd ct (xE g) K y rs bz iv lz sy xv hz) x1 x2 y hy hJ.1) hx hb hml hown hts (cwV 2 hts gL_law_X11_thingOf rfl rfl rfl (by decide +kernel) ⟨(Nat.le_of_ble_eq_true rfl), (Nat.le_of_ble_eq_true rfl)⟩) hK hP hD hS hA (va_recv hK hP (ci := 10) (q0 := 0) rfl rfl) rfl hl.1 rfl (Nat.le_of_ble_eq_true rfl) dL_law_623 ⟨rm2 (Nat.le_of_ble_eq_true rfl) hcc, rs2 (Nat.le_of_ble_eq_true rfl) hss⟩ (fun r2 _ H locs hr2 hP hD hS => ?_)
  have hP := lwFr (show va_P D vwCl (MW ct o v (CLd ct (xE g) K y rs bz iv lz sy xv hz)) H from hP)
  have hD := lwFrD (show va_D (AD s) (MW ct o v (CLd ct (xE g) K y rs bz iv lz sy xv hz)) from hD)
  refine W.widen (k := cc + 64) (n := ss + 4000) (rm3 (Nat.le_of_ble_eq_true rfl)) (rs3 (Nat.le_of_ble_eq_true rfl)) ?_
  exact lv_icmp_eq (tgt := 1418) hx hb dL_law_626 (by decide) (fun _ => go y rs bz iv lz sy xv tx hz v _ _ ls hQ hR hP hD hS hl) (fun hne => absurd (hr1.trans hr2.symm) hne)
set_option maxHeartbeats 4000000 in
set_option maxRecDepth 100000 in
theorem law_c15 {D : va_G} {ct : Nat → ClassId} {g : XG} {p : Program} {l : Launch} {e : Env} {s : State} {m : MethodId} {b L : Nat} {xs : Nat → Int32} {below : List Frame} {meth : Method} {c : Code} {K : CK} {o : Nat → Nat} {i cc ss : Nat} {Q : State → Prop} (C : lwX D ct g p s m b L xs c) (hi : i + 3 < L) (hL : L ≤ 2048) (hcc : cc + 64 ≤ room_1.cells) (hss : ss + 4000 ≤ room_1.slots) (go : lwAt D ct g p l e s m b below meth c K o i (cc + 64) (ss + 4000) Q 1418) : lwAt D ct g p l e s m b below meth c K o i cc ss Q 631 := by
  obtain ⟨hx, hb, hml, hown, hts, hXs, hbl, hK, hX⟩ := C
  intro y rs bz iv lz sy xv tx hz v H locs ls hQ hR hP hD hS hl
  have hA : ∀ q, s.heap.size ≤ q → AD s q := fun _ h => h
  have hbA : ¬ AD s b := Nat.not_le.mpr hbl
  have hJ := hQ.1
  have hy : yI y := hJ.2.2.1
  have hf : yF y := hJ.2.2.2.2.2.2
  have hN : RelN iv v := hQ.2.2.2.2.1
  obtain ⟨x1, hx1⟩ : ∃ x, x = xs (nI (i + 1)).toNatClampNeg := ⟨_, rfl⟩
  obtain ⟨x2, hx2⟩ : ∃ x, x = xs (nI (i + 2)).toNatClampNeg := ⟨_, rfl⟩
  refine lv_aload_n hx hb dL_law_631 rfl (lv_at hl 2 rfl) ?_
  refine zScr (k := 1) hx hb hXs hbl hbA hS hl (by omega) hL (by decide) hx1 dL_law_632 dL_law_633 dL_law_634 dL_law_635 dL_law_636 ?_
  refine zScr (k := 2) hx hb hXs hbl hbA hS hl (by omega) hL (by decide) hx2 dL_law_637 dL_law_638 dL_law_639 dL_law_640 dL_law_641 ?_
  have hP : va_P D vwCl (CWd ct (xE g) K y rs bz iv lz sy xv hz (MW ct o v [])) H := hP
  refine zVIX [.int x1, .int x2] [] (kX10_cartOf (kA K) y (kB K) rs (kD K) bz (kI K) iv (kL K) lz (kS K) sy (kX K) xv (kH K) (kHa K) hz (MW ct o v []) x1 x2 hy hf) hx hb hml hown hts (cwV 2 hts gL_law_X10_cartOf rfl rfl rfl (by decide +kernel) ⟨(Nat.le_of_ble_eq_true rfl), (Nat.le_of_ble_eq_true rfl)⟩) hK hP hD hS hA hX (va_recv hK hP (ci := 9) (q0 := 38) rfl rfl) rfl hl.1 rfl (Nat.le_of_ble_eq_true rfl) dL_law_642 ⟨rm1 (Nat.le_of_ble_eq_true rfl) hcc, rs1 (Nat.le_of_ble_eq_true rfl) hss⟩ (fun r1 _ H locs hr1 hP hD hS => ?_)
  have hP : va_P D vwCl (CWd ct (xE g) K y rs bz iv lz sy xv hz (MW ct o v [])) H := hP
  have hD : va_D (AD s) (CWd ct (xE g) K y rs bz iv lz sy xv hz (MW ct o v [])) := hD
  refine W.widen (k := cc + 40) (n := ss + 3000) (rm4 (Nat.le_of_ble_eq_true rfl)) (rs4 (Nat.le_of_ble_eq_true rfl)) ?_
  refine lv_aload_n hx hb dL_law_645 rfl (lv_at hl 1 rfl) ?_
  refine zScr (k := 1) hx hb hXs hbl hbA hS hl (by omega) hL (by decide) hx1 dL_law_646 dL_law_647 dL_law_648 dL_law_649 dL_law_650 ?_
  refine zScr (k := 2) hx hb hXs hbl hbA hS hl (by omega) hL (by decide) hx2 dL_law_651 dL_law_652 dL_law_653 dL_law_654 dL_law_655 ?_
  have hP := lwTo hP
  have hD := lwToD hD
  refine zVI [.int x1, .int x2] [.int r1] (kX11_cartOf o v (CLd ct (xE g) K y rs bz iv lz sy xv hz) x1 x2 y hy hJ.1 hJ.2.1.2.2.2.2.2.1) hx hb hml hown hts (cwV 2 hts gL_law_X11_cartOf rfl rfl rfl (by decide +kernel) ⟨(Nat.le_of_ble_eq_true rfl), (Nat.le_of_ble_eq_true rfl)⟩) hK hP hD hS hA (va_recv hK hP (ci := 10) (q0 := 0) rfl rfl) rfl hl.1 rfl (Nat.le_of_ble_eq_true rfl) dL_law_656 ⟨rm2 (Nat.le_of_ble_eq_true rfl) hcc, rs2 (Nat.le_of_ble_eq_true rfl) hss⟩ (fun r2 _ H locs hr2 hP hD hS => ?_)
  have hP := lwFr (show va_P D vwCl (MW ct o v (CLd ct (xE g) K y rs bz iv lz sy xv hz)) H from hP)
  have hD := lwFrD (show va_D (AD s) (MW ct o v (CLd ct (xE g) K y rs bz iv lz sy xv hz)) from hD)
  refine W.widen (k := cc + 64) (n := ss + 4000) (rm3 (Nat.le_of_ble_eq_true rfl)) (rs3 (Nat.le_of_ble_eq_true rfl)) ?_
  exact lv_icmp_eq (tgt := 1418) hx hb dL_law_659 (by decide) (fun _ => go y rs bz iv lz sy xv tx hz v _ _ ls hQ hR hP hD hS hl) (fun hne => absurd (hr1.trans hr2.symm) hne)
set_option maxHeartbeats 4000000 in
set_option maxRecDepth 100000 in
theorem law_c16 {D : va_G} {ct : Nat → ClassId} {g : XG} {p : Program} {l : Launch} {e : Env} {s : State} {m : MethodId} {b L : Nat} {xs : Nat → Int32} {below : List Frame} {meth : Method} {c : Code} {K : CK} {o : Nat → Nat} {i cc ss : Nat} {Q : State → Prop} (C : lwX D ct g p s m b L xs c) (hi : i + 3 < L) (hL : L ≤ 2048) (hcc : cc + 64 ≤ room_1.cells) (hss : ss + 4000 ≤ room_1.slots) (go : lwAt D ct g p l e s m b below meth c K o i (cc + 64) (ss + 4000) Q 1418) : lwAt D ct g p l e s m b below meth c K o i cc ss Q 664 := by
  obtain ⟨hx, hb, hml, hown, hts, hXs, hbl, hK, hX⟩ := C
  intro y rs bz iv lz sy xv tx hz v H locs ls hQ hR hP hD hS hl
  have hA : ∀ q, s.heap.size ≤ q → AD s q := fun _ h => h
  have hbA : ¬ AD s b := Nat.not_le.mpr hbl
  have hJ := hQ.1
  have hy : yI y := hJ.2.2.1
  have hf : yF y := hJ.2.2.2.2.2.2
  have hN : RelN iv v := hQ.2.2.2.2.1
  obtain ⟨x1, hx1⟩ : ∃ x, x = xs (nI (i + 1)).toNatClampNeg := ⟨_, rfl⟩
  obtain ⟨x2, hx2⟩ : ∃ x, x = xs (nI (i + 2)).toNatClampNeg := ⟨_, rfl⟩
  refine lv_aload_n hx hb dL_law_664 rfl (lv_at hl 2 rfl) ?_
  refine zScr (k := 1) hx hb hXs hbl hbA hS hl (by omega) hL (by decide) hx1 dL_law_665 dL_law_666 dL_law_667 dL_law_668 dL_law_669 ?_
  refine zScr (k := 2) hx hb hXs hbl hbA hS hl (by omega) hL (by decide) hx2 dL_law_670 dL_law_671 dL_law_672 dL_law_673 dL_law_674 ?_
  have hP : va_P D vwCl (CWd ct (xE g) K y rs bz iv lz sy xv hz (MW ct o v [])) H := hP
  refine zVIX [.int x1, .int x2] [] (kX10_at (kA K) y (kB K) rs (kD K) bz (kI K) iv (kL K) lz (kS K) sy (kX K) xv (kH K) (kHa K) hz (MW ct o v []) x1 x2 hy hf) hx hb hml hown hts (cwV 2 hts gL_law_X10_at rfl rfl rfl (by decide +kernel) ⟨(Nat.le_of_ble_eq_true rfl), (Nat.le_of_ble_eq_true rfl)⟩) hK hP hD hS hA hX (va_recv hK hP (ci := 9) (q0 := 38) rfl rfl) rfl hl.1 rfl (Nat.le_of_ble_eq_true rfl) dL_law_675 ⟨rm1 (Nat.le_of_ble_eq_true rfl) hcc, rs1 (Nat.le_of_ble_eq_true rfl) hss⟩ (fun r1 _ H locs hr1 hP hD hS => ?_)
  have hP : va_P D vwCl (CWd ct (xE g) K y rs bz iv lz sy xv hz (MW ct o v [])) H := hP
  have hD : va_D (AD s) (CWd ct (xE g) K y rs bz iv lz sy xv hz (MW ct o v [])) := hD
  refine W.widen (k := cc + 40) (n := ss + 3000) (rm4 (Nat.le_of_ble_eq_true rfl)) (rs4 (Nat.le_of_ble_eq_true rfl)) ?_
  refine lv_aload_n hx hb dL_law_678 rfl (lv_at hl 1 rfl) ?_
  refine zScr (k := 1) hx hb hXs hbl hbA hS hl (by omega) hL (by decide) hx1 dL_law_679 dL_law_680 dL_law_681 dL_law_682 dL_law_683 ?_
  refine zScr (k := 2) hx hb hXs hbl hbA hS hl (by omega) hL (by decide) hx2 dL_law_684 dL_law_685 dL_law_686 dL_law_687 dL_law_688 ?_
  have hP := lwTo hP
  have hD := lwToD hD
  refine zVI [.int x1, .int x2] [.int r1] (kX11_at o v (CLd ct (xE g) K y rs bz iv lz sy xv hz) x1 x2 y hy hJ.1) hx hb hml hown hts (cwV 2 hts gL_law_X11_at rfl rfl rfl (by decide +kernel) ⟨(Nat.le_of_ble_eq_true rfl), (Nat.le_of_ble_eq_true rfl)⟩) hK hP hD hS hA (va_recv hK hP (ci := 10) (q0 := 0) rfl rfl) rfl hl.1 rfl (Nat.le_of_ble_eq_true rfl) dL_law_689 ⟨rm2 (Nat.le_of_ble_eq_true rfl) hcc, rs2 (Nat.le_of_ble_eq_true rfl) hss⟩ (fun r2 _ H locs hr2 hP hD hS => ?_)
  have hP := lwFr (show va_P D vwCl (MW ct o v (CLd ct (xE g) K y rs bz iv lz sy xv hz)) H from hP)
  have hD := lwFrD (show va_D (AD s) (MW ct o v (CLd ct (xE g) K y rs bz iv lz sy xv hz)) from hD)
  refine W.widen (k := cc + 64) (n := ss + 4000) (rm3 (Nat.le_of_ble_eq_true rfl)) (rs3 (Nat.le_of_ble_eq_true rfl)) ?_
  exact lv_icmp_eq (tgt := 1418) hx hb dL_law_692 (by decide) (fun _ => go y rs bz iv lz sy xv tx hz v _ _ ls hQ hR hP hD hS hl) (fun hne => absurd (hr1.trans hr2.symm) hne)
set_option maxHeartbeats 4000000 in
set_option maxRecDepth 100000 in
theorem law_c17 {D : va_G} {ct : Nat → ClassId} {g : XG} {p : Program} {l : Launch} {e : Env} {s : State} {m : MethodId} {b L : Nat} {xs : Nat → Int32} {below : List Frame} {meth : Method} {c : Code} {K : CK} {o : Nat → Nat} {i cc ss : Nat} {Q : State → Prop} (C : lwX D ct g p s m b L xs c) (hi : i + 3 < L) (hL : L ≤ 2048) (hcc : cc + 64 ≤ room_1.cells) (hss : ss + 4000 ≤ room_1.slots) (go : lwAt D ct g p l e s m b below meth c K o i (cc + 64) (ss + 4000) Q 1418) : lwAt D ct g p l e s m b below meth c K o i cc ss Q 697 := by
  obtain ⟨hx, hb, hml, hown, hts, hXs, hbl, hK, hX⟩ := C
  intro y rs bz iv lz sy xv tx hz v H locs ls hQ hR hP hD hS hl
  have hA : ∀ q, s.heap.size ≤ q → AD s q := fun _ h => h
  have hbA : ¬ AD s b := Nat.not_le.mpr hbl
  have hJ := hQ.1
  have hy : yI y := hJ.2.2.1
  have hf : yF y := hJ.2.2.2.2.2.2
  have hN : RelN iv v := hQ.2.2.2.2.1
  obtain ⟨x1, hx1⟩ : ∃ x, x = xs (nI (i + 1)).toNatClampNeg := ⟨_, rfl⟩
  obtain ⟨x2, hx2⟩ : ∃ x, x = xs (nI (i + 2)).toNatClampNeg := ⟨_, rfl⟩
  refine lv_aload_n hx hb dL_law_697 rfl (lv_at hl 2 rfl) ?_
  refine zScr (k := 1) hx hb hXs hbl hbA hS hl (by omega) hL (by decide) hx1 dL_law_698 dL_law_699 dL_law_700 dL_law_701 dL_law_702 ?_
  refine zScr (k := 2) hx hb hXs hbl hbA hS hl (by omega) hL (by decide) hx2 dL_law_703 dL_law_704 dL_law_705 dL_law_706 dL_law_707 ?_
  have hP : va_P D vwCl (CWd ct (xE g) K y rs bz iv lz sy xv hz (MW ct o v [])) H := hP
  refine zVIX [.int x1, .int x2] [] (kX10_roadOf (kA K) y (kB K) rs (kD K) bz (kI K) iv (kL K) lz (kS K) sy (kX K) xv (kH K) (kHa K) hz (MW ct o v []) x1 x2 hy hf) hx hb hml hown hts (cwV 2 hts gL_law_X10_roadOf rfl rfl rfl (by decide +kernel) ⟨(Nat.le_of_ble_eq_true rfl), (Nat.le_of_ble_eq_true rfl)⟩) hK hP hD hS hA hX (va_recv hK hP (ci := 9) (q0 := 38) rfl rfl) rfl hl.1 rfl (Nat.le_of_ble_eq_true rfl) dL_law_708 ⟨rm1 (Nat.le_of_ble_eq_true rfl) hcc, rs1 (Nat.le_of_ble_eq_true rfl) hss⟩ (fun r1 _ H locs hr1 hP hD hS => ?_)
  have hP : va_P D vwCl (CWd ct (xE g) K y rs bz iv lz sy xv hz (MW ct o v [])) H := hP
  have hD : va_D (AD s) (CWd ct (xE g) K y rs bz iv lz sy xv hz (MW ct o v [])) := hD
  refine W.widen (k := cc + 40) (n := ss + 3000) (rm4 (Nat.le_of_ble_eq_true rfl)) (rs4 (Nat.le_of_ble_eq_true rfl)) ?_
  refine lv_aload_n hx hb dL_law_711 rfl (lv_at hl 1 rfl) ?_
  refine zScr (k := 1) hx hb hXs hbl hbA hS hl (by omega) hL (by decide) hx1 dL_law_712 dL_law_713 dL_law_714 dL_law_715 dL_law_716 ?_
  refine zScr (k := 2) hx hb hXs hbl hbA hS hl (by omega) hL (by decide) hx2 dL_law_717 dL_law_718 dL_law_719 dL_law_720 dL_law_721 ?_
  have hP := lwTo hP
  have hD := lwToD hD
  refine zVI [.int x1, .int x2] [.int r1] (kX11_roadOf o v (CLd ct (xE g) K y rs bz iv lz sy xv hz) x1 x2 y hy hJ.1 hJ.2.1.2.2.2.2.2.2) hx hb hml hown hts (cwV 2 hts gL_law_X11_roadOf rfl rfl rfl (by decide +kernel) ⟨(Nat.le_of_ble_eq_true rfl), (Nat.le_of_ble_eq_true rfl)⟩) hK hP hD hS hA (va_recv hK hP (ci := 10) (q0 := 0) rfl rfl) rfl hl.1 rfl (Nat.le_of_ble_eq_true rfl) dL_law_722 ⟨rm2 (Nat.le_of_ble_eq_true rfl) hcc, rs2 (Nat.le_of_ble_eq_true rfl) hss⟩ (fun r2 _ H locs hr2 hP hD hS => ?_)
  have hP := lwFr (show va_P D vwCl (MW ct o v (CLd ct (xE g) K y rs bz iv lz sy xv hz)) H from hP)
  have hD := lwFrD (show va_D (AD s) (MW ct o v (CLd ct (xE g) K y rs bz iv lz sy xv hz)) from hD)
  refine W.widen (k := cc + 64) (n := ss + 4000) (rm3 (Nat.le_of_ble_eq_true rfl)) (rs3 (Nat.le_of_ble_eq_true rfl)) ?_
  exact lv_icmp_eq (tgt := 1418) hx hb dL_law_725 (by decide) (fun _ => go y rs bz iv lz sy xv tx hz v _ _ ls hQ hR hP hD hS hl) (fun hne => absurd (hr1.trans hr2.symm) hne)
set_option maxHeartbeats 4000000 in
set_option maxRecDepth 100000 in
theorem law_c18 {D : va_G} {ct : Nat → ClassId} {g : XG} {p : Program} {l : Launch} {e : Env} {s : State} {m : MethodId} {b L : Nat} {xs : Nat → Int32} {below : List Frame} {meth : Method} {c : Code} {K : CK} {o : Nat → Nat} {i cc ss : Nat} {Q : State → Prop} (C : lwX D ct g p s m b L xs c) (hi : i + 3 < L) (hL : L ≤ 2048) (hcc : cc + 64 ≤ room_1.cells) (hss : ss + 4000 ≤ room_1.slots) (go : lwAt D ct g p l e s m b below meth c K o i (cc + 64) (ss + 4000) Q 1418) : lwAt D ct g p l e s m b below meth c K o i cc ss Q 730 := by
  obtain ⟨hx, hb, hml, hown, hts, hXs, hbl, hK, hX⟩ := C
  intro y rs bz iv lz sy xv tx hz v H locs ls hQ hR hP hD hS hl
  have hA : ∀ q, s.heap.size ≤ q → AD s q := fun _ h => h
  have hbA : ¬ AD s b := Nat.not_le.mpr hbl
  have hJ := hQ.1
  have hy : yI y := hJ.2.2.1
  have hf : yF y := hJ.2.2.2.2.2.2
  have hN : RelN iv v := hQ.2.2.2.2.1
  obtain ⟨x1, hx1⟩ : ∃ x, x = xs (nI (i + 1)).toNatClampNeg := ⟨_, rfl⟩
  obtain ⟨x2, hx2⟩ : ∃ x, x = xs (nI (i + 2)).toNatClampNeg := ⟨_, rfl⟩
  refine lv_aload_n hx hb dL_law_730 rfl (lv_at hl 2 rfl) ?_
  refine zScr (k := 1) hx hb hXs hbl hbA hS hl (by omega) hL (by decide) hx1 dL_law_731 dL_law_732 dL_law_733 dL_law_734 dL_law_735 ?_
  refine zScr (k := 2) hx hb hXs hbl hbA hS hl (by omega) hL (by decide) hx2 dL_law_736 dL_law_737 dL_law_738 dL_law_739 dL_law_740 ?_
  refine zBoo hx hb dL_law_741 dL_law_744 dL_law_745 dL_law_748 ?_
  have hP : va_P D vwCl (CWd ct (xE g) K y rs bz iv lz sy xv hz (MW ct o v [])) H := hP
  refine zVIX [.int x1, .int (zbl x2)] [] (kX10_tenths (kA K) y (kB K) rs (kD K) bz (kI K) iv (kL K) lz (kS K) sy (kX K) xv (kH K) (kHa K) hz (MW ct o v []) x1 (zbl x2) hy hf) hx hb hml hown hts (cwV 2 hts gL_law_X10_tenths rfl rfl rfl (by decide +kernel) ⟨(Nat.le_of_ble_eq_true rfl), (Nat.le_of_ble_eq_true rfl)⟩) hK hP hD hS hA hX (va_recv hK hP (ci := 9) (q0 := 38) rfl rfl) rfl hl.1 rfl (Nat.le_of_ble_eq_true rfl) dL_law_749 ⟨rm1 (Nat.le_of_ble_eq_true rfl) hcc, rs1 (Nat.le_of_ble_eq_true rfl) hss⟩ (fun r1 _ H locs hr1 hP hD hS => ?_)
  have hP : va_P D vwCl (CWd ct (xE g) K y rs bz iv lz sy xv hz (MW ct o v [])) H := hP
  have hD : va_D (AD s) (CWd ct (xE g) K y rs bz iv lz sy xv hz (MW ct o v [])) := hD
  refine W.widen (k := cc + 40) (n := ss + 3000) (rm4 (Nat.le_of_ble_eq_true rfl)) (rs4 (Nat.le_of_ble_eq_true rfl)) ?_
  refine lv_aload_n hx hb dL_law_752 rfl (lv_at hl 1 rfl) ?_
  refine zScr (k := 1) hx hb hXs hbl hbA hS hl (by omega) hL (by decide) hx1 dL_law_753 dL_law_754 dL_law_755 dL_law_756 dL_law_757 ?_
  refine zScr (k := 2) hx hb hXs hbl hbA hS hl (by omega) hL (by decide) hx2 dL_law_758 dL_law_759 dL_law_760 dL_law_761 dL_law_762 ?_
  refine zBoo hx hb dL_law_763 dL_law_766 dL_law_767 dL_law_770 ?_
  have hP := lwTo hP
  have hD := lwToD hD
  refine zVI [.int x1, .int (zbl x2)] [.int r1] (kX11_tenths o v (CLd ct (xE g) K y rs bz iv lz sy xv hz) x1 (zbl x2) y hy hJ.1) hx hb hml hown hts (cwV 2 hts gL_law_X11_tenths rfl rfl rfl (by decide +kernel) ⟨(Nat.le_of_ble_eq_true rfl), (Nat.le_of_ble_eq_true rfl)⟩) hK hP hD hS hA (va_recv hK hP (ci := 10) (q0 := 0) rfl rfl) rfl hl.1 rfl (Nat.le_of_ble_eq_true rfl) dL_law_771 ⟨rm2 (Nat.le_of_ble_eq_true rfl) hcc, rs2 (Nat.le_of_ble_eq_true rfl) hss⟩ (fun r2 _ H locs hr2 hP hD hS => ?_)
  have hP := lwFr (show va_P D vwCl (MW ct o v (CLd ct (xE g) K y rs bz iv lz sy xv hz)) H from hP)
  have hD := lwFrD (show va_D (AD s) (MW ct o v (CLd ct (xE g) K y rs bz iv lz sy xv hz)) from hD)
  refine W.widen (k := cc + 64) (n := ss + 4000) (rm3 (Nat.le_of_ble_eq_true rfl)) (rs3 (Nat.le_of_ble_eq_true rfl)) ?_
  exact lv_icmp_eq (tgt := 1418) hx hb dL_law_774 (by decide) (fun _ => go y rs bz iv lz sy xv tx hz v _ _ ls hQ hR hP hD hS hl) (fun hne => absurd (hr1.trans hr2.symm) hne)
set_option maxHeartbeats 4000000 in
set_option maxRecDepth 100000 in
theorem law_c19 {D : va_G} {ct : Nat → ClassId} {g : XG} {p : Program} {l : Launch} {e : Env} {s : State} {m : MethodId} {b L : Nat} {xs : Nat → Int32} {below : List Frame} {meth : Method} {c : Code} {K : CK} {o : Nat → Nat} {i cc ss : Nat} {Q : State → Prop} (C : lwX D ct g p s m b L xs c) (hi : i + 3 < L) (hL : L ≤ 2048) (hcc : cc + 64 ≤ room_1.cells) (hss : ss + 4000 ≤ room_1.slots) (go : lwAt D ct g p l e s m b below meth c K o i (cc + 64) (ss + 4000) Q 1418) : lwAt D ct g p l e s m b below meth c K o i cc ss Q 779 := by
  obtain ⟨hx, hb, hml, hown, hts, hXs, hbl, hK, hX⟩ := C
  intro y rs bz iv lz sy xv tx hz v H locs ls hQ hR hP hD hS hl
  have hA : ∀ q, s.heap.size ≤ q → AD s q := fun _ h => h
  have hbA : ¬ AD s b := Nat.not_le.mpr hbl
  have hJ := hQ.1
  have hy : yI y := hJ.2.2.1
  have hf : yF y := hJ.2.2.2.2.2.2
  have hN : RelN iv v := hQ.2.2.2.2.1
  obtain ⟨x1, hx1⟩ : ∃ x, x = xs (nI (i + 1)).toNatClampNeg := ⟨_, rfl⟩
  obtain ⟨x2, hx2⟩ : ∃ x, x = xs (nI (i + 2)).toNatClampNeg := ⟨_, rfl⟩
  refine lv_aload_n hx hb dL_law_779 rfl (lv_at hl 2 rfl) ?_
  refine zScr (k := 1) hx hb hXs hbl hbA hS hl (by omega) hL (by decide) hx1 dL_law_780 dL_law_781 dL_law_782 dL_law_783 dL_law_784 ?_
  refine zScr (k := 2) hx hb hXs hbl hbA hS hl (by omega) hL (by decide) hx2 dL_law_785 dL_law_786 dL_law_787 dL_law_788 dL_law_789 ?_
  refine zBoo hx hb dL_law_790 dL_law_793 dL_law_794 dL_law_797 ?_
  have hP : va_P D vwCl (CWd ct (xE g) K y rs bz iv lz sy xv hz (MW ct o v [])) H := hP
  refine zVIX [.int x1, .int (zbl x2)] [] (kX10_tenthsAgain (kA K) y (kB K) rs (kD K) bz (kI K) iv (kL K) lz (kS K) sy (kX K) xv (kH K) (kHa K) hz (MW ct o v []) x1 (zbl x2) hy hf) hx hb hml hown hts (cwV 2 hts gL_law_X10_tenthsAgain rfl rfl rfl (by decide +kernel) ⟨(Nat.le_of_ble_eq_true rfl), (Nat.le_of_ble_eq_true rfl)⟩) hK hP hD hS hA hX (va_recv hK hP (ci := 9) (q0 := 38) rfl rfl) rfl hl.1 rfl (Nat.le_of_ble_eq_true rfl) dL_law_798 ⟨rm1 (Nat.le_of_ble_eq_true rfl) hcc, rs1 (Nat.le_of_ble_eq_true rfl) hss⟩ (fun r1 _ H locs hr1 hP hD hS => ?_)
  have hP : va_P D vwCl (CWd ct (xE g) K y rs bz iv lz sy xv hz (MW ct o v [])) H := hP
  have hD : va_D (AD s) (CWd ct (xE g) K y rs bz iv lz sy xv hz (MW ct o v [])) := hD
  refine W.widen (k := cc + 40) (n := ss + 3000) (rm4 (Nat.le_of_ble_eq_true rfl)) (rs4 (Nat.le_of_ble_eq_true rfl)) ?_
  refine lv_aload_n hx hb dL_law_801 rfl (lv_at hl 1 rfl) ?_
  refine zScr (k := 1) hx hb hXs hbl hbA hS hl (by omega) hL (by decide) hx1 dL_law_802 dL_law_803 dL_law_804 dL_law_805 dL_law_806 ?_
  refine zScr (k := 2) hx hb hXs hbl hbA hS hl (by omega) hL (by decide) hx2 dL_law_807 dL_law_808 dL_law_809 dL_law_810 dL_law_811 ?_
  refine zBoo hx hb dL_law_812 dL_law_815 dL_law_816 dL_law_819 ?_
  have hP := lwTo hP
  have hD := lwToD hD
  refine zVI [.int x1, .int (zbl x2)] [.int r1] (kX11_tenthsAgain o v (CLd ct (xE g) K y rs bz iv lz sy xv hz) x1 (zbl x2) y hy hJ.1) hx hb hml hown hts (cwV 2 hts gL_law_X11_tenthsAgain rfl rfl rfl (by decide +kernel) ⟨(Nat.le_of_ble_eq_true rfl), (Nat.le_of_ble_eq_true rfl)⟩) hK hP hD hS hA (va_recv hK hP (ci := 10) (q0 := 0) rfl rfl) rfl hl.1 rfl (Nat.le_of_ble_eq_true rfl) dL_law_820 ⟨rm2 (Nat.le_of_ble_eq_true rfl) hcc, rs2 (Nat.le_of_ble_eq_true rfl) hss⟩ (fun r2 _ H locs hr2 hP hD hS => ?_)
  have hP := lwFr (show va_P D vwCl (MW ct o v (CLd ct (xE g) K y rs bz iv lz sy xv hz)) H from hP)
  have hD := lwFrD (show va_D (AD s) (MW ct o v (CLd ct (xE g) K y rs bz iv lz sy xv hz)) from hD)
  refine W.widen (k := cc + 64) (n := ss + 4000) (rm3 (Nat.le_of_ble_eq_true rfl)) (rs3 (Nat.le_of_ble_eq_true rfl)) ?_
  exact lv_icmp_eq (tgt := 1418) hx hb dL_law_823 (by decide) (fun _ => go y rs bz iv lz sy xv tx hz v _ _ ls hQ hR hP hD hS hl) (fun hne => absurd (hr1.trans ((RL_teg hQ x1 (zbl x2) (zbl_01 _)).trans hr2.symm)) hne)
