/-! THE LAW: its branches -/
set_option maxHeartbeats 4000000 in
set_option maxRecDepth 100000 in
theorem law_c5 {D : va_G} {ct : Nat → ClassId} {g : XG} {p : Program} {l : Launch} {e : Env} {s : State} {m : MethodId} {b L : Nat} {xs : Nat → Int32} {below : List Frame} {meth : Method} {c : Code} {K : CK} {o : Nat → Nat} {i cc ss : Nat} {Q : State → Prop} (C : lwX D ct g p s m b L xs c) (hi : i + 3 < L) (hL : L ≤ 2048) (hcc : cc + 64 ≤ room_1.cells) (hss : ss + 4000 ≤ room_1.slots) (go : lwAt D ct g p l e s m b below meth c K o i (cc + 64) (ss + 4000) Q 1418) : lwAt D ct g p l e s m b below meth c K o i cc ss Q 315 := by
  obtain ⟨hx, hb, hml, hown, hts, hXs, hbl, hK, hX⟩ := C
  intro y rs bz iv lz sy xv tx hz v H locs ls hQ hR hP hD hS hl
  have hA : ∀ q, s.heap.size ≤ q → AD s q := fun _ h => h
  have hbA : ¬ AD s b := Nat.not_le.mpr hbl
  have hJ := hQ.1
  have hy : yI y := hJ.2.2.1
  have hf : yF y := hJ.2.2.2.2.2.2
  have hN : RelN iv v := hQ.2.2.2.2.1
  have hB3 : y_n y ≤ 12 ∧ y_cn y ≤ 4 ∧ y_rn y ≤ 5 := ⟨hy.1, hy.2.1, hy.2.2.1⟩
  have hc8 : hz.2.1 ≤ 8 := by rw [hQ.2.1.2.1]; exact hQ.2.1.2.2.1
  obtain ⟨x1, hx1⟩ : ∃ x, x = xs (nI (i + 1)).toNatClampNeg := ⟨_, rfl⟩
  obtain ⟨x2, hx2⟩ : ∃ x, x = xs (nI (i + 2)).toNatClampNeg := ⟨_, rfl⟩
  obtain ⟨x3, hx3⟩ : ∃ x, x = xs (nI (i + 3)).toNatClampNeg := ⟨_, rfl⟩
  have q := RL_chg (a := f_addR y rs x1 x2 x3) (b := F_addR y (F_beg v) x1 x2 x3) hQ (st_addR (RQ_beg hJ hQ.2.1 hQ.2.2.1).2)
  refine lv_aload_n hx hb dL_law_315 rfl (lv_at hl 2 rfl) ?_
  refine zScr (k := 1) hx hb hXs hbl hbA hS hl (by omega) hL (by decide) hx1 dL_law_316 dL_law_317 dL_law_318 dL_law_319 dL_law_320 ?_
  refine zScr (k := 2) hx hb hXs hbl hbA hS hl (by omega) hL (by decide) hx2 dL_law_321 dL_law_322 dL_law_323 dL_law_324 dL_law_325 ?_
  refine zScr (k := 3) hx hb hXs hbl hbA hS hl (by omega) hL (by decide) hx3 dL_law_326 dL_law_327 dL_law_328 dL_law_329 dL_law_330 ?_
  have hP : va_P D vwCl (CWd ct (xE g) K y rs bz iv lz sy xv hz (MW ct o v [])) H := hP
  refine zVIX [.int x1, .int x2, .int x3] [] (kX10_road (kA K) y (kB K) rs (kD K) bz (kI K) iv (kL K) lz (kS K) sy (kX K) xv (kH K) (kHa K) hz (MW ct o v []) x1 x2 x3 hy hf hQ.2.1.1 hc8) hx hb hml hown hts (cwV 3 hts gL_law_X10_road rfl rfl rfl (by decide +kernel) ⟨(Nat.le_of_ble_eq_true rfl), (Nat.le_of_ble_eq_true rfl)⟩) hK hP hD hS hA hX (va_recv hK hP (ci := 9) (q0 := 38) rfl rfl) rfl hl.1 rfl (Nat.le_of_ble_eq_true rfl) dL_law_331 ⟨rm1 (Nat.le_of_ble_eq_true rfl) hcc, rs1 (Nat.le_of_ble_eq_true rfl) hss⟩ (fun r1 _ H locs hr1 hP hD hS => ?_)
  have hP : va_P D vwCl (CWd ct (xE g) K ((f_addR y rs x1 x2 x3).2.1) ((f_addR y rs x1 x2 x3).2.2) bz iv lz sy xv ((F_set (hB hz y) (f_addR y rs x1 x2 x3).1).2) (MW ct o v [])) H := hP
  have hD : va_D (AD s) (CWd ct (xE g) K ((f_addR y rs x1 x2 x3).2.1) ((f_addR y rs x1 x2 x3).2.2) bz iv lz sy xv ((F_set (hB hz y) (f_addR y rs x1 x2 x3).1).2) (MW ct o v [])) := hD
  refine W.widen (k := cc + 40) (n := ss + 3000) (rm4 (Nat.le_of_ble_eq_true rfl)) (rs4 (Nat.le_of_ble_eq_true rfl)) ?_
  refine lv_aload_n hx hb dL_law_334 rfl (lv_at hl 1 rfl) ?_
  refine zScr (k := 1) hx hb hXs hbl hbA hS hl (by omega) hL (by decide) hx1 dL_law_335 dL_law_336 dL_law_337 dL_law_338 dL_law_339 ?_
  refine zScr (k := 2) hx hb hXs hbl hbA hS hl (by omega) hL (by decide) hx2 dL_law_340 dL_law_341 dL_law_342 dL_law_343 dL_law_344 ?_
  refine zScr (k := 3) hx hb hXs hbl hbA hS hl (by omega) hL (by decide) hx3 dL_law_345 dL_law_346 dL_law_347 dL_law_348 dL_law_349 ?_
  have hP := lwTo hP
  have hD := lwToD hD
  refine zVI [.int x1, .int x2, .int x3] [.int r1] (kX11_road o v (CLd ct (xE g) K ((f_addR y rs x1 x2 x3).2.1) ((f_addR y rs x1 x2 x3).2.2) bz iv lz sy xv ((F_set (hB hz y) (f_addR y rs x1 x2 x3).1).2)) x1 x2 x3 y hB3 hJ.1 hQ.2.1.2.2.1) hx hb hml hown hts (cwV 3 hts gL_law_X11_road rfl rfl rfl (by decide +kernel) ⟨(Nat.le_of_ble_eq_true rfl), (Nat.le_of_ble_eq_true rfl)⟩) hK hP hD hS hA (va_recv hK hP (ci := 10) (q0 := 0) rfl rfl) rfl hl.1 rfl (Nat.le_of_ble_eq_true rfl) dL_law_350 ⟨rm2 (Nat.le_of_ble_eq_true rfl) hcc, rs2 (Nat.le_of_ble_eq_true rfl) hss⟩ (fun r2 _ H locs hr2 hP hD hS => ?_)
  have hP := lwFr (show va_P D vwCl (MW ct o ((F_ch (F_addR y (F_beg v) x1 x2 x3)).2) (CLd ct (xE g) K ((f_addR y rs x1 x2 x3).2.1) ((f_addR y rs x1 x2 x3).2.2) bz iv lz sy xv ((F_set (hB hz y) (f_addR y rs x1 x2 x3).1).2))) H from hP)
  have hD := lwFrD (show va_D (AD s) (MW ct o ((F_ch (F_addR y (F_beg v) x1 x2 x3)).2) (CLd ct (xE g) K ((f_addR y rs x1 x2 x3).2.1) ((f_addR y rs x1 x2 x3).2.2) bz iv lz sy xv ((F_set (hB hz y) (f_addR y rs x1 x2 x3).1).2))) from hD)
  refine W.widen (k := cc + 64) (n := ss + 4000) (rm3 (Nat.le_of_ble_eq_true rfl)) (rs3 (Nat.le_of_ble_eq_true rfl)) ?_
  exact lv_icmp_eq (tgt := 1418) hx hb dL_law_353 (by decide) (fun _ => go ((f_addR y rs x1 x2 x3).2.1) ((f_addR y rs x1 x2 x3).2.2) bz iv lz sy xv tx ((F_set (hB hz y) (f_addR y rs x1 x2 x3).1).2) ((F_ch (F_addR y (F_beg v) x1 x2 x3)).2) _ _ ls q.2 hR hP hD hS hl) (fun hne => absurd (hr1.trans (q.1.trans hr2.symm)) hne)
set_option maxHeartbeats 4000000 in
set_option maxRecDepth 100000 in
theorem law_c6 {D : va_G} {ct : Nat → ClassId} {g : XG} {p : Program} {l : Launch} {e : Env} {s : State} {m : MethodId} {b L : Nat} {xs : Nat → Int32} {below : List Frame} {meth : Method} {c : Code} {K : CK} {o : Nat → Nat} {i cc ss : Nat} {Q : State → Prop} (C : lwX D ct g p s m b L xs c) (hi : i + 3 < L) (hL : L ≤ 2048) (hcc : cc + 64 ≤ room_1.cells) (hss : ss + 4000 ≤ room_1.slots) (go : lwAt D ct g p l e s m b below meth c K o i (cc + 64) (ss + 4000) Q 1418) : lwAt D ct g p l e s m b below meth c K o i cc ss Q 358 := by
  obtain ⟨hx, hb, hml, hown, hts, hXs, hbl, hK, hX⟩ := C
  intro y rs bz iv lz sy xv tx hz v H locs ls hQ hR hP hD hS hl
  have hA : ∀ q, s.heap.size ≤ q → AD s q := fun _ h => h
  have hbA : ¬ AD s b := Nat.not_le.mpr hbl
  have hJ := hQ.1
  have hy : yI y := hJ.2.2.1
  have hf : yF y := hJ.2.2.2.2.2.2
  have hN : RelN iv v := hQ.2.2.2.2.1
  have hB3 : y_n y ≤ 12 ∧ y_cn y ≤ 4 ∧ y_rn y ≤ 5 := ⟨hy.1, hy.2.1, hy.2.2.1⟩
  have hc8 : hz.2.1 ≤ 8 := by rw [hQ.2.1.2.1]; exact hQ.2.1.2.2.1
  obtain ⟨x1, hx1⟩ : ∃ x, x = xs (nI (i + 1)).toNatClampNeg := ⟨_, rfl⟩
  obtain ⟨x2, hx2⟩ : ∃ x, x = xs (nI (i + 2)).toNatClampNeg := ⟨_, rfl⟩
  obtain ⟨x3, hx3⟩ : ∃ x, x = xs (nI (i + 3)).toNatClampNeg := ⟨_, rfl⟩
  have q := RL_chg (a := f_put y rs x1 x2 x3) (b := F_put y (F_beg v) x1 x2 x3) hQ (st_put (RQ_beg hJ hQ.2.1 hQ.2.2.1).2)
  refine lv_aload_n hx hb dL_law_358 rfl (lv_at hl 2 rfl) ?_
  refine zScr (k := 1) hx hb hXs hbl hbA hS hl (by omega) hL (by decide) hx1 dL_law_359 dL_law_360 dL_law_361 dL_law_362 dL_law_363 ?_
  refine zScr (k := 2) hx hb hXs hbl hbA hS hl (by omega) hL (by decide) hx2 dL_law_364 dL_law_365 dL_law_366 dL_law_367 dL_law_368 ?_
  refine zScr (k := 3) hx hb hXs hbl hbA hS hl (by omega) hL (by decide) hx3 dL_law_369 dL_law_370 dL_law_371 dL_law_372 dL_law_373 ?_
  have hP : va_P D vwCl (CWd ct (xE g) K y rs bz iv lz sy xv hz (MW ct o v [])) H := hP
  refine zVIX [.int x1, .int x2, .int x3] [] (kX10_load (kA K) y (kB K) rs (kD K) bz (kI K) iv (kL K) lz (kS K) sy (kX K) xv (kH K) (kHa K) hz (MW ct o v []) x1 x2 x3 hy hf hQ.2.1.1 hc8) hx hb hml hown hts (cwV 3 hts gL_law_X10_load rfl rfl rfl (by decide +kernel) ⟨(Nat.le_of_ble_eq_true rfl), (Nat.le_of_ble_eq_true rfl)⟩) hK hP hD hS hA hX (va_recv hK hP (ci := 9) (q0 := 38) rfl rfl) rfl hl.1 rfl (Nat.le_of_ble_eq_true rfl) dL_law_374 ⟨rm1 (Nat.le_of_ble_eq_true rfl) hcc, rs1 (Nat.le_of_ble_eq_true rfl) hss⟩ (fun r1 _ H locs hr1 hP hD hS => ?_)
  have hP : va_P D vwCl (CWd ct (xE g) K ((f_put y rs x1 x2 x3).2.1) ((f_put y rs x1 x2 x3).2.2) bz iv lz sy xv ((F_set (hB hz y) (f_put y rs x1 x2 x3).1).2) (MW ct o v [])) H := hP
  have hD : va_D (AD s) (CWd ct (xE g) K ((f_put y rs x1 x2 x3).2.1) ((f_put y rs x1 x2 x3).2.2) bz iv lz sy xv ((F_set (hB hz y) (f_put y rs x1 x2 x3).1).2) (MW ct o v [])) := hD
  refine W.widen (k := cc + 40) (n := ss + 3000) (rm4 (Nat.le_of_ble_eq_true rfl)) (rs4 (Nat.le_of_ble_eq_true rfl)) ?_
  refine lv_aload_n hx hb dL_law_377 rfl (lv_at hl 1 rfl) ?_
  refine zScr (k := 1) hx hb hXs hbl hbA hS hl (by omega) hL (by decide) hx1 dL_law_378 dL_law_379 dL_law_380 dL_law_381 dL_law_382 ?_
  refine zScr (k := 2) hx hb hXs hbl hbA hS hl (by omega) hL (by decide) hx2 dL_law_383 dL_law_384 dL_law_385 dL_law_386 dL_law_387 ?_
  refine zScr (k := 3) hx hb hXs hbl hbA hS hl (by omega) hL (by decide) hx3 dL_law_388 dL_law_389 dL_law_390 dL_law_391 dL_law_392 ?_
  have hP := lwTo hP
  have hD := lwToD hD
  refine zVI [.int x1, .int x2, .int x3] [.int r1] (kX11_load o v (CLd ct (xE g) K ((f_put y rs x1 x2 x3).2.1) ((f_put y rs x1 x2 x3).2.2) bz iv lz sy xv ((F_set (hB hz y) (f_put y rs x1 x2 x3).1).2)) x1 x2 x3 y hB3 hJ.1 hQ.2.1.2.2.1) hx hb hml hown hts (cwV 3 hts gL_law_X11_load rfl rfl rfl (by decide +kernel) ⟨(Nat.le_of_ble_eq_true rfl), (Nat.le_of_ble_eq_true rfl)⟩) hK hP hD hS hA (va_recv hK hP (ci := 10) (q0 := 0) rfl rfl) rfl hl.1 rfl (Nat.le_of_ble_eq_true rfl) dL_law_393 ⟨rm2 (Nat.le_of_ble_eq_true rfl) hcc, rs2 (Nat.le_of_ble_eq_true rfl) hss⟩ (fun r2 _ H locs hr2 hP hD hS => ?_)
  have hP := lwFr (show va_P D vwCl (MW ct o ((F_ch (F_put y (F_beg v) x1 x2 x3)).2) (CLd ct (xE g) K ((f_put y rs x1 x2 x3).2.1) ((f_put y rs x1 x2 x3).2.2) bz iv lz sy xv ((F_set (hB hz y) (f_put y rs x1 x2 x3).1).2))) H from hP)
  have hD := lwFrD (show va_D (AD s) (MW ct o ((F_ch (F_put y (F_beg v) x1 x2 x3)).2) (CLd ct (xE g) K ((f_put y rs x1 x2 x3).2.1) ((f_put y rs x1 x2 x3).2.2) bz iv lz sy xv ((F_set (hB hz y) (f_put y rs x1 x2 x3).1).2))) from hD)
  refine W.widen (k := cc + 64) (n := ss + 4000) (rm3 (Nat.le_of_ble_eq_true rfl)) (rs3 (Nat.le_of_ble_eq_true rfl)) ?_
  exact lv_icmp_eq (tgt := 1418) hx hb dL_law_396 (by decide) (fun _ => go ((f_put y rs x1 x2 x3).2.1) ((f_put y rs x1 x2 x3).2.2) bz iv lz sy xv tx ((F_set (hB hz y) (f_put y rs x1 x2 x3).1).2) ((F_ch (F_put y (F_beg v) x1 x2 x3)).2) _ _ ls q.2 hR hP hD hS hl) (fun hne => absurd (hr1.trans (q.1.trans hr2.symm)) hne)
set_option maxHeartbeats 4000000 in
set_option maxRecDepth 100000 in
theorem law_c7 {D : va_G} {ct : Nat → ClassId} {g : XG} {p : Program} {l : Launch} {e : Env} {s : State} {m : MethodId} {b L : Nat} {xs : Nat → Int32} {below : List Frame} {meth : Method} {c : Code} {K : CK} {o : Nat → Nat} {i cc ss : Nat} {Q : State → Prop} (C : lwX D ct g p s m b L xs c) (hi : i + 3 < L) (hL : L ≤ 2048) (hcc : cc + 64 ≤ room_1.cells) (hss : ss + 4000 ≤ room_1.slots) (go : lwAt D ct g p l e s m b below meth c K o i (cc + 64) (ss + 4000) Q 1418) : lwAt D ct g p l e s m b below meth c K o i cc ss Q 401 := by
  obtain ⟨hx, hb, hml, hown, hts, hXs, hbl, hK, hX⟩ := C
  intro y rs bz iv lz sy xv tx hz v H locs ls hQ hR hP hD hS hl
  have hA : ∀ q, s.heap.size ≤ q → AD s q := fun _ h => h
  have hbA : ¬ AD s b := Nat.not_le.mpr hbl
  have hJ := hQ.1
  have hy : yI y := hJ.2.2.1
  have hf : yF y := hJ.2.2.2.2.2.2
  have hN : RelN iv v := hQ.2.2.2.2.1
  have hB3 : y_n y ≤ 12 ∧ y_cn y ≤ 4 ∧ y_rn y ≤ 5 := ⟨hy.1, hy.2.1, hy.2.2.1⟩
  have hc8 : hz.2.1 ≤ 8 := by rw [hQ.2.1.2.1]; exact hQ.2.1.2.2.1
  obtain ⟨x1, hx1⟩ : ∃ x, x = xs (nI (i + 1)).toNatClampNeg := ⟨_, rfl⟩
  have q := RL_chg (a := f_off y rs x1) (b := F_off y (F_beg v) x1) hQ (st_off (RQ_beg hJ hQ.2.1 hQ.2.2.1).2)
  refine lv_aload_n hx hb dL_law_401 rfl (lv_at hl 2 rfl) ?_
  refine zScr (k := 1) hx hb hXs hbl hbA hS hl (by omega) hL (by decide) hx1 dL_law_402 dL_law_403 dL_law_404 dL_law_405 dL_law_406 ?_
  have hP : va_P D vwCl (CWd ct (xE g) K y rs bz iv lz sy xv hz (MW ct o v [])) H := hP
  refine zVIX [.int x1] [] (kX10_unload (kA K) y (kB K) rs (kD K) bz (kI K) iv (kL K) lz (kS K) sy (kX K) xv (kH K) (kHa K) hz (MW ct o v []) x1 hy hf hQ.2.1.1 hc8) hx hb hml hown hts (cwV 1 hts gL_law_X10_unload rfl rfl rfl (by decide +kernel) ⟨(Nat.le_of_ble_eq_true rfl), (Nat.le_of_ble_eq_true rfl)⟩) hK hP hD hS hA hX (va_recv hK hP (ci := 9) (q0 := 38) rfl rfl) rfl hl.1 rfl (Nat.le_of_ble_eq_true rfl) dL_law_407 ⟨rm1 (Nat.le_of_ble_eq_true rfl) hcc, rs1 (Nat.le_of_ble_eq_true rfl) hss⟩ (fun r1 _ H locs hr1 hP hD hS => ?_)
  have hP : va_P D vwCl (CWd ct (xE g) K ((f_off y rs x1).2.1) ((f_off y rs x1).2.2) bz iv lz sy xv ((F_set (hB hz y) (f_off y rs x1).1).2) (MW ct o v [])) H := hP
  have hD : va_D (AD s) (CWd ct (xE g) K ((f_off y rs x1).2.1) ((f_off y rs x1).2.2) bz iv lz sy xv ((F_set (hB hz y) (f_off y rs x1).1).2) (MW ct o v [])) := hD
  refine W.widen (k := cc + 40) (n := ss + 3000) (rm4 (Nat.le_of_ble_eq_true rfl)) (rs4 (Nat.le_of_ble_eq_true rfl)) ?_
  refine lv_aload_n hx hb dL_law_410 rfl (lv_at hl 1 rfl) ?_
  refine zScr (k := 1) hx hb hXs hbl hbA hS hl (by omega) hL (by decide) hx1 dL_law_411 dL_law_412 dL_law_413 dL_law_414 dL_law_415 ?_
  have hP := lwTo hP
  have hD := lwToD hD
  refine zVI [.int x1] [.int r1] (kX11_unload o v (CLd ct (xE g) K ((f_off y rs x1).2.1) ((f_off y rs x1).2.2) bz iv lz sy xv ((F_set (hB hz y) (f_off y rs x1).1).2)) x1 y hB3 hJ.1 hQ.2.1.2.2.1) hx hb hml hown hts (cwV 1 hts gL_law_X11_unload rfl rfl rfl (by decide +kernel) ⟨(Nat.le_of_ble_eq_true rfl), (Nat.le_of_ble_eq_true rfl)⟩) hK hP hD hS hA (va_recv hK hP (ci := 10) (q0 := 0) rfl rfl) rfl hl.1 rfl (Nat.le_of_ble_eq_true rfl) dL_law_416 ⟨rm2 (Nat.le_of_ble_eq_true rfl) hcc, rs2 (Nat.le_of_ble_eq_true rfl) hss⟩ (fun r2 _ H locs hr2 hP hD hS => ?_)
  have hP := lwFr (show va_P D vwCl (MW ct o ((F_ch (F_off y (F_beg v) x1)).2) (CLd ct (xE g) K ((f_off y rs x1).2.1) ((f_off y rs x1).2.2) bz iv lz sy xv ((F_set (hB hz y) (f_off y rs x1).1).2))) H from hP)
  have hD := lwFrD (show va_D (AD s) (MW ct o ((F_ch (F_off y (F_beg v) x1)).2) (CLd ct (xE g) K ((f_off y rs x1).2.1) ((f_off y rs x1).2.2) bz iv lz sy xv ((F_set (hB hz y) (f_off y rs x1).1).2))) from hD)
  refine W.widen (k := cc + 64) (n := ss + 4000) (rm3 (Nat.le_of_ble_eq_true rfl)) (rs3 (Nat.le_of_ble_eq_true rfl)) ?_
  exact lv_icmp_eq (tgt := 1418) hx hb dL_law_419 (by decide) (fun _ => go ((f_off y rs x1).2.1) ((f_off y rs x1).2.2) bz iv lz sy xv tx ((F_set (hB hz y) (f_off y rs x1).1).2) ((F_ch (F_off y (F_beg v) x1)).2) _ _ ls q.2 hR hP hD hS hl) (fun hne => absurd (hr1.trans (q.1.trans hr2.symm)) hne)
set_option maxHeartbeats 4000000 in
set_option maxRecDepth 100000 in
theorem law_c8 {D : va_G} {ct : Nat → ClassId} {g : XG} {p : Program} {l : Launch} {e : Env} {s : State} {m : MethodId} {b L : Nat} {xs : Nat → Int32} {below : List Frame} {meth : Method} {c : Code} {K : CK} {o : Nat → Nat} {i cc ss : Nat} {Q : State → Prop} (C : lwX D ct g p s m b L xs c) (hi : i + 3 < L) (hL : L ≤ 2048) (hcc : cc + 64 ≤ room_1.cells) (hss : ss + 4000 ≤ room_1.slots) (go : lwAt D ct g p l e s m b below meth c K o i (cc + 64) (ss + 4000) Q 1418) : lwAt D ct g p l e s m b below meth c K o i cc ss Q 424 := by
  obtain ⟨hx, hb, hml, hown, hts, hXs, hbl, hK, hX⟩ := C
  intro y rs bz iv lz sy xv tx hz v H locs ls hQ hR hP hD hS hl
  have hA : ∀ q, s.heap.size ≤ q → AD s q := fun _ h => h
  have hbA : ¬ AD s b := Nat.not_le.mpr hbl
  have hJ := hQ.1
  have hy : yI y := hJ.2.2.1
  have hf : yF y := hJ.2.2.2.2.2.2
  have hN : RelN iv v := hQ.2.2.2.2.1
  have hB3 : y_n y ≤ 12 ∧ y_cn y ≤ 4 ∧ y_rn y ≤ 5 := ⟨hy.1, hy.2.1, hy.2.2.1⟩
  have hc8 : hz.2.1 ≤ 8 := by rw [hQ.2.1.2.1]; exact hQ.2.1.2.2.1
  obtain ⟨x1, hx1⟩ : ∃ x, x = xs (nI (i + 1)).toNatClampNeg := ⟨_, rfl⟩
  obtain ⟨x2, hx2⟩ : ∃ x, x = xs (nI (i + 2)).toNatClampNeg := ⟨_, rfl⟩
  obtain ⟨x3, hx3⟩ : ∃ x, x = xs (nI (i + 3)).toNatClampNeg := ⟨_, rfl⟩
  have q := RL_chg (a := f_swap y rs x1 x2 x3) (b := F_swap y (F_beg v) x1 x2 x3) hQ (st_swap (RQ_beg hJ hQ.2.1 hQ.2.2.1).2)
  refine lv_aload_n hx hb dL_law_424 rfl (lv_at hl 2 rfl) ?_
  refine zScr (k := 1) hx hb hXs hbl hbA hS hl (by omega) hL (by decide) hx1 dL_law_425 dL_law_426 dL_law_427 dL_law_428 dL_law_429 ?_
  refine zScr (k := 2) hx hb hXs hbl hbA hS hl (by omega) hL (by decide) hx2 dL_law_430 dL_law_431 dL_law_432 dL_law_433 dL_law_434 ?_
  refine zScr (k := 3) hx hb hXs hbl hbA hS hl (by omega) hL (by decide) hx3 dL_law_435 dL_law_436 dL_law_437 dL_law_438 dL_law_439 ?_
  have hP : va_P D vwCl (CWd ct (xE g) K y rs bz iv lz sy xv hz (MW ct o v [])) H := hP
  refine zVIX [.int x1, .int x2, .int x3] [] (kX10_swap (kA K) y (kB K) rs (kD K) bz (kI K) iv (kL K) lz (kS K) sy (kX K) xv (kH K) (kHa K) hz (MW ct o v []) x1 x2 x3 hy hf hQ.2.1.1 hc8) hx hb hml hown hts (cwV 3 hts gL_law_X10_swap rfl rfl rfl (by decide +kernel) ⟨(Nat.le_of_ble_eq_true rfl), (Nat.le_of_ble_eq_true rfl)⟩) hK hP hD hS hA hX (va_recv hK hP (ci := 9) (q0 := 38) rfl rfl) rfl hl.1 rfl (Nat.le_of_ble_eq_true rfl) dL_law_440 ⟨rm1 (Nat.le_of_ble_eq_true rfl) hcc, rs1 (Nat.le_of_ble_eq_true rfl) hss⟩ (fun r1 _ H locs hr1 hP hD hS => ?_)
  have hP : va_P D vwCl (CWd ct (xE g) K ((f_swap y rs x1 x2 x3).2.1) ((f_swap y rs x1 x2 x3).2.2) bz iv lz sy xv ((F_set (hB hz y) (f_swap y rs x1 x2 x3).1).2) (MW ct o v [])) H := hP
  have hD : va_D (AD s) (CWd ct (xE g) K ((f_swap y rs x1 x2 x3).2.1) ((f_swap y rs x1 x2 x3).2.2) bz iv lz sy xv ((F_set (hB hz y) (f_swap y rs x1 x2 x3).1).2) (MW ct o v [])) := hD
  refine W.widen (k := cc + 40) (n := ss + 3000) (rm4 (Nat.le_of_ble_eq_true rfl)) (rs4 (Nat.le_of_ble_eq_true rfl)) ?_
  refine lv_aload_n hx hb dL_law_443 rfl (lv_at hl 1 rfl) ?_
  refine zScr (k := 1) hx hb hXs hbl hbA hS hl (by omega) hL (by decide) hx1 dL_law_444 dL_law_445 dL_law_446 dL_law_447 dL_law_448 ?_
  refine zScr (k := 2) hx hb hXs hbl hbA hS hl (by omega) hL (by decide) hx2 dL_law_449 dL_law_450 dL_law_451 dL_law_452 dL_law_453 ?_
  refine zScr (k := 3) hx hb hXs hbl hbA hS hl (by omega) hL (by decide) hx3 dL_law_454 dL_law_455 dL_law_456 dL_law_457 dL_law_458 ?_
  have hP := lwTo hP
  have hD := lwToD hD
  refine zVI [.int x1, .int x2, .int x3] [.int r1] (kX11_swap o v (CLd ct (xE g) K ((f_swap y rs x1 x2 x3).2.1) ((f_swap y rs x1 x2 x3).2.2) bz iv lz sy xv ((F_set (hB hz y) (f_swap y rs x1 x2 x3).1).2)) x1 x2 x3 y hB3 hJ.1 hQ.2.1.2.2.1) hx hb hml hown hts (cwV 3 hts gL_law_X11_swap rfl rfl rfl (by decide +kernel) ⟨(Nat.le_of_ble_eq_true rfl), (Nat.le_of_ble_eq_true rfl)⟩) hK hP hD hS hA (va_recv hK hP (ci := 10) (q0 := 0) rfl rfl) rfl hl.1 rfl (Nat.le_of_ble_eq_true rfl) dL_law_459 ⟨rm2 (Nat.le_of_ble_eq_true rfl) hcc, rs2 (Nat.le_of_ble_eq_true rfl) hss⟩ (fun r2 _ H locs hr2 hP hD hS => ?_)
  have hP := lwFr (show va_P D vwCl (MW ct o ((F_ch (F_swap y (F_beg v) x1 x2 x3)).2) (CLd ct (xE g) K ((f_swap y rs x1 x2 x3).2.1) ((f_swap y rs x1 x2 x3).2.2) bz iv lz sy xv ((F_set (hB hz y) (f_swap y rs x1 x2 x3).1).2))) H from hP)
  have hD := lwFrD (show va_D (AD s) (MW ct o ((F_ch (F_swap y (F_beg v) x1 x2 x3)).2) (CLd ct (xE g) K ((f_swap y rs x1 x2 x3).2.1) ((f_swap y rs x1 x2 x3).2.2) bz iv lz sy xv ((F_set (hB hz y) (f_swap y rs x1 x2 x3).1).2))) from hD)
  refine W.widen (k := cc + 64) (n := ss + 4000) (rm3 (Nat.le_of_ble_eq_true rfl)) (rs3 (Nat.le_of_ble_eq_true rfl)) ?_
  exact lv_icmp_eq (tgt := 1418) hx hb dL_law_462 (by decide) (fun _ => go ((f_swap y rs x1 x2 x3).2.1) ((f_swap y rs x1 x2 x3).2.2) bz iv lz sy xv tx ((F_set (hB hz y) (f_swap y rs x1 x2 x3).1).2) ((F_ch (F_swap y (F_beg v) x1 x2 x3)).2) _ _ ls q.2 hR hP hD hS hl) (fun hne => absurd (hr1.trans (q.1.trans hr2.symm)) hne)
set_option maxHeartbeats 4000000 in
set_option maxRecDepth 100000 in
theorem law_c9 {D : va_G} {ct : Nat → ClassId} {g : XG} {p : Program} {l : Launch} {e : Env} {s : State} {m : MethodId} {b L : Nat} {xs : Nat → Int32} {below : List Frame} {meth : Method} {c : Code} {K : CK} {o : Nat → Nat} {i cc ss : Nat} {Q : State → Prop} (C : lwX D ct g p s m b L xs c) (hi : i + 3 < L) (hL : L ≤ 2048) (hcc : cc + 64 ≤ room_1.cells) (hss : ss + 4000 ≤ room_1.slots) (go : lwAt D ct g p l e s m b below meth c K o i (cc + 64) (ss + 4000) Q 1418) : lwAt D ct g p l e s m b below meth c K o i cc ss Q 467 := by
  obtain ⟨hx, hb, hml, hown, hts, hXs, hbl, hK, hX⟩ := C
  intro y rs bz iv lz sy xv tx hz v H locs ls hQ hR hP hD hS hl
  have hA : ∀ q, s.heap.size ≤ q → AD s q := fun _ h => h
  have hbA : ¬ AD s b := Nat.not_le.mpr hbl
  have hJ := hQ.1
  have hy : yI y := hJ.2.2.1
  have hf : yF y := hJ.2.2.2.2.2.2
  have hN : RelN iv v := hQ.2.2.2.2.1
  have hc8 : hz.2.1 ≤ 8 := by rw [hQ.2.1.2.1]; exact hQ.2.1.2.2.1
  obtain ⟨x1, hx1⟩ : ∃ x, x = xs (nI (i + 1)).toNatClampNeg := ⟨_, rfl⟩
  obtain ⟨x2, hx2⟩ : ∃ x, x = xs (nI (i + 2)).toNatClampNeg := ⟨_, rfl⟩
  have q := RL_chg (a := f_go y rs x1 x2) (b := F_goes y (F_beg v) x1 x2) hQ (st_go (RQ_beg hJ hQ.2.1 hQ.2.2.1).2)
  refine lv_aload_n hx hb dL_law_467 rfl (lv_at hl 2 rfl) ?_
  refine zScr (k := 1) hx hb hXs hbl hbA hS hl (by omega) hL (by decide) hx1 dL_law_468 dL_law_469 dL_law_470 dL_law_471 dL_law_472 ?_
  refine zScr (k := 2) hx hb hXs hbl hbA hS hl (by omega) hL (by decide) hx2 dL_law_473 dL_law_474 dL_law_475 dL_law_476 dL_law_477 ?_
  have hP : va_P D vwCl (CWd ct (xE g) K y rs bz iv lz sy xv hz (MW ct o v [])) H := hP
  refine zVIX [.int x1, .int x2] [] (kX10_trip (kA K) y (kB K) rs (kD K) bz (kI K) iv (kL K) lz (kS K) sy (kX K) xv (kH K) (kHa K) hz (MW ct o v []) x1 x2 hy hf hQ.2.1.1 hc8) hx hb hml hown hts (cwV 2 hts gL_law_X10_trip rfl rfl rfl (by decide +kernel) ⟨(Nat.le_of_ble_eq_true rfl), (Nat.le_of_ble_eq_true rfl)⟩) hK hP hD hS hA hX (va_recv hK hP (ci := 9) (q0 := 38) rfl rfl) rfl hl.1 rfl (Nat.le_of_ble_eq_true rfl) dL_law_478 ⟨rm1 (Nat.le_of_ble_eq_true rfl) hcc, rs1 (Nat.le_of_ble_eq_true rfl) hss⟩ (fun r1 _ H locs hr1 hP hD hS => ?_)
  have hP : va_P D vwCl (CWd ct (xE g) K ((f_go y rs x1 x2).2.1) ((f_go y rs x1 x2).2.2) bz iv lz sy xv ((F_set (hB hz y) (f_go y rs x1 x2).1).2) (MW ct o v [])) H := hP
  have hD : va_D (AD s) (CWd ct (xE g) K ((f_go y rs x1 x2).2.1) ((f_go y rs x1 x2).2.2) bz iv lz sy xv ((F_set (hB hz y) (f_go y rs x1 x2).1).2) (MW ct o v [])) := hD
  refine W.widen (k := cc + 40) (n := ss + 3000) (rm4 (Nat.le_of_ble_eq_true rfl)) (rs4 (Nat.le_of_ble_eq_true rfl)) ?_
  refine lv_aload_n hx hb dL_law_481 rfl (lv_at hl 1 rfl) ?_
  refine zScr (k := 1) hx hb hXs hbl hbA hS hl (by omega) hL (by decide) hx1 dL_law_482 dL_law_483 dL_law_484 dL_law_485 dL_law_486 ?_
  refine zScr (k := 2) hx hb hXs hbl hbA hS hl (by omega) hL (by decide) hx2 dL_law_487 dL_law_488 dL_law_489 dL_law_490 dL_law_491 ?_
  have hP := lwTo hP
  have hD := lwToD hD
  refine zVI [.int x1, .int x2] [.int r1] (kX11_trip o v (CLd ct (xE g) K ((f_go y rs x1 x2).2.1) ((f_go y rs x1 x2).2.2) bz iv lz sy xv ((F_set (hB hz y) (f_go y rs x1 x2).1).2)) x1 x2 y hy hJ.1 hQ.2.1.2.2.1 hJ.nf) hx hb hml hown hts (cwV 2 hts gL_law_X11_trip rfl rfl rfl (by decide +kernel) ⟨(Nat.le_of_ble_eq_true rfl), (Nat.le_of_ble_eq_true rfl)⟩) hK hP hD hS hA (va_recv hK hP (ci := 10) (q0 := 0) rfl rfl) rfl hl.1 rfl (Nat.le_of_ble_eq_true rfl) dL_law_492 ⟨rm2 (Nat.le_of_ble_eq_true rfl) hcc, rs2 (Nat.le_of_ble_eq_true rfl) hss⟩ (fun r2 _ H locs hr2 hP hD hS => ?_)
  have hP := lwFr (show va_P D vwCl (MW ct o ((F_ch (F_goes y (F_beg v) x1 x2)).2) (CLd ct (xE g) K ((f_go y rs x1 x2).2.1) ((f_go y rs x1 x2).2.2) bz iv lz sy xv ((F_set (hB hz y) (f_go y rs x1 x2).1).2))) H from hP)
  have hD := lwFrD (show va_D (AD s) (MW ct o ((F_ch (F_goes y (F_beg v) x1 x2)).2) (CLd ct (xE g) K ((f_go y rs x1 x2).2.1) ((f_go y rs x1 x2).2.2) bz iv lz sy xv ((F_set (hB hz y) (f_go y rs x1 x2).1).2))) from hD)
  refine W.widen (k := cc + 64) (n := ss + 4000) (rm3 (Nat.le_of_ble_eq_true rfl)) (rs3 (Nat.le_of_ble_eq_true rfl)) ?_
  exact lv_icmp_eq (tgt := 1418) hx hb dL_law_495 (by decide) (fun _ => go ((f_go y rs x1 x2).2.1) ((f_go y rs x1 x2).2.2) bz iv lz sy xv tx ((F_set (hB hz y) (f_go y rs x1 x2).1).2) ((F_ch (F_goes y (F_beg v) x1 x2)).2) _ _ ls q.2 hR hP hD hS hl) (fun hne => absurd (hr1.trans (q.1.trans hr2.symm)) hne)
set_option maxHeartbeats 4000000 in
set_option maxRecDepth 100000 in
theorem law_c10 {D : va_G} {ct : Nat → ClassId} {g : XG} {p : Program} {l : Launch} {e : Env} {s : State} {m : MethodId} {b L : Nat} {xs : Nat → Int32} {below : List Frame} {meth : Method} {c : Code} {K : CK} {o : Nat → Nat} {i cc ss : Nat} {Q : State → Prop} (C : lwX D ct g p s m b L xs c) (hi : i + 3 < L) (hL : L ≤ 2048) (hcc : cc + 64 ≤ room_1.cells) (hss : ss + 4000 ≤ room_1.slots) (go : lwAt D ct g p l e s m b below meth c K o i (cc + 64) (ss + 4000) Q 1418) : lwAt D ct g p l e s m b below meth c K o i cc ss Q 500 := by
  obtain ⟨hx, hb, hml, hown, hts, hXs, hbl, hK, hX⟩ := C
  intro y rs bz iv lz sy xv tx hz v H locs ls hQ hR hP hD hS hl
  have hA : ∀ q, s.heap.size ≤ q → AD s q := fun _ h => h
  have hbA : ¬ AD s b := Nat.not_le.mpr hbl
  have hJ := hQ.1
  have hy : yI y := hJ.2.2.1
  have hf : yF y := hJ.2.2.2.2.2.2
  have hN : RelN iv v := hQ.2.2.2.2.1
  have hB3 : y_n y ≤ 12 ∧ y_cn y ≤ 4 ∧ y_rn y ≤ 5 := ⟨hy.1, hy.2.1, hy.2.2.1⟩
  have hc8 : hz.2.1 ≤ 8 := by rw [hQ.2.1.2.1]; exact hQ.2.1.2.2.1
  obtain ⟨x1, hx1⟩ : ∃ x, x = xs (nI (i + 1)).toNatClampNeg := ⟨_, rfl⟩
  have q := RL_chg (a := f_grease y rs x1) (b := F_grs y (F_beg v) x1) hQ (st_grease (RQ_beg hJ hQ.2.1 hQ.2.2.1).2)
  refine lv_aload_n hx hb dL_law_500 rfl (lv_at hl 2 rfl) ?_
  refine zScr (k := 1) hx hb hXs hbl hbA hS hl (by omega) hL (by decide) hx1 dL_law_501 dL_law_502 dL_law_503 dL_law_504 dL_law_505 ?_
  have hP : va_P D vwCl (CWd ct (xE g) K y rs bz iv lz sy xv hz (MW ct o v [])) H := hP
  refine zVIX [.int x1] [] (kX10_grease (kA K) y (kB K) rs (kD K) bz (kI K) iv (kL K) lz (kS K) sy (kX K) xv (kH K) (kHa K) hz (MW ct o v []) x1 hy hf hQ.2.1.1 hc8) hx hb hml hown hts (cwV 1 hts gL_law_X10_grease rfl rfl rfl (by decide +kernel) ⟨(Nat.le_of_ble_eq_true rfl), (Nat.le_of_ble_eq_true rfl)⟩) hK hP hD hS hA hX (va_recv hK hP (ci := 9) (q0 := 38) rfl rfl) rfl hl.1 rfl (Nat.le_of_ble_eq_true rfl) dL_law_506 ⟨rm1 (Nat.le_of_ble_eq_true rfl) hcc, rs1 (Nat.le_of_ble_eq_true rfl) hss⟩ (fun r1 _ H locs hr1 hP hD hS => ?_)
  have hP : va_P D vwCl (CWd ct (xE g) K ((f_grease y rs x1).2.1) ((f_grease y rs x1).2.2) bz iv lz sy xv ((F_set (hB hz y) (f_grease y rs x1).1).2) (MW ct o v [])) H := hP
  have hD : va_D (AD s) (CWd ct (xE g) K ((f_grease y rs x1).2.1) ((f_grease y rs x1).2.2) bz iv lz sy xv ((F_set (hB hz y) (f_grease y rs x1).1).2) (MW ct o v [])) := hD
  refine W.widen (k := cc + 40) (n := ss + 3000) (rm4 (Nat.le_of_ble_eq_true rfl)) (rs4 (Nat.le_of_ble_eq_true rfl)) ?_
  refine lv_aload_n hx hb dL_law_509 rfl (lv_at hl 1 rfl) ?_
  refine zScr (k := 1) hx hb hXs hbl hbA hS hl (by omega) hL (by decide) hx1 dL_law_510 dL_law_511 dL_law_512 dL_law_513 dL_law_514 ?_
  have hP := lwTo hP
  have hD := lwToD hD
  refine zVI [.int x1] [.int r1] (kX11_grease o v (CLd ct (xE g) K ((f_grease y rs x1).2.1) ((f_grease y rs x1).2.2) bz iv lz sy xv ((F_set (hB hz y) (f_grease y rs x1).1).2)) x1 y hB3 hJ.1 hQ.2.1.2.2.1) hx hb hml hown hts (cwV 1 hts gL_law_X11_grease rfl rfl rfl (by decide +kernel) ⟨(Nat.le_of_ble_eq_true rfl), (Nat.le_of_ble_eq_true rfl)⟩) hK hP hD hS hA (va_recv hK hP (ci := 10) (q0 := 0) rfl rfl) rfl hl.1 rfl (Nat.le_of_ble_eq_true rfl) dL_law_515 ⟨rm2 (Nat.le_of_ble_eq_true rfl) hcc, rs2 (Nat.le_of_ble_eq_true rfl) hss⟩ (fun r2 _ H locs hr2 hP hD hS => ?_)
  have hP := lwFr (show va_P D vwCl (MW ct o ((F_ch (F_grs y (F_beg v) x1)).2) (CLd ct (xE g) K ((f_grease y rs x1).2.1) ((f_grease y rs x1).2.2) bz iv lz sy xv ((F_set (hB hz y) (f_grease y rs x1).1).2))) H from hP)
  have hD := lwFrD (show va_D (AD s) (MW ct o ((F_ch (F_grs y (F_beg v) x1)).2) (CLd ct (xE g) K ((f_grease y rs x1).2.1) ((f_grease y rs x1).2.2) bz iv lz sy xv ((F_set (hB hz y) (f_grease y rs x1).1).2))) from hD)
  refine W.widen (k := cc + 64) (n := ss + 4000) (rm3 (Nat.le_of_ble_eq_true rfl)) (rs3 (Nat.le_of_ble_eq_true rfl)) ?_
  exact lv_icmp_eq (tgt := 1418) hx hb dL_law_518 (by decide) (fun _ => go ((f_grease y rs x1).2.1) ((f_grease y rs x1).2.2) bz iv lz sy xv tx ((F_set (hB hz y) (f_grease y rs x1).1).2) ((F_ch (F_grs y (F_beg v) x1)).2) _ _ ls q.2 hR hP hD hS hl) (fun hne => absurd (hr1.trans (q.1.trans hr2.symm)) hne)
set_option maxHeartbeats 4000000 in
set_option maxRecDepth 100000 in
theorem law_c11 {D : va_G} {ct : Nat → ClassId} {g : XG} {p : Program} {l : Launch} {e : Env} {s : State} {m : MethodId} {b L : Nat} {xs : Nat → Int32} {below : List Frame} {meth : Method} {c : Code} {K : CK} {o : Nat → Nat} {i cc ss : Nat} {Q : State → Prop} (C : lwX D ct g p s m b L xs c) (hi : i + 3 < L) (hL : L ≤ 2048) (hcc : cc + 64 ≤ room_1.cells) (hss : ss + 4000 ≤ room_1.slots) (go : lwAt D ct g p l e s m b below meth c K o i (cc + 64) (ss + 4000) Q 1418) : lwAt D ct g p l e s m b below meth c K o i cc ss Q 523 := by
  obtain ⟨hx, hb, hml, hown, hts, hXs, hbl, hK, hX⟩ := C
  intro y rs bz iv lz sy xv tx hz v H locs ls hQ hR hP hD hS hl
  have hA : ∀ q, s.heap.size ≤ q → AD s q := fun _ h => h
  have hbA : ¬ AD s b := Nat.not_le.mpr hbl
  have hJ := hQ.1
  have hy : yI y := hJ.2.2.1
  have hf : yF y := hJ.2.2.2.2.2.2
  have hN : RelN iv v := hQ.2.2.2.2.1
  have hc8 : hz.2.1 ≤ 8 := by rw [hQ.2.1.2.1]; exact hQ.2.1.2.2.1
  have hn60 : i_n iv ≤ 60 := by rw [hN.2.1]; exact hN.2.2.1
  have hfn : i_n (fnF 60 0 iv).2 ≤ 60 := by rw [(fnF_g 60 0 iv hN.2.2.2).2.1, hN.2.1]; exact hN.2.2.1
  have hfc : i_cm (fnF 60 0 iv).2 < 9 := (fnF_g 60 0 iv hN.2.2.2).2.2
  have q := RL_read hQ
  refine lv_aload_n hx hb dL_law_523 rfl (lv_at hl 2 rfl) ?_
  have hP : va_P D vwCl (CWd ct (xE g) K y rs bz iv lz sy xv hz (MW ct o v [])) H := hP
  refine zVIX [] [] (kX10_read (kA K) y (kB K) rs (kD K) bz (kI K) iv (kL K) lz (kS K) sy (kX K) xv (kH K) (kHa K) hz (MW ct o v []) yJ ⟨_, _, hJ⟩ (fun _ h => yJ_i h) yJ_c hQ.2.1.1 hc8 hn60 hN.2.2.2 hfn hfc) hx hb hml hown hts (cwV 0 hts gL_law_X10_read rfl rfl rfl (by decide +kernel) ⟨(Nat.le_of_ble_eq_true rfl), (Nat.le_of_ble_eq_true rfl)⟩) hK hP hD hS hA hX (va_recv hK hP (ci := 9) (q0 := 38) rfl rfl) rfl hl.1 rfl (Nat.le_of_ble_eq_true rfl) dL_law_524 ⟨rm1 (Nat.le_of_ble_eq_true rfl) hcc, rs1 (Nat.le_of_ble_eq_true rfl) hss⟩ (fun r1 _ H locs hr1 hP hD hS => ?_)
  have hP : va_P D vwCl (CWd ct (xE g) K ((F_rdC y rs iv hz xv.2).2.1) ((F_rdC y rs iv hz xv.2).2.2.1) bz ((F_rdC y rs iv hz xv.2).2.2.2.1) lz sy ((xv.1, (F_rdC y rs iv hz xv.2).2.2.2.2.2)) ((F_rdC y rs iv hz xv.2).2.2.2.2.1) (MW ct o v [])) H := hP
  have hD : va_D (AD s) (CWd ct (xE g) K ((F_rdC y rs iv hz xv.2).2.1) ((F_rdC y rs iv hz xv.2).2.2.1) bz ((F_rdC y rs iv hz xv.2).2.2.2.1) lz sy ((xv.1, (F_rdC y rs iv hz xv.2).2.2.2.2.2)) ((F_rdC y rs iv hz xv.2).2.2.2.2.1) (MW ct o v [])) := hD
  refine W.widen (k := cc + 40) (n := ss + 3000) (rm4 (Nat.le_of_ble_eq_true rfl)) (rs4 (Nat.le_of_ble_eq_true rfl)) ?_
  refine lv_aload_n hx hb dL_law_527 rfl (lv_at hl 1 rfl) ?_
  have hP := lwTo hP
  have hD := lwToD hD
  refine zVI [] [.int r1] (kX11_read o v (CLd ct (xE g) K ((F_rdC y rs iv hz xv.2).2.1) ((F_rdC y rs iv hz xv.2).2.2.1) bz ((F_rdC y rs iv hz xv.2).2.2.2.1) lz sy ((xv.1, (F_rdC y rs iv hz xv.2).2.2.2.2.2)) ((F_rdC y rs iv hz xv.2).2.2.2.2.1)) (csR v) (zR v) (KK (csR v) (zR v)) y rs hN.2.2.1 (rd_z hQ) (rd_K hQ) KK_i KK_c) hx hb hml hown hts (cwV 0 hts gL_law_X11_read rfl rfl rfl (by decide +kernel) ⟨(Nat.le_of_ble_eq_true rfl), (Nat.le_of_ble_eq_true rfl)⟩) hK hP hD hS hA (va_recv hK hP (ci := 10) (q0 := 0) rfl rfl) rfl hl.1 rfl (Nat.le_of_ble_eq_true rfl) dL_law_528 ⟨rm2 (Nat.le_of_ble_eq_true rfl) hcc, rs2 (Nat.le_of_ble_eq_true rfl) hss⟩ (fun r2 _ H locs hr2 hP hD hS => ?_)
  have hP := lwFr (show va_P D vwCl (MW ct o ((F_rdM (csR v) (zR v) y rs v).2) (CLd ct (xE g) K ((F_rdC y rs iv hz xv.2).2.1) ((F_rdC y rs iv hz xv.2).2.2.1) bz ((F_rdC y rs iv hz xv.2).2.2.2.1) lz sy ((xv.1, (F_rdC y rs iv hz xv.2).2.2.2.2.2)) ((F_rdC y rs iv hz xv.2).2.2.2.2.1))) H from hP)
  have hD := lwFrD (show va_D (AD s) (MW ct o ((F_rdM (csR v) (zR v) y rs v).2) (CLd ct (xE g) K ((F_rdC y rs iv hz xv.2).2.1) ((F_rdC y rs iv hz xv.2).2.2.1) bz ((F_rdC y rs iv hz xv.2).2.2.2.1) lz sy ((xv.1, (F_rdC y rs iv hz xv.2).2.2.2.2.2)) ((F_rdC y rs iv hz xv.2).2.2.2.2.1))) from hD)
  refine W.widen (k := cc + 64) (n := ss + 4000) (rm3 (Nat.le_of_ble_eq_true rfl)) (rs3 (Nat.le_of_ble_eq_true rfl)) ?_
  exact lv_icmp_eq (tgt := 1418) hx hb dL_law_531 (by decide) (fun _ => go ((F_rdC y rs iv hz xv.2).2.1) ((F_rdC y rs iv hz xv.2).2.2.1) bz ((F_rdC y rs iv hz xv.2).2.2.2.1) lz sy (xv.1, (F_rdC y rs iv hz xv.2).2.2.2.2.2) tx ((F_rdC y rs iv hz xv.2).2.2.2.2.1) ((F_rdM (csR v) (zR v) y rs v).2) _ _ ls q.2 hR hP hD hS hl) (fun hne => absurd (hr1.trans (q.1.trans hr2.symm)) hne)
