/-! THE LAW: its branches -/
set_option maxHeartbeats 4000000 in
set_option maxRecDepth 100000 in
theorem law_c34 {D : va_G} {ct : Nat → ClassId} {g : XG} {p : Program} {l : Launch} {e : Env} {s : State} {m : MethodId} {b L : Nat} {xs : Nat → Int32} {below : List Frame} {meth : Method} {c : Code} {K : CK} {o : Nat → Nat} {i cc ss : Nat} {Q : State → Prop} (C : lwX D ct g p s m b L xs c) (hi : i + 3 < L) (hL : L ≤ 2048) (hcc : cc + 64 ≤ room_1.cells) (hss : ss + 4000 ≤ room_1.slots) (go : lwAt D ct g p l e s m b below meth c K o i (cc + 64) (ss + 4000) Q 1418) : lwAt D ct g p l e s m b below meth c K o i cc ss Q 1272 := by
  obtain ⟨hx, hb, hml, hown, hts, hXs, hbl, hK, hX⟩ := C
  intro y rs bz iv lz sy xv tx hz v H locs ls hQ hR hP hD hS hl
  have hA : ∀ q, s.heap.size ≤ q → AD s q := fun _ h => h
  have hbA : ¬ AD s b := Nat.not_le.mpr hbl
  have hJ := hQ.1
  have hy : yI y := hJ.2.2.1
  have hf : yF y := hJ.2.2.2.2.2.2
  have hN : RelN iv v := hQ.2.2.2.2.1
  refine lv_aload_n hx hb dL_law_1272 rfl (lv_at hl 2 rfl) ?_
  have hP : va_P D vwCl (CWd ct (xE g) K y rs bz iv lz sy xv hz (MW ct o v [])) H := hP
  refine zVDX [] [] (kX10_meanWeight (kA K) y (kB K) rs (kD K) bz (kI K) iv (kL K) lz (kS K) sy (kX K) xv (kH K) (kHa K) hz (MW ct o v []) hy hf) hx hb hml hown hts (cwV 0 hts gL_law_X10_meanWeight rfl rfl rfl (by decide +kernel) ⟨(Nat.le_of_ble_eq_true rfl), (Nat.le_of_ble_eq_true rfl)⟩) hK hP hD hS hA hX (va_recv hK hP (ci := 9) (q0 := 38) rfl rfl) rfl hl.1 rfl (Nat.le_of_ble_eq_true rfl) dL_law_1273 ⟨rm1 (Nat.le_of_ble_eq_true rfl) hcc, rs1 (Nat.le_of_ble_eq_true rfl) hss⟩ (fun r1 _ H locs hr1 hP hD hS => ?_)
  have hP : va_P D vwCl (CWd ct (xE g) K y rs bz iv lz sy xv hz (MW ct o v [])) H := hP
  have hD : va_D (AD s) (CWd ct (xE g) K y rs bz iv lz sy xv hz (MW ct o v [])) := hD
  refine W.widen (k := cc + 40) (n := ss + 3000) (rm4 (Nat.le_of_ble_eq_true rfl)) (rs4 (Nat.le_of_ble_eq_true rfl)) ?_
  have hr1 : r1 = a_mean y := hr1
  subst hr1
  obtain ⟨P, hPv⟩ : ∃ P, P = a_mean y := ⟨_, rfl⟩
  rw [← hPv]
  refine lv_dstore (lv' := [(4, .double P), (3, .int (nI i)), (2, .ref (o 0)), (1, .ref (kX K 0)), (0, .ref b)]) hx hb dL_law_1276 hl (by decide) rfl (fun ls hl => ?_)
  have hl0 := lv_sub hl [1, 2, 3, 4] rfl
  have hl0 : lv_has ls 8 [(3, .int (nI i)), (2, .ref (o 0)), (1, .ref (kX K 0)), (0, .ref b)] := hl0
  refine lv_aload_n hx hb dL_law_1278 rfl (lv_at hl0 1 rfl) ?_
  have hP := lwTo hP
  have hD := lwToD hD
  refine zVD [] [] (kX11_meanWeight o v (CLd ct (xE g) K y rs bz iv lz sy xv hz) y hy hJ.1) hx hb hml hown hts (cwV 0 hts gL_law_X11_meanWeight rfl rfl rfl (by decide +kernel) ⟨(Nat.le_of_ble_eq_true rfl), (Nat.le_of_ble_eq_true rfl)⟩) hK hP hD hS hA (va_recv hK hP (ci := 10) (q0 := 0) rfl rfl) rfl hl0.1 rfl (Nat.le_of_ble_eq_true rfl) dL_law_1279 ⟨rm2 (Nat.le_of_ble_eq_true rfl) hcc, rs2 (Nat.le_of_ble_eq_true rfl) hss⟩ (fun r2 _ H locs hr2 hP hD hS => ?_)
  have hP := lwFr (show va_P D vwCl (MW ct o v (CLd ct (xE g) K y rs bz iv lz sy xv hz)) H from hP)
  have hD := lwFrD (show va_D (AD s) (MW ct o v (CLd ct (xE g) K y rs bz iv lz sy xv hz)) from hD)
  refine W.widen (k := cc + 64) (n := ss + 4000) (rm3 (Nat.le_of_ble_eq_true rfl)) (rs3 (Nat.le_of_ble_eq_true rfl)) ?_
  have hr2 : r2 = a_mean y := hr2
  subst hr2
  rw [← hPv]
  refine lv_dstore (lv' := [(6, .double P), (4, .double P), (3, .int (nI i)), (2, .ref (o 0)), (1, .ref (kX K 0)), (0, .ref b)]) hx hb dL_law_1282 hl (by decide) rfl (fun ls hl => ?_)
  exact zDeq (k4 := 1) (k6 := 0) (tgt := 1418) hx hb hl rfl rfl dL_law_1284 dL_law_1286 dL_law_1288 dL_law_1289 dL_law_1292 dL_law_1294 dL_law_1296 dL_law_1297 dL_law_1300 dL_law_1302 dL_law_1304 dL_law_1305 dL_law_1310 (by decide) (go y rs bz iv lz sy xv tx hz v _ _ ls hQ hR hP hD hS (lv_sub hl [2, 3, 4, 5] rfl))
set_option maxHeartbeats 4000000 in
set_option maxRecDepth 100000 in
theorem law_c35 {D : va_G} {ct : Nat → ClassId} {g : XG} {p : Program} {l : Launch} {e : Env} {s : State} {m : MethodId} {b L : Nat} {xs : Nat → Int32} {below : List Frame} {meth : Method} {c : Code} {K : CK} {o : Nat → Nat} {i cc ss : Nat} {Q : State → Prop} (C : lwX D ct g p s m b L xs c) (hi : i + 3 < L) (hL : L ≤ 2048) (hcc : cc + 64 ≤ room_1.cells) (hss : ss + 4000 ≤ room_1.slots) (go : lwAt D ct g p l e s m b below meth c K o i (cc + 64) (ss + 4000) Q 1418) : lwAt D ct g p l e s m b below meth c K o i cc ss Q 1313 := by
  obtain ⟨hx, hb, hml, hown, hts, hXs, hbl, hK, hX⟩ := C
  intro y rs bz iv lz sy xv tx hz v H locs ls hQ hR hP hD hS hl
  have hA : ∀ q, s.heap.size ≤ q → AD s q := fun _ h => h
  have hbA : ¬ AD s b := Nat.not_le.mpr hbl
  have hJ := hQ.1
  have hy : yI y := hJ.2.2.1
  have hf : yF y := hJ.2.2.2.2.2.2
  have hN : RelN iv v := hQ.2.2.2.2.1
  refine lv_aload_n hx hb dL_law_1313 rfl (lv_at hl 2 rfl) ?_
  have hP : va_P D vwCl (CWd ct (xE g) K y rs bz iv lz sy xv hz (MW ct o v [])) H := hP
  refine zVFX [] [] (kX10_creakShare (kA K) y (kB K) rs (kD K) bz (kI K) iv (kL K) lz (kS K) sy (kX K) xv (kH K) (kHa K) hz (MW ct o v []) hy hf) hx hb hml hown hts (cwV 0 hts gL_law_X10_creakShare rfl rfl rfl (by decide +kernel) ⟨(Nat.le_of_ble_eq_true rfl), (Nat.le_of_ble_eq_true rfl)⟩) hK hP hD hS hA hX (va_recv hK hP (ci := 9) (q0 := 38) rfl rfl) rfl hl.1 rfl (Nat.le_of_ble_eq_true rfl) dL_law_1314 ⟨rm1 (Nat.le_of_ble_eq_true rfl) hcc, rs1 (Nat.le_of_ble_eq_true rfl) hss⟩ (fun r1 _ H locs hr1 hP hD hS => ?_)
  have hP : va_P D vwCl (CWd ct (xE g) K y rs bz iv lz sy xv hz (MW ct o v [])) H := hP
  have hD : va_D (AD s) (CWd ct (xE g) K y rs bz iv lz sy xv hz (MW ct o v [])) := hD
  refine W.widen (k := cc + 40) (n := ss + 3000) (rm4 (Nat.le_of_ble_eq_true rfl)) (rs4 (Nat.le_of_ble_eq_true rfl)) ?_
  have hr1 : r1 = a_share y := hr1
  subst hr1
  refine lv_f2d hx hb dL_law_1317 (share_n64 hy) ?_
  obtain ⟨P, hPv⟩ : ∃ P, P = FP.f2d (a_share y) := ⟨_, rfl⟩
  rw [← hPv]
  refine lv_dstore (lv' := [(4, .double P), (3, .int (nI i)), (2, .ref (o 0)), (1, .ref (kX K 0)), (0, .ref b)]) hx hb dL_law_1318 hl (by decide) rfl (fun ls hl => ?_)
  have hl0 := lv_sub hl [1, 2, 3, 4] rfl
  have hl0 : lv_has ls 8 [(3, .int (nI i)), (2, .ref (o 0)), (1, .ref (kX K 0)), (0, .ref b)] := hl0
  refine lv_aload_n hx hb dL_law_1320 rfl (lv_at hl0 1 rfl) ?_
  have hP := lwTo hP
  have hD := lwToD hD
  refine zVF [] [] (kX11_creakShare o v (CLd ct (xE g) K y rs bz iv lz sy xv hz) y hy hJ.1) hx hb hml hown hts (cwV 0 hts gL_law_X11_creakShare rfl rfl rfl (by decide +kernel) ⟨(Nat.le_of_ble_eq_true rfl), (Nat.le_of_ble_eq_true rfl)⟩) hK hP hD hS hA (va_recv hK hP (ci := 10) (q0 := 0) rfl rfl) rfl hl0.1 rfl (Nat.le_of_ble_eq_true rfl) dL_law_1321 ⟨rm2 (Nat.le_of_ble_eq_true rfl) hcc, rs2 (Nat.le_of_ble_eq_true rfl) hss⟩ (fun r2 _ H locs hr2 hP hD hS => ?_)
  have hP := lwFr (show va_P D vwCl (MW ct o v (CLd ct (xE g) K y rs bz iv lz sy xv hz)) H from hP)
  have hD := lwFrD (show va_D (AD s) (MW ct o v (CLd ct (xE g) K y rs bz iv lz sy xv hz)) from hD)
  refine W.widen (k := cc + 64) (n := ss + 4000) (rm3 (Nat.le_of_ble_eq_true rfl)) (rs3 (Nat.le_of_ble_eq_true rfl)) ?_
  have hr2 : r2 = a_share y := hr2
  subst hr2
  refine lv_f2d hx hb dL_law_1324 (share_n64 hy) ?_
  rw [← hPv]
  refine lv_dstore (lv' := [(6, .double P), (4, .double P), (3, .int (nI i)), (2, .ref (o 0)), (1, .ref (kX K 0)), (0, .ref b)]) hx hb dL_law_1325 hl (by decide) rfl (fun ls hl => ?_)
  exact zDeq (k4 := 1) (k6 := 0) (tgt := 1418) hx hb hl rfl rfl dL_law_1327 dL_law_1329 dL_law_1331 dL_law_1332 dL_law_1335 dL_law_1337 dL_law_1339 dL_law_1340 dL_law_1343 dL_law_1345 dL_law_1347 dL_law_1348 dL_law_1353 (by decide) (go y rs bz iv lz sy xv tx hz v _ _ ls hQ hR hP hD hS (lv_sub hl [2, 3, 4, 5] rfl))
set_option maxHeartbeats 4000000 in
set_option maxRecDepth 100000 in
theorem law_c36 {D : va_G} {ct : Nat → ClassId} {g : XG} {p : Program} {l : Launch} {e : Env} {s : State} {m : MethodId} {b L : Nat} {xs : Nat → Int32} {below : List Frame} {meth : Method} {c : Code} {K : CK} {o : Nat → Nat} {i cc ss : Nat} {Q : State → Prop} (C : lwX D ct g p s m b L xs c) (hi : i + 3 < L) (hL : L ≤ 2048) (hcc : cc + 64 ≤ room_1.cells) (hss : ss + 4000 ≤ room_1.slots) (go : lwAt D ct g p l e s m b below meth c K o i (cc + 64) (ss + 4000) Q 1418) : lwAt D ct g p l e s m b below meth c K o i cc ss Q 1356 := by
  obtain ⟨hx, hb, hml, hown, hts, hXs, hbl, hK, hX⟩ := C
  intro y rs bz iv lz sy xv tx hz v H locs ls hQ hR hP hD hS hl
  have hA : ∀ q, s.heap.size ≤ q → AD s q := fun _ h => h
  have hbA : ¬ AD s b := Nat.not_le.mpr hbl
  have hJ := hQ.1
  have hy : yI y := hJ.2.2.1
  have hf : yF y := hJ.2.2.2.2.2.2
  have hN : RelN iv v := hQ.2.2.2.2.1
  obtain ⟨x1, hx1⟩ : ∃ x, x = xs (nI (i + 1)).toNatClampNeg := ⟨_, rfl⟩
  refine lv_aload_n hx hb dL_law_1356 rfl (lv_at hl 2 rfl) ?_
  refine zScr (k := 1) hx hb hXs hbl hbA hS hl (by omega) hL (by decide) hx1 dL_law_1357 dL_law_1358 dL_law_1359 dL_law_1360 dL_law_1361 ?_
  have hP : va_P D vwCl (CWd ct (xE g) K y rs bz iv lz sy xv hz (MW ct o v [])) H := hP
  refine zVIX [.int x1] [] (kX10_account (kA K) y (kB K) rs (kD K) bz (kI K) iv (kL K) lz (kS K) sy (kX K) xv (kH K) (kHa K) hz (MW ct o v []) x1 hy hf) hx hb hml hown hts (cwV 1 hts gL_law_X10_account rfl rfl rfl (by decide +kernel) ⟨(Nat.le_of_ble_eq_true rfl), (Nat.le_of_ble_eq_true rfl)⟩) hK hP hD hS hA hX (va_recv hK hP (ci := 9) (q0 := 38) rfl rfl) rfl hl.1 rfl (Nat.le_of_ble_eq_true rfl) dL_law_1362 ⟨rm1 (Nat.le_of_ble_eq_true rfl) hcc, rs1 (Nat.le_of_ble_eq_true rfl) hss⟩ (fun r1 _ H locs hr1 hP hD hS => ?_)
  have hP : va_P D vwCl (CWd ct (xE g) K y rs bz iv lz sy xv hz (MW ct o v [])) H := hP
  have hD : va_D (AD s) (CWd ct (xE g) K y rs bz iv lz sy xv hz (MW ct o v [])) := hD
  refine W.widen (k := cc + 40) (n := ss + 3000) (rm4 (Nat.le_of_ble_eq_true rfl)) (rs4 (Nat.le_of_ble_eq_true rfl)) ?_
  refine lv_aload_n hx hb dL_law_1365 rfl (lv_at hl 1 rfl) ?_
  refine zScr (k := 1) hx hb hXs hbl hbA hS hl (by omega) hL (by decide) hx1 dL_law_1366 dL_law_1367 dL_law_1368 dL_law_1369 dL_law_1370 ?_
  have hP := lwTo hP
  have hD := lwToD hD
  refine zVI [.int x1] [.int r1] (kX11_account o v (CLd ct (xE g) K y rs bz iv lz sy xv hz) x1 y hy hJ.1 hJ.2.1.1 hJ.2.1.2.2.2.1 hJ.2.1.2.2.2.2.1) hx hb hml hown hts (cwV 1 hts gL_law_X11_account rfl rfl rfl (by decide +kernel) ⟨(Nat.le_of_ble_eq_true rfl), (Nat.le_of_ble_eq_true rfl)⟩) hK hP hD hS hA (va_recv hK hP (ci := 10) (q0 := 0) rfl rfl) rfl hl.1 rfl (Nat.le_of_ble_eq_true rfl) dL_law_1371 ⟨rm2 (Nat.le_of_ble_eq_true rfl) hcc, rs2 (Nat.le_of_ble_eq_true rfl) hss⟩ (fun r2 _ H locs hr2 hP hD hS => ?_)
  have hP := lwFr (show va_P D vwCl (MW ct o v (CLd ct (xE g) K y rs bz iv lz sy xv hz)) H from hP)
  have hD := lwFrD (show va_D (AD s) (MW ct o v (CLd ct (xE g) K y rs bz iv lz sy xv hz)) from hD)
  refine W.widen (k := cc + 64) (n := ss + 4000) (rm3 (Nat.le_of_ble_eq_true rfl)) (rs3 (Nat.le_of_ble_eq_true rfl)) ?_
  exact lv_icmp_eq (tgt := 1418) hx hb dL_law_1374 (by decide) (fun _ => go y rs bz iv lz sy xv tx hz v _ _ ls hQ hR hP hD hS hl) (fun hne => absurd (hr1.trans ((RL_acc hQ x1).trans hr2.symm)) hne)
set_option maxHeartbeats 4000000 in
set_option maxRecDepth 100000 in
theorem law_c37 {D : va_G} {ct : Nat → ClassId} {g : XG} {p : Program} {l : Launch} {e : Env} {s : State} {m : MethodId} {b L : Nat} {xs : Nat → Int32} {below : List Frame} {meth : Method} {c : Code} {K : CK} {o : Nat → Nat} {i cc ss : Nat} {Q : State → Prop} (C : lwX D ct g p s m b L xs c) (hi : i + 3 < L) (hL : L ≤ 2048) (hcc : cc + 64 ≤ room_1.cells) (hss : ss + 4000 ≤ room_1.slots) (go : lwAt D ct g p l e s m b below meth c K o i (cc + 64) (ss + 4000) Q 1418) : lwAt D ct g p l e s m b below meth c K o i cc ss Q 1379 := by
  obtain ⟨hx, hb, hml, hown, hts, hXs, hbl, hK, hX⟩ := C
  intro y rs bz iv lz sy xv tx hz v H locs ls hQ hR hP hD hS hl
  have hA : ∀ q, s.heap.size ≤ q → AD s q := fun _ h => h
  have hbA : ¬ AD s b := Nat.not_le.mpr hbl
  have hJ := hQ.1
  have hy : yI y := hJ.2.2.1
  have hf : yF y := hJ.2.2.2.2.2.2
  have hN : RelN iv v := hQ.2.2.2.2.1
  have hc8 : hz.2.1 ≤ 8 := by rw [hQ.2.1.2.1]; exact hQ.2.1.2.2.1
  have q := RL_undo hQ
  refine lv_aload_n hx hb dL_law_1379 rfl (lv_at hl 2 rfl) ?_
  have hP : va_P D vwCl (CWd ct (xE g) K y rs bz iv lz sy xv hz (MW ct o v [])) H := hP
  refine zVIX [] [] (kX10_undo (kA K) y (kB K) rs (kD K) bz (kI K) iv (kL K) lz (kS K) sy (kX K) xv (kH K) (kHa K) hz (MW ct o v []) hQ.2.1.1 hc8) hx hb hml hown hts (cwV 0 hts gL_law_X10_undo rfl rfl rfl (by decide +kernel) ⟨(Nat.le_of_ble_eq_true rfl), (Nat.le_of_ble_eq_true rfl)⟩) hK hP hD hS hA hX (va_recv hK hP (ci := 9) (q0 := 38) rfl rfl) rfl hl.1 rfl (Nat.le_of_ble_eq_true rfl) dL_law_1380 ⟨rm1 (Nat.le_of_ble_eq_true rfl) hcc, rs1 (Nat.le_of_ble_eq_true rfl) hss⟩ (fun r1 _ H locs hr1 hP hD hS => ?_)
  have hP : va_P D vwCl (CWd ct (xE g) K ((F_back y hz).2.1) rs bz iv lz sy xv ((F_back y hz).2.2) (MW ct o v [])) H := hP
  have hD : va_D (AD s) (CWd ct (xE g) K ((F_back y hz).2.1) rs bz iv lz sy xv ((F_back y hz).2.2) (MW ct o v [])) := hD
  refine W.widen (k := cc + 40) (n := ss + 3000) (rm4 (Nat.le_of_ble_eq_true rfl)) (rs4 (Nat.le_of_ble_eq_true rfl)) ?_
  refine lv_aload_n hx hb dL_law_1383 rfl (lv_at hl 1 rfl) ?_
  have hP := lwTo hP
  have hD := lwToD hD
  refine zVI [] [.int r1] (kX11_undo o v (CLd ct (xE g) K ((F_back y hz).2.1) rs bz iv lz sy xv ((F_back y hz).2.2)) hQ.2.1.2.2.1) hx hb hml hown hts (cwV 0 hts gL_law_X11_undo rfl rfl rfl (by decide +kernel) ⟨(Nat.le_of_ble_eq_true rfl), (Nat.le_of_ble_eq_true rfl)⟩) hK hP hD hS hA (va_recv hK hP (ci := 10) (q0 := 0) rfl rfl) rfl hl.1 rfl (Nat.le_of_ble_eq_true rfl) dL_law_1384 ⟨rm2 (Nat.le_of_ble_eq_true rfl) hcc, rs2 (Nat.le_of_ble_eq_true rfl) hss⟩ (fun r2 _ H locs hr2 hP hD hS => ?_)
  have hP := lwFr (show va_P D vwCl (MW ct o ((F_undo v).2) (CLd ct (xE g) K ((F_back y hz).2.1) rs bz iv lz sy xv ((F_back y hz).2.2))) H from hP)
  have hD := lwFrD (show va_D (AD s) (MW ct o ((F_undo v).2) (CLd ct (xE g) K ((F_back y hz).2.1) rs bz iv lz sy xv ((F_back y hz).2.2))) from hD)
  refine W.widen (k := cc + 64) (n := ss + 4000) (rm3 (Nat.le_of_ble_eq_true rfl)) (rs3 (Nat.le_of_ble_eq_true rfl)) ?_
  exact lv_icmp_eq (tgt := 1418) hx hb dL_law_1387 (by decide) (fun _ => go ((F_back y hz).2.1) rs bz iv lz sy xv tx ((F_back y hz).2.2) ((F_undo v).2) _ _ ls q.2 hR hP hD hS hl) (fun hne => absurd (hr1.trans (q.1.trans hr2.symm)) hne)
set_option maxHeartbeats 4000000 in
set_option maxRecDepth 100000 in
theorem law_c38 {D : va_G} {ct : Nat → ClassId} {g : XG} {p : Program} {l : Launch} {e : Env} {s : State} {m : MethodId} {b L : Nat} {xs : Nat → Int32} {below : List Frame} {meth : Method} {c : Code} {K : CK} {o : Nat → Nat} {i cc ss : Nat} {Q : State → Prop} (C : lwX D ct g p s m b L xs c) (hi : i + 3 < L) (hL : L ≤ 2048) (hcc : cc + 64 ≤ room_1.cells) (hss : ss + 4000 ≤ room_1.slots) (go : lwAt D ct g p l e s m b below meth c K o i (cc + 64) (ss + 4000) Q 1418) : lwAt D ct g p l e s m b below meth c K o i cc ss Q 1392 := by
  obtain ⟨hx, hb, hml, hown, hts, hXs, hbl, hK, hX⟩ := C
  intro y rs bz iv lz sy xv tx hz v H locs ls hQ hR hP hD hS hl
  have hA : ∀ q, s.heap.size ≤ q → AD s q := fun _ h => h
  have hbA : ¬ AD s b := Nat.not_le.mpr hbl
  have hJ := hQ.1
  have hy : yI y := hJ.2.2.1
  have hf : yF y := hJ.2.2.2.2.2.2
  have hN : RelN iv v := hQ.2.2.2.2.1
  have q := RL_save hQ
  refine lv_aload_n hx hb dL_law_1392 rfl (lv_at hl 2 rfl) ?_
  have hP : va_P D vwCl (CWd ct (xE g) K y rs bz iv lz sy xv hz (MW ct o v [])) H := hP
  refine zVIX [] [] (kX10_save (kA K) y (kB K) rs (kD K) bz (kI K) iv (kL K) lz (kS K) sy (kX K) xv (kH K) (kHa K) hz (MW ct o v []) ) hx hb hml hown hts (cwV 0 hts gL_law_X10_save rfl rfl rfl (by decide +kernel) ⟨(Nat.le_of_ble_eq_true rfl), (Nat.le_of_ble_eq_true rfl)⟩) hK hP hD hS hA hX (va_recv hK hP (ci := 9) (q0 := 38) rfl rfl) rfl hl.1 rfl (Nat.le_of_ble_eq_true rfl) dL_law_1393 ⟨rm1 (Nat.le_of_ble_eq_true rfl) hcc, rs1 (Nat.le_of_ble_eq_true rfl) hss⟩ (fun r1 _ H locs hr1 hP hD hS => ?_)
  have hP : va_P D vwCl (CWd ct (xE g) K y rs bz iv lz y ((nI (1), xv.2)) hz (MW ct o v [])) H := hP
  have hD : va_D (AD s) (CWd ct (xE g) K y rs bz iv lz y ((nI (1), xv.2)) hz (MW ct o v [])) := hD
  refine W.widen (k := cc + 40) (n := ss + 3000) (rm4 (Nat.le_of_ble_eq_true rfl)) (rs4 (Nat.le_of_ble_eq_true rfl)) ?_
  refine lv_aload_n hx hb dL_law_1396 rfl (lv_at hl 1 rfl) ?_
  have hP := lwTo hP
  have hD := lwToD hD
  refine zVI [] [.int r1] (kX11_save o v (CLd ct (xE g) K y rs bz iv lz y ((nI (1), xv.2)) hz) ) hx hb hml hown hts (cwV 0 hts gL_law_X11_save rfl rfl rfl (by decide +kernel) ⟨(Nat.le_of_ble_eq_true rfl), (Nat.le_of_ble_eq_true rfl)⟩) hK hP hD hS hA (va_recv hK hP (ci := 10) (q0 := 0) rfl rfl) rfl hl.1 rfl (Nat.le_of_ble_eq_true rfl) dL_law_1397 ⟨rm2 (Nat.le_of_ble_eq_true rfl) hcc, rs2 (Nat.le_of_ble_eq_true rfl) hss⟩ (fun r2 _ H locs hr2 hP hD hS => ?_)
  have hP := lwFr (show va_P D vwCl (MW ct o ((mSav v)) (CLd ct (xE g) K y rs bz iv lz y ((nI (1), xv.2)) hz)) H from hP)
  have hD := lwFrD (show va_D (AD s) (MW ct o ((mSav v)) (CLd ct (xE g) K y rs bz iv lz y ((nI (1), xv.2)) hz)) from hD)
  refine W.widen (k := cc + 64) (n := ss + 4000) (rm3 (Nat.le_of_ble_eq_true rfl)) (rs3 (Nat.le_of_ble_eq_true rfl)) ?_
  exact lv_icmp_eq (tgt := 1418) hx hb dL_law_1400 (by decide) (fun _ => go y rs bz iv lz y (nI (1), xv.2) tx hz ((mSav v)) _ _ ls q.2 hR hP hD hS hl) (fun hne => absurd (hr1.trans (q.1.trans hr2.symm)) hne)
set_option maxHeartbeats 4000000 in
set_option maxRecDepth 100000 in
theorem law_c39 {D : va_G} {ct : Nat → ClassId} {g : XG} {p : Program} {l : Launch} {e : Env} {s : State} {m : MethodId} {b L : Nat} {xs : Nat → Int32} {below : List Frame} {meth : Method} {c : Code} {K : CK} {o : Nat → Nat} {i cc ss : Nat} {Q : State → Prop} (C : lwX D ct g p s m b L xs c) (hi : i + 3 < L) (hL : L ≤ 2048) (hcc : cc + 64 ≤ room_1.cells) (hss : ss + 4000 ≤ room_1.slots) (go : lwAt D ct g p l e s m b below meth c K o i (cc + 64) (ss + 4000) Q 1418) : lwAt D ct g p l e s m b below meth c K o i cc ss Q 1405 := by
  obtain ⟨hx, hb, hml, hown, hts, hXs, hbl, hK, hX⟩ := C
  intro y rs bz iv lz sy xv tx hz v H locs ls hQ hR hP hD hS hl
  have hA : ∀ q, s.heap.size ≤ q → AD s q := fun _ h => h
  have hbA : ¬ AD s b := Nat.not_le.mpr hbl
  have hJ := hQ.1
  have hy : yI y := hJ.2.2.1
  have hf : yF y := hJ.2.2.2.2.2.2
  have hN : RelN iv v := hQ.2.2.2.2.1
  have q := RL_rest hQ
  refine lv_aload_n hx hb dL_law_1405 rfl (lv_at hl 2 rfl) ?_
  have hP : va_P D vwCl (CWd ct (xE g) K y rs bz iv lz sy xv hz (MW ct o v [])) H := hP
  refine zVIX [] [] (kX10_restore (kA K) y (kB K) rs (kD K) bz (kI K) iv (kL K) lz (kS K) sy (kX K) xv (kH K) (kHa K) hz (MW ct o v []) ) hx hb hml hown hts (cwV 0 hts gL_law_X10_restore rfl rfl rfl (by decide +kernel) ⟨(Nat.le_of_ble_eq_true rfl), (Nat.le_of_ble_eq_true rfl)⟩) hK hP hD hS hA hX (va_recv hK hP (ci := 9) (q0 := 38) rfl rfl) rfl hl.1 rfl (Nat.le_of_ble_eq_true rfl) dL_law_1406 ⟨rm1 (Nat.le_of_ble_eq_true rfl) hcc, rs1 (Nat.le_of_ble_eq_true rfl) hss⟩ (fun r1 _ H locs hr1 hP hD hS => ?_)
  have hP : va_P D vwCl (CWd ct (xE g) K ((F_resC y sy xv.1 hz).2.1) rs bz iv lz sy xv ((F_resC y sy xv.1 hz).2.2) (MW ct o v [])) H := hP
  have hD : va_D (AD s) (CWd ct (xE g) K ((F_resC y sy xv.1 hz).2.1) rs bz iv lz sy xv ((F_resC y sy xv.1 hz).2.2) (MW ct o v [])) := hD
  refine W.widen (k := cc + 40) (n := ss + 3000) (rm4 (Nat.le_of_ble_eq_true rfl)) (rs4 (Nat.le_of_ble_eq_true rfl)) ?_
  refine lv_aload_n hx hb dL_law_1409 rfl (lv_at hl 1 rfl) ?_
  have hP := lwTo hP
  have hD := lwToD hD
  refine zVI [] [.int r1] (kX11_restore o v (CLd ct (xE g) K ((F_resC y sy xv.1 hz).2.1) rs bz iv lz sy xv ((F_resC y sy xv.1 hz).2.2)) ) hx hb hml hown hts (cwV 0 hts gL_law_X11_restore rfl rfl rfl (by decide +kernel) ⟨(Nat.le_of_ble_eq_true rfl), (Nat.le_of_ble_eq_true rfl)⟩) hK hP hD hS hA (va_recv hK hP (ci := 10) (q0 := 0) rfl rfl) rfl hl.1 rfl (Nat.le_of_ble_eq_true rfl) dL_law_1410 ⟨rm2 (Nat.le_of_ble_eq_true rfl) hcc, rs2 (Nat.le_of_ble_eq_true rfl) hss⟩ (fun r2 _ H locs hr2 hP hD hS => ?_)
  have hP := lwFr (show va_P D vwCl (MW ct o ((F_rest v).2) (CLd ct (xE g) K ((F_resC y sy xv.1 hz).2.1) rs bz iv lz sy xv ((F_resC y sy xv.1 hz).2.2))) H from hP)
  have hD := lwFrD (show va_D (AD s) (MW ct o ((F_rest v).2) (CLd ct (xE g) K ((F_resC y sy xv.1 hz).2.1) rs bz iv lz sy xv ((F_resC y sy xv.1 hz).2.2))) from hD)
  refine W.widen (k := cc + 64) (n := ss + 4000) (rm3 (Nat.le_of_ble_eq_true rfl)) (rs3 (Nat.le_of_ble_eq_true rfl)) ?_
  exact lv_icmp_eq (tgt := 1418) hx hb dL_law_1413 (by decide) (fun _ => go ((F_resC y sy xv.1 hz).2.1) rs bz iv lz sy xv tx ((F_resC y sy xv.1 hz).2.2) ((F_rest v).2) _ _ ls q.2 hR hP hD hS hl) (fun hne => absurd (hr1.trans (q.1.trans hr2.symm)) hne)
