/-! THE LAW: its branches -/
theorem rm1 {cc k n : Nat} (h : k ≤ 40) (hn : cc + 64 ≤ n) : cc + k ≤ n := by omega
theorem rm2 {cc k n : Nat} (h : k ≤ 24) (hn : cc + 64 ≤ n) : cc + 40 + k ≤ n := by omega
theorem rm3 {cc k : Nat} (h : k ≤ 24) : cc + 40 + k ≤ cc + 64 := by omega
theorem rm4 {cc k : Nat} (h : k ≤ 40) : cc + k ≤ cc + 40 := by omega
theorem rs1 {cc k n : Nat} (h : k ≤ 3000) (hn : cc + 4000 ≤ n) : cc + k ≤ n := by omega
theorem rs2 {cc k n : Nat} (h : k ≤ 1000) (hn : cc + 4000 ≤ n) : cc + 3000 + k ≤ n := by omega
theorem rs3 {cc k : Nat} (h : k ≤ 1000) : cc + 3000 + k ≤ cc + 4000 := by omega
theorem rs4 {cc k : Nat} (h : k ≤ 3000) : cc + k ≤ cc + 3000 := by omega
set_option maxHeartbeats 4000000 in
set_option maxRecDepth 100000 in
theorem law_c0 {D : va_G} {ct : Nat → ClassId} {g : XG} {p : Program} {l : Launch} {e : Env} {s : State} {m : MethodId} {b L : Nat} {xs : Nat → Int32} {below : List Frame} {meth : Method} {c : Code} {K : CK} {o : Nat → Nat} {i cc ss : Nat} {Q : State → Prop} (C : lwX D ct g p s m b L xs c) (hi : i + 3 < L) (hL : L ≤ 2048) (hcc : cc + 64 ≤ room_1.cells) (hss : ss + 4000 ≤ room_1.slots) (go : lwAt D ct g p l e s m b below meth c K o i (cc + 64) (ss + 4000) Q 1418) : lwAt D ct g p l e s m b below meth c K o i cc ss Q 208 := by
  obtain ⟨hx, hb, hml, hown, hts, hXs, hbl, hK, hX⟩ := C
  intro y rs bz iv lz sy xv tx hz v H locs ls hQ hR hP hD hS hl
  have hA : ∀ q, s.heap.size ≤ q → AD s q := fun _ h => h
  have hbA : ¬ AD s b := Nat.not_le.mpr hbl
  have hJ := hQ.1
  have hy : yI y := hJ.2.2.1
  have hf : yF y := hJ.2.2.2.2.2.2
  have hN : RelN iv v := hQ.2.2.2.2.1
  have q := RL_clear hQ
  refine lv_aload_n hx hb dL_law_208 rfl (lv_at hl 2 rfl) ?_
  have hP : va_P D vwCl (CWd ct (xE g) K y rs bz iv lz sy xv hz (MW ct o v [])) H := hP
  refine zVIX [] [] (kX10_clear (kA K) y (kB K) rs (kD K) bz (kI K) iv (kL K) lz (kS K) sy (kX K) xv (kH K) (kHa K) hz (MW ct o v []) ) hx hb hml hown hts (cwV 0 hts gL_law_X10_clear rfl rfl rfl (by decide +kernel) ⟨(Nat.le_of_ble_eq_true rfl), (Nat.le_of_ble_eq_true rfl)⟩) hK hP hD hS hA hX (va_recv hK hP (ci := 9) (q0 := 38) rfl rfl) rfl hl.1 rfl (Nat.le_of_ble_eq_true rfl) dL_law_209 ⟨rm1 (Nat.le_of_ble_eq_true rfl) hcc, rs1 (Nat.le_of_ble_eq_true rfl) hss⟩ (fun r1 _ H locs hr1 hP hD hS => ?_)
  have hP : va_P D vwCl (CWd ct (xE g) K ((yClr y)) rs bz iv lz sy xv ((hz.1, 0, hz.2.2)) (MW ct o v [])) H := hP
  have hD : va_D (AD s) (CWd ct (xE g) K ((yClr y)) rs bz iv lz sy xv ((hz.1, 0, hz.2.2)) (MW ct o v [])) := hD
  refine W.widen (k := cc + 40) (n := ss + 3000) (rm4 (Nat.le_of_ble_eq_true rfl)) (rs4 (Nat.le_of_ble_eq_true rfl)) ?_
  refine lv_aload_n hx hb dL_law_212 rfl (lv_at hl 1 rfl) ?_
  have hP := lwTo hP
  have hD := lwToD hD
  refine zVI [] [.int r1] (kX11_clear o v (CLd ct (xE g) K ((yClr y)) rs bz iv lz sy xv ((hz.1, 0, hz.2.2))) ) hx hb hml hown hts (cwV 0 hts gL_law_X11_clear rfl rfl rfl (by decide +kernel) ⟨(Nat.le_of_ble_eq_true rfl), (Nat.le_of_ble_eq_true rfl)⟩) hK hP hD hS hA (va_recv hK hP (ci := 10) (q0 := 0) rfl rfl) rfl hl.1 rfl (Nat.le_of_ble_eq_true rfl) dL_law_213 ⟨rm2 (Nat.le_of_ble_eq_true rfl) hcc, rs2 (Nat.le_of_ble_eq_true rfl) hss⟩ (fun r2 _ H locs hr2 hP hD hS => ?_)
  have hP := lwFr (show va_P D vwCl (MW ct o ((mClr v)) (CLd ct (xE g) K ((yClr y)) rs bz iv lz sy xv ((hz.1, 0, hz.2.2)))) H from hP)
  have hD := lwFrD (show va_D (AD s) (MW ct o ((mClr v)) (CLd ct (xE g) K ((yClr y)) rs bz iv lz sy xv ((hz.1, 0, hz.2.2)))) from hD)
  refine W.widen (k := cc + 64) (n := ss + 4000) (rm3 (Nat.le_of_ble_eq_true rfl)) (rs3 (Nat.le_of_ble_eq_true rfl)) ?_
  exact lv_icmp_eq (tgt := 1418) hx hb dL_law_216 (by decide) (fun _ => go (yClr y) rs bz iv lz sy xv tx (hz.1, 0, hz.2.2) ((mClr v)) _ _ ls q.2 hR hP hD hS hl) (fun hne => absurd (hr1.trans (q.1.trans hr2.symm)) hne)
set_option maxHeartbeats 4000000 in
set_option maxRecDepth 100000 in
theorem law_c1 {D : va_G} {ct : Nat → ClassId} {g : XG} {p : Program} {l : Launch} {e : Env} {s : State} {m : MethodId} {b L : Nat} {xs : Nat → Int32} {below : List Frame} {meth : Method} {c : Code} {K : CK} {o : Nat → Nat} {i cc ss : Nat} {Q : State → Prop} (C : lwX D ct g p s m b L xs c) (hi : i + 3 < L) (hL : L ≤ 2048) (hcc : cc + 64 ≤ room_1.cells) (hss : ss + 4000 ≤ room_1.slots) (go : lwAt D ct g p l e s m b below meth c K o i (cc + 64) (ss + 4000) Q 1418) : lwAt D ct g p l e s m b below meth c K o i cc ss Q 221 := by
  obtain ⟨hx, hb, hml, hown, hts, hXs, hbl, hK, hX⟩ := C
  intro y rs bz iv lz sy xv tx hz v H locs ls hQ hR hP hD hS hl
  have hA : ∀ q, s.heap.size ≤ q → AD s q := fun _ h => h
  have hbA : ¬ AD s b := Nat.not_le.mpr hbl
  have hJ := hQ.1
  have hy : yI y := hJ.2.2.1
  have hf : yF y := hJ.2.2.2.2.2.2
  have hN : RelN iv v := hQ.2.2.2.2.1
  have hn60 : i_n iv ≤ 60 := by rw [hN.2.1]; exact hN.2.2.1
  obtain ⟨x1, hx1⟩ : ∃ x, x = xs (nI (i + 1)).toNatClampNeg := ⟨_, rfl⟩
  obtain ⟨c1, hc1⟩ : ∃ c, c = ((x1).toUInt32 % 65536).toInt32 := ⟨_, rfl⟩
  have q := RL_app hQ c1
  refine lv_aload_n hx hb dL_law_221 rfl (lv_at hl 2 rfl) ?_
  refine zScr (k := 1) hx hb hXs hbl hbA hS hl (by omega) hL (by decide) hx1 dL_law_222 dL_law_223 dL_law_224 dL_law_225 dL_law_226 ?_
  refine lv_i2c hx hb dL_law_227 hc1.symm ?_
  have hP : va_P D vwCl (CWd ct (xE g) K y rs bz iv lz sy xv hz (MW ct o v [])) H := hP
  refine zVIX [.int c1] [] (kX10_append (kA K) y (kB K) rs (kD K) bz (kI K) iv (kL K) lz (kS K) sy (kX K) xv (kH K) (kHa K) hz (MW ct o v []) c1 hn60) hx hb hml hown hts (cwV 1 hts gL_law_X10_append rfl rfl rfl (by decide +kernel) ⟨(Nat.le_of_ble_eq_true rfl), (Nat.le_of_ble_eq_true rfl)⟩) hK hP hD hS hA hX (va_recv hK hP (ci := 9) (q0 := 38) rfl rfl) rfl hl.1 rfl (Nat.le_of_ble_eq_true rfl) dL_law_228 ⟨rm1 (Nat.le_of_ble_eq_true rfl) hcc, rs1 (Nat.le_of_ble_eq_true rfl) hss⟩ (fun r1 _ H locs hr1 hP hD hS => ?_)
  have hP : va_P D vwCl (CWd ct (xE g) K y rs bz ((F_iadd iv c1).2) lz sy xv hz (MW ct o v [])) H := hP
  have hD : va_D (AD s) (CWd ct (xE g) K y rs bz ((F_iadd iv c1).2) lz sy xv hz (MW ct o v [])) := hD
  refine W.widen (k := cc + 40) (n := ss + 3000) (rm4 (Nat.le_of_ble_eq_true rfl)) (rs4 (Nat.le_of_ble_eq_true rfl)) ?_
  refine lv_aload_n hx hb dL_law_231 rfl (lv_at hl 1 rfl) ?_
  refine zScr (k := 1) hx hb hXs hbl hbA hS hl (by omega) hL (by decide) hx1 dL_law_232 dL_law_233 dL_law_234 dL_law_235 dL_law_236 ?_
  refine lv_i2c hx hb dL_law_237 hc1.symm ?_
  have hP := lwTo hP
  have hD := lwToD hD
  refine zVI [.int c1] [.int r1] (kX11_append o v (CLd ct (xE g) K y rs bz ((F_iadd iv c1).2) lz sy xv hz) c1 hN.2.2.1) hx hb hml hown hts (cwV 1 hts gL_law_X11_append rfl rfl rfl (by decide +kernel) ⟨(Nat.le_of_ble_eq_true rfl), (Nat.le_of_ble_eq_true rfl)⟩) hK hP hD hS hA (va_recv hK hP (ci := 10) (q0 := 0) rfl rfl) rfl hl.1 rfl (Nat.le_of_ble_eq_true rfl) dL_law_238 ⟨rm2 (Nat.le_of_ble_eq_true rfl) hcc, rs2 (Nat.le_of_ble_eq_true rfl) hss⟩ (fun r2 _ H locs hr2 hP hD hS => ?_)
  have hP := lwFr (show va_P D vwCl (MW ct o ((F_app v c1).2) (CLd ct (xE g) K y rs bz ((F_iadd iv c1).2) lz sy xv hz)) H from hP)
  have hD := lwFrD (show va_D (AD s) (MW ct o ((F_app v c1).2) (CLd ct (xE g) K y rs bz ((F_iadd iv c1).2) lz sy xv hz)) from hD)
  refine W.widen (k := cc + 64) (n := ss + 4000) (rm3 (Nat.le_of_ble_eq_true rfl)) (rs3 (Nat.le_of_ble_eq_true rfl)) ?_
  exact lv_icmp_eq (tgt := 1418) hx hb dL_law_241 (by decide) (fun _ => go y rs bz ((F_iadd iv c1).2) lz sy xv tx hz ((F_app v c1).2) _ _ ls q.2 hR hP hD hS hl) (fun hne => absurd (hr1.trans (q.1.trans hr2.symm)) hne)
set_option maxHeartbeats 4000000 in
set_option maxRecDepth 100000 in
theorem law_c2 {D : va_G} {ct : Nat → ClassId} {g : XG} {p : Program} {l : Launch} {e : Env} {s : State} {m : MethodId} {b L : Nat} {xs : Nat → Int32} {below : List Frame} {meth : Method} {c : Code} {K : CK} {o : Nat → Nat} {i cc ss : Nat} {Q : State → Prop} (C : lwX D ct g p s m b L xs c) (hi : i + 3 < L) (hL : L ≤ 2048) (hcc : cc + 64 ≤ room_1.cells) (hss : ss + 4000 ≤ room_1.slots) (go : lwAt D ct g p l e s m b below meth c K o i (cc + 64) (ss + 4000) Q 1418) : lwAt D ct g p l e s m b below meth c K o i cc ss Q 246 := by
  obtain ⟨hx, hb, hml, hown, hts, hXs, hbl, hK, hX⟩ := C
  intro y rs bz iv lz sy xv tx hz v H locs ls hQ hR hP hD hS hl
  have hA : ∀ q, s.heap.size ≤ q → AD s q := fun _ h => h
  have hbA : ¬ AD s b := Nat.not_le.mpr hbl
  have hJ := hQ.1
  have hy : yI y := hJ.2.2.1
  have hf : yF y := hJ.2.2.2.2.2.2
  have hN : RelN iv v := hQ.2.2.2.2.1
  have hB3 : y_n y ≤ 12 ∧ y_cn y ≤ 4 ∧ y_rn y ≤ 5 := ⟨hy.1, hy.2.1, hy.2.2.1⟩
  have hc8 : hz.2.1 ≤ 8 := by rw [hQ.2.1.2.1]; exact hQ.2.1.2.2.1
  obtain ⟨x1, hx1⟩ : ∃ x, x = xs (nI (i + 1)).toNatClampNeg := ⟨_, rfl⟩
  have q := RL_chg (a := f_addT y rs (nI (0)) x1 (nI (9))) (b := F_adds y (F_beg v) (nI (0)) x1) hQ (st_addT (Or.inl ⟨rfl, rfl⟩) (RQ_beg hJ hQ.2.1 hQ.2.2.1).2)
  refine lv_aload_n hx hb dL_law_246 rfl (lv_at hl 2 rfl) ?_
  refine zScr (k := 1) hx hb hXs hbl hbA hS hl (by omega) hL (by decide) hx1 dL_law_247 dL_law_248 dL_law_249 dL_law_250 dL_law_251 ?_
  have hP : va_P D vwCl (CWd ct (xE g) K y rs bz iv lz sy xv hz (MW ct o v [])) H := hP
  refine zVIX [.int x1] [] (kX10_premise (kA K) y (kB K) rs (kD K) bz (kI K) iv (kL K) lz (kS K) sy (kX K) xv (kH K) (kHa K) hz (MW ct o v []) x1 hy hf hQ.2.1.1 hc8) hx hb hml hown hts (cwV 1 hts gL_law_X10_premise rfl rfl rfl (by decide +kernel) ⟨(Nat.le_of_ble_eq_true rfl), (Nat.le_of_ble_eq_true rfl)⟩) hK hP hD hS hA hX (va_recv hK hP (ci := 9) (q0 := 38) rfl rfl) rfl hl.1 rfl (Nat.le_of_ble_eq_true rfl) dL_law_252 ⟨rm1 (Nat.le_of_ble_eq_true rfl) hcc, rs1 (Nat.le_of_ble_eq_true rfl) hss⟩ (fun r1 _ H locs hr1 hP hD hS => ?_)
  have hP : va_P D vwCl (CWd ct (xE g) K ((f_addT y rs (nI (0)) x1 (nI (9))).2.1) ((f_addT y rs (nI (0)) x1 (nI (9))).2.2) bz iv lz sy xv ((F_set (hB hz y) (f_addT y rs (nI (0)) x1 (nI (9))).1).2) (MW ct o v [])) H := hP
  have hD : va_D (AD s) (CWd ct (xE g) K ((f_addT y rs (nI (0)) x1 (nI (9))).2.1) ((f_addT y rs (nI (0)) x1 (nI (9))).2.2) bz iv lz sy xv ((F_set (hB hz y) (f_addT y rs (nI (0)) x1 (nI (9))).1).2) (MW ct o v [])) := hD
  refine W.widen (k := cc + 40) (n := ss + 3000) (rm4 (Nat.le_of_ble_eq_true rfl)) (rs4 (Nat.le_of_ble_eq_true rfl)) ?_
  refine lv_aload_n hx hb dL_law_255 rfl (lv_at hl 1 rfl) ?_
  refine zScr (k := 1) hx hb hXs hbl hbA hS hl (by omega) hL (by decide) hx1 dL_law_256 dL_law_257 dL_law_258 dL_law_259 dL_law_260 ?_
  have hP := lwTo hP
  have hD := lwToD hD
  refine zVI [.int x1] [.int r1] (kX11_premise o v (CLd ct (xE g) K ((f_addT y rs (nI (0)) x1 (nI (9))).2.1) ((f_addT y rs (nI (0)) x1 (nI (9))).2.2) bz iv lz sy xv ((F_set (hB hz y) (f_addT y rs (nI (0)) x1 (nI (9))).1).2)) x1 y hB3 hJ.1 hQ.2.1.2.2.1) hx hb hml hown hts (cwV 1 hts gL_law_X11_premise rfl rfl rfl (by decide +kernel) ⟨(Nat.le_of_ble_eq_true rfl), (Nat.le_of_ble_eq_true rfl)⟩) hK hP hD hS hA (va_recv hK hP (ci := 10) (q0 := 0) rfl rfl) rfl hl.1 rfl (Nat.le_of_ble_eq_true rfl) dL_law_261 ⟨rm2 (Nat.le_of_ble_eq_true rfl) hcc, rs2 (Nat.le_of_ble_eq_true rfl) hss⟩ (fun r2 _ H locs hr2 hP hD hS => ?_)
  have hP := lwFr (show va_P D vwCl (MW ct o ((F_ch (F_adds y (F_beg v) (nI (0)) x1)).2) (CLd ct (xE g) K ((f_addT y rs (nI (0)) x1 (nI (9))).2.1) ((f_addT y rs (nI (0)) x1 (nI (9))).2.2) bz iv lz sy xv ((F_set (hB hz y) (f_addT y rs (nI (0)) x1 (nI (9))).1).2))) H from hP)
  have hD := lwFrD (show va_D (AD s) (MW ct o ((F_ch (F_adds y (F_beg v) (nI (0)) x1)).2) (CLd ct (xE g) K ((f_addT y rs (nI (0)) x1 (nI (9))).2.1) ((f_addT y rs (nI (0)) x1 (nI (9))).2.2) bz iv lz sy xv ((F_set (hB hz y) (f_addT y rs (nI (0)) x1 (nI (9))).1).2))) from hD)
  refine W.widen (k := cc + 64) (n := ss + 4000) (rm3 (Nat.le_of_ble_eq_true rfl)) (rs3 (Nat.le_of_ble_eq_true rfl)) ?_
  exact lv_icmp_eq (tgt := 1418) hx hb dL_law_264 (by decide) (fun _ => go ((f_addT y rs (nI (0)) x1 (nI (9))).2.1) ((f_addT y rs (nI (0)) x1 (nI (9))).2.2) bz iv lz sy xv tx ((F_set (hB hz y) (f_addT y rs (nI (0)) x1 (nI (9))).1).2) ((F_ch (F_adds y (F_beg v) (nI (0)) x1)).2) _ _ ls q.2 hR hP hD hS hl) (fun hne => absurd (hr1.trans (q.1.trans hr2.symm)) hne)
set_option maxHeartbeats 4000000 in
set_option maxRecDepth 100000 in
theorem law_c3 {D : va_G} {ct : Nat → ClassId} {g : XG} {p : Program} {l : Launch} {e : Env} {s : State} {m : MethodId} {b L : Nat} {xs : Nat → Int32} {below : List Frame} {meth : Method} {c : Code} {K : CK} {o : Nat → Nat} {i cc ss : Nat} {Q : State → Prop} (C : lwX D ct g p s m b L xs c) (hi : i + 3 < L) (hL : L ≤ 2048) (hcc : cc + 64 ≤ room_1.cells) (hss : ss + 4000 ≤ room_1.slots) (go : lwAt D ct g p l e s m b below meth c K o i (cc + 64) (ss + 4000) Q 1418) : lwAt D ct g p l e s m b below meth c K o i cc ss Q 269 := by
  obtain ⟨hx, hb, hml, hown, hts, hXs, hbl, hK, hX⟩ := C
  intro y rs bz iv lz sy xv tx hz v H locs ls hQ hR hP hD hS hl
  have hA : ∀ q, s.heap.size ≤ q → AD s q := fun _ h => h
  have hbA : ¬ AD s b := Nat.not_le.mpr hbl
  have hJ := hQ.1
  have hy : yI y := hJ.2.2.1
  have hf : yF y := hJ.2.2.2.2.2.2
  have hN : RelN iv v := hQ.2.2.2.2.1
  have hB3 : y_n y ≤ 12 ∧ y_cn y ≤ 4 ∧ y_rn y ≤ 5 := ⟨hy.1, hy.2.1, hy.2.2.1⟩
  have hc8 : hz.2.1 ≤ 8 := by rw [hQ.2.1.2.1]; exact hQ.2.1.2.2.1
  obtain ⟨x1, hx1⟩ : ∃ x, x = xs (nI (i + 1)).toNatClampNeg := ⟨_, rfl⟩
  have q := RL_chg (a := f_addT y rs (nI (1)) x1 (nI (54))) (b := F_adds y (F_beg v) (nI (1)) x1) hQ (st_addT (Or.inr ⟨rfl, rfl⟩) (RQ_beg hJ hQ.2.1 hQ.2.2.1).2)
  refine lv_aload_n hx hb dL_law_269 rfl (lv_at hl 2 rfl) ?_
  refine zScr (k := 1) hx hb hXs hbl hbA hS hl (by omega) hL (by decide) hx1 dL_law_270 dL_law_271 dL_law_272 dL_law_273 dL_law_274 ?_
  have hP : va_P D vwCl (CWd ct (xE g) K y rs bz iv lz sy xv hz (MW ct o v [])) H := hP
  refine zVIX [.int x1] [] (kX10_conclusion (kA K) y (kB K) rs (kD K) bz (kI K) iv (kL K) lz (kS K) sy (kX K) xv (kH K) (kHa K) hz (MW ct o v []) x1 hy hf hQ.2.1.1 hc8) hx hb hml hown hts (cwV 1 hts gL_law_X10_conclusion rfl rfl rfl (by decide +kernel) ⟨(Nat.le_of_ble_eq_true rfl), (Nat.le_of_ble_eq_true rfl)⟩) hK hP hD hS hA hX (va_recv hK hP (ci := 9) (q0 := 38) rfl rfl) rfl hl.1 rfl (Nat.le_of_ble_eq_true rfl) dL_law_275 ⟨rm1 (Nat.le_of_ble_eq_true rfl) hcc, rs1 (Nat.le_of_ble_eq_true rfl) hss⟩ (fun r1 _ H locs hr1 hP hD hS => ?_)
  have hP : va_P D vwCl (CWd ct (xE g) K ((f_addT y rs (nI (1)) x1 (nI (54))).2.1) ((f_addT y rs (nI (1)) x1 (nI (54))).2.2) bz iv lz sy xv ((F_set (hB hz y) (f_addT y rs (nI (1)) x1 (nI (54))).1).2) (MW ct o v [])) H := hP
  have hD : va_D (AD s) (CWd ct (xE g) K ((f_addT y rs (nI (1)) x1 (nI (54))).2.1) ((f_addT y rs (nI (1)) x1 (nI (54))).2.2) bz iv lz sy xv ((F_set (hB hz y) (f_addT y rs (nI (1)) x1 (nI (54))).1).2) (MW ct o v [])) := hD
  refine W.widen (k := cc + 40) (n := ss + 3000) (rm4 (Nat.le_of_ble_eq_true rfl)) (rs4 (Nat.le_of_ble_eq_true rfl)) ?_
  refine lv_aload_n hx hb dL_law_278 rfl (lv_at hl 1 rfl) ?_
  refine zScr (k := 1) hx hb hXs hbl hbA hS hl (by omega) hL (by decide) hx1 dL_law_279 dL_law_280 dL_law_281 dL_law_282 dL_law_283 ?_
  have hP := lwTo hP
  have hD := lwToD hD
  refine zVI [.int x1] [.int r1] (kX11_conclusion o v (CLd ct (xE g) K ((f_addT y rs (nI (1)) x1 (nI (54))).2.1) ((f_addT y rs (nI (1)) x1 (nI (54))).2.2) bz iv lz sy xv ((F_set (hB hz y) (f_addT y rs (nI (1)) x1 (nI (54))).1).2)) x1 y hB3 hJ.1 hQ.2.1.2.2.1) hx hb hml hown hts (cwV 1 hts gL_law_X11_conclusion rfl rfl rfl (by decide +kernel) ⟨(Nat.le_of_ble_eq_true rfl), (Nat.le_of_ble_eq_true rfl)⟩) hK hP hD hS hA (va_recv hK hP (ci := 10) (q0 := 0) rfl rfl) rfl hl.1 rfl (Nat.le_of_ble_eq_true rfl) dL_law_284 ⟨rm2 (Nat.le_of_ble_eq_true rfl) hcc, rs2 (Nat.le_of_ble_eq_true rfl) hss⟩ (fun r2 _ H locs hr2 hP hD hS => ?_)
  have hP := lwFr (show va_P D vwCl (MW ct o ((F_ch (F_adds y (F_beg v) (nI (1)) x1)).2) (CLd ct (xE g) K ((f_addT y rs (nI (1)) x1 (nI (54))).2.1) ((f_addT y rs (nI (1)) x1 (nI (54))).2.2) bz iv lz sy xv ((F_set (hB hz y) (f_addT y rs (nI (1)) x1 (nI (54))).1).2))) H from hP)
  have hD := lwFrD (show va_D (AD s) (MW ct o ((F_ch (F_adds y (F_beg v) (nI (1)) x1)).2) (CLd ct (xE g) K ((f_addT y rs (nI (1)) x1 (nI (54))).2.1) ((f_addT y rs (nI (1)) x1 (nI (54))).2.2) bz iv lz sy xv ((F_set (hB hz y) (f_addT y rs (nI (1)) x1 (nI (54))).1).2))) from hD)
  refine W.widen (k := cc + 64) (n := ss + 4000) (rm3 (Nat.le_of_ble_eq_true rfl)) (rs3 (Nat.le_of_ble_eq_true rfl)) ?_
  exact lv_icmp_eq (tgt := 1418) hx hb dL_law_287 (by decide) (fun _ => go ((f_addT y rs (nI (1)) x1 (nI (54))).2.1) ((f_addT y rs (nI (1)) x1 (nI (54))).2.2) bz iv lz sy xv tx ((F_set (hB hz y) (f_addT y rs (nI (1)) x1 (nI (54))).1).2) ((F_ch (F_adds y (F_beg v) (nI (1)) x1)).2) _ _ ls q.2 hR hP hD hS hl) (fun hne => absurd (hr1.trans (q.1.trans hr2.symm)) hne)
set_option maxHeartbeats 4000000 in
set_option maxRecDepth 100000 in
theorem law_c4 {D : va_G} {ct : Nat → ClassId} {g : XG} {p : Program} {l : Launch} {e : Env} {s : State} {m : MethodId} {b L : Nat} {xs : Nat → Int32} {below : List Frame} {meth : Method} {c : Code} {K : CK} {o : Nat → Nat} {i cc ss : Nat} {Q : State → Prop} (C : lwX D ct g p s m b L xs c) (hi : i + 3 < L) (hL : L ≤ 2048) (hcc : cc + 64 ≤ room_1.cells) (hss : ss + 4000 ≤ room_1.slots) (go : lwAt D ct g p l e s m b below meth c K o i (cc + 64) (ss + 4000) Q 1418) : lwAt D ct g p l e s m b below meth c K o i cc ss Q 292 := by
  obtain ⟨hx, hb, hml, hown, hts, hXs, hbl, hK, hX⟩ := C
  intro y rs bz iv lz sy xv tx hz v H locs ls hQ hR hP hD hS hl
  have hA : ∀ q, s.heap.size ≤ q → AD s q := fun _ h => h
  have hbA : ¬ AD s b := Nat.not_le.mpr hbl
  have hJ := hQ.1
  have hy : yI y := hJ.2.2.1
  have hf : yF y := hJ.2.2.2.2.2.2
  have hN : RelN iv v := hQ.2.2.2.2.1
  have hB3 : y_n y ≤ 12 ∧ y_cn y ≤ 4 ∧ y_rn y ≤ 5 := ⟨hy.1, hy.2.1, hy.2.2.1⟩
  have hc8 : hz.2.1 ≤ 8 := by rw [hQ.2.1.2.1]; exact hQ.2.1.2.2.1
  obtain ⟨x1, hx1⟩ : ∃ x, x = xs (nI (i + 1)).toNatClampNeg := ⟨_, rfl⟩
  have q := RL_chg (a := f_addC y rs x1) (b := F_addC y (F_beg v) x1) hQ (st_addC (RQ_beg hJ hQ.2.1 hQ.2.2.1).2)
  refine lv_aload_n hx hb dL_law_292 rfl (lv_at hl 2 rfl) ?_
  refine zScr (k := 1) hx hb hXs hbl hbA hS hl (by omega) hL (by decide) hx1 dL_law_293 dL_law_294 dL_law_295 dL_law_296 dL_law_297 ?_
  have hP : va_P D vwCl (CWd ct (xE g) K y rs bz iv lz sy xv hz (MW ct o v [])) H := hP
  refine zVIX [.int x1] [] (kX10_cart (kA K) y (kB K) rs (kD K) bz (kI K) iv (kL K) lz (kS K) sy (kX K) xv (kH K) (kHa K) hz (MW ct o v []) x1 hy hf hQ.2.1.1 hc8) hx hb hml hown hts (cwV 1 hts gL_law_X10_cart rfl rfl rfl (by decide +kernel) ⟨(Nat.le_of_ble_eq_true rfl), (Nat.le_of_ble_eq_true rfl)⟩) hK hP hD hS hA hX (va_recv hK hP (ci := 9) (q0 := 38) rfl rfl) rfl hl.1 rfl (Nat.le_of_ble_eq_true rfl) dL_law_298 ⟨rm1 (Nat.le_of_ble_eq_true rfl) hcc, rs1 (Nat.le_of_ble_eq_true rfl) hss⟩ (fun r1 _ H locs hr1 hP hD hS => ?_)
  have hP : va_P D vwCl (CWd ct (xE g) K ((f_addC y rs x1).2.1) ((f_addC y rs x1).2.2) bz iv lz sy xv ((F_set (hB hz y) (f_addC y rs x1).1).2) (MW ct o v [])) H := hP
  have hD : va_D (AD s) (CWd ct (xE g) K ((f_addC y rs x1).2.1) ((f_addC y rs x1).2.2) bz iv lz sy xv ((F_set (hB hz y) (f_addC y rs x1).1).2) (MW ct o v [])) := hD
  refine W.widen (k := cc + 40) (n := ss + 3000) (rm4 (Nat.le_of_ble_eq_true rfl)) (rs4 (Nat.le_of_ble_eq_true rfl)) ?_
  refine lv_aload_n hx hb dL_law_301 rfl (lv_at hl 1 rfl) ?_
  refine zScr (k := 1) hx hb hXs hbl hbA hS hl (by omega) hL (by decide) hx1 dL_law_302 dL_law_303 dL_law_304 dL_law_305 dL_law_306 ?_
  have hP := lwTo hP
  have hD := lwToD hD
  refine zVI [.int x1] [.int r1] (kX11_cart o v (CLd ct (xE g) K ((f_addC y rs x1).2.1) ((f_addC y rs x1).2.2) bz iv lz sy xv ((F_set (hB hz y) (f_addC y rs x1).1).2)) x1 y hB3 hJ.1 hQ.2.1.2.2.1) hx hb hml hown hts (cwV 1 hts gL_law_X11_cart rfl rfl rfl (by decide +kernel) ⟨(Nat.le_of_ble_eq_true rfl), (Nat.le_of_ble_eq_true rfl)⟩) hK hP hD hS hA (va_recv hK hP (ci := 10) (q0 := 0) rfl rfl) rfl hl.1 rfl (Nat.le_of_ble_eq_true rfl) dL_law_307 ⟨rm2 (Nat.le_of_ble_eq_true rfl) hcc, rs2 (Nat.le_of_ble_eq_true rfl) hss⟩ (fun r2 _ H locs hr2 hP hD hS => ?_)
  have hP := lwFr (show va_P D vwCl (MW ct o ((F_ch (F_addC y (F_beg v) x1)).2) (CLd ct (xE g) K ((f_addC y rs x1).2.1) ((f_addC y rs x1).2.2) bz iv lz sy xv ((F_set (hB hz y) (f_addC y rs x1).1).2))) H from hP)
  have hD := lwFrD (show va_D (AD s) (MW ct o ((F_ch (F_addC y (F_beg v) x1)).2) (CLd ct (xE g) K ((f_addC y rs x1).2.1) ((f_addC y rs x1).2.2) bz iv lz sy xv ((F_set (hB hz y) (f_addC y rs x1).1).2))) from hD)
  refine W.widen (k := cc + 64) (n := ss + 4000) (rm3 (Nat.le_of_ble_eq_true rfl)) (rs3 (Nat.le_of_ble_eq_true rfl)) ?_
  exact lv_icmp_eq (tgt := 1418) hx hb dL_law_310 (by decide) (fun _ => go ((f_addC y rs x1).2.1) ((f_addC y rs x1).2.2) bz iv lz sy xv tx ((F_set (hB hz y) (f_addC y rs x1).1).2) ((F_ch (F_addC y (F_beg v) x1)).2) _ _ ls q.2 hR hP hD hS hl) (fun hne => absurd (hr1.trans (q.1.trans hr2.symm)) hne)
