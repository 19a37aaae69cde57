/-! THE LAW: its branches -/
set_option maxHeartbeats 4000000 in
set_option maxRecDepth 100000 in
theorem law_c20 {D : va_G} {ct : Nat → ClassId} {g : XG} {p : Program} {l : Launch} {e : Env} {s : State} {m : MethodId} {b L : Nat} {xs : Nat → Int32} {below : List Frame} {meth : Method} {c : Code} {K : CK} {o : Nat → Nat} {i cc ss : Nat} {Q : State → Prop} (C : lwX D ct g p s m b L xs c) (hi : i + 3 < L) (hL : L ≤ 2048) (hcc : cc + 64 ≤ room_1.cells) (hss : ss + 4000 ≤ room_1.slots) (go : lwAt D ct g p l e s m b below meth c K o i (cc + 64) (ss + 4000) Q 1418) : lwAt D ct g p l e s m b below meth c K o i cc ss Q 828 := by
  obtain ⟨hx, hb, hml, hown, hts, hXs, hbl, hK, hX⟩ := C
  intro y rs bz iv lz sy xv tx hz v H locs ls hQ hR hP hD hS hl
  have hA : ∀ q, s.heap.size ≤ q → AD s q := fun _ h => h
  have hbA : ¬ AD s b := Nat.not_le.mpr hbl
  have hJ := hQ.1
  have hy : yI y := hJ.2.2.1
  have hf : yF y := hJ.2.2.2.2.2.2
  have hN : RelN iv v := hQ.2.2.2.2.1
  obtain ⟨x1, hx1⟩ : ∃ x, x = xs (nI (i + 1)).toNatClampNeg := ⟨_, rfl⟩
  obtain ⟨x2, hx2⟩ : ∃ x, x = xs (nI (i + 2)).toNatClampNeg := ⟨_, rfl⟩
  refine lv_aload_n hx hb dL_law_828 rfl (lv_at hl 2 rfl) ?_
  refine zScr (k := 1) hx hb hXs hbl hbA hS hl (by omega) hL (by decide) hx1 dL_law_829 dL_law_830 dL_law_831 dL_law_832 dL_law_833 ?_
  refine zScr (k := 2) hx hb hXs hbl hbA hS hl (by omega) hL (by decide) hx2 dL_law_834 dL_law_835 dL_law_836 dL_law_837 dL_law_838 ?_
  refine zBoo hx hb dL_law_839 dL_law_842 dL_law_843 dL_law_846 ?_
  have hP : va_P D vwCl (CWd ct (xE g) K y rs bz iv lz sy xv hz (MW ct o v [])) H := hP
  refine zVFX [.int x1, .int (zbl x2)] [] (kX10_axle (kA K) y (kB K) rs (kD K) bz (kI K) iv (kL K) lz (kS K) sy (kX K) xv (kH K) (kHa K) hz (MW ct o v []) x1 (zbl x2) hy hf) hx hb hml hown hts (cwV 2 hts gL_law_X10_axle rfl rfl rfl (by decide +kernel) ⟨(Nat.le_of_ble_eq_true rfl), (Nat.le_of_ble_eq_true rfl)⟩) hK hP hD hS hA hX (va_recv hK hP (ci := 9) (q0 := 38) rfl rfl) rfl hl.1 rfl (Nat.le_of_ble_eq_true rfl) dL_law_847 ⟨rm1 (Nat.le_of_ble_eq_true rfl) hcc, rs1 (Nat.le_of_ble_eq_true rfl) hss⟩ (fun r1 _ H locs hr1 hP hD hS => ?_)
  have hP : va_P D vwCl (CWd ct (xE g) K y rs bz iv lz sy xv hz (MW ct o v [])) H := hP
  have hD : va_D (AD s) (CWd ct (xE g) K y rs bz iv lz sy xv hz (MW ct o v [])) := hD
  refine W.widen (k := cc + 40) (n := ss + 3000) (rm4 (Nat.le_of_ble_eq_true rfl)) (rs4 (Nat.le_of_ble_eq_true rfl)) ?_
  have hr1 : r1 = a_axle y x1 (zbl x2) := hr1
  subst hr1
  refine lv_f2d hx hb dL_law_850 (axle_n hy x1 (zbl x2)) ?_
  obtain ⟨P, hPv⟩ : ∃ P, P = FP.f2d (a_axle y x1 (zbl x2)) := ⟨_, rfl⟩
  rw [← hPv]
  refine lv_dstore (lv' := [(4, .double P), (3, .int (nI i)), (2, .ref (o 0)), (1, .ref (kX K 0)), (0, .ref b)]) hx hb dL_law_851 hl (by decide) rfl (fun ls hl => ?_)
  have hl0 := lv_sub hl [1, 2, 3, 4] rfl
  have hl0 : lv_has ls 8 [(3, .int (nI i)), (2, .ref (o 0)), (1, .ref (kX K 0)), (0, .ref b)] := hl0
  refine lv_aload_n hx hb dL_law_853 rfl (lv_at hl0 1 rfl) ?_
  refine zScr (k := 1) hx hb hXs hbl hbA hS hl0 (by omega) hL (by decide) hx1 dL_law_854 dL_law_855 dL_law_856 dL_law_857 dL_law_858 ?_
  refine zScr (k := 2) hx hb hXs hbl hbA hS hl0 (by omega) hL (by decide) hx2 dL_law_859 dL_law_860 dL_law_861 dL_law_862 dL_law_863 ?_
  refine zBoo hx hb dL_law_864 dL_law_867 dL_law_868 dL_law_871 ?_
  have hP := lwTo hP
  have hD := lwToD hD
  refine zVF [.int x1, .int (zbl x2)] [] (kX11_axle o v (CLd ct (xE g) K y rs bz iv lz sy xv hz) x1 (zbl x2) y hy hJ.1) hx hb hml hown hts (cwV 2 hts gL_law_X11_axle rfl rfl rfl (by decide +kernel) ⟨(Nat.le_of_ble_eq_true rfl), (Nat.le_of_ble_eq_true rfl)⟩) hK hP hD hS hA (va_recv hK hP (ci := 10) (q0 := 0) rfl rfl) rfl hl0.1 rfl (Nat.le_of_ble_eq_true rfl) dL_law_872 ⟨rm2 (Nat.le_of_ble_eq_true rfl) hcc, rs2 (Nat.le_of_ble_eq_true rfl) hss⟩ (fun r2 _ H locs hr2 hP hD hS => ?_)
  have hP := lwFr (show va_P D vwCl (MW ct o v (CLd ct (xE g) K y rs bz iv lz sy xv hz)) H from hP)
  have hD := lwFrD (show va_D (AD s) (MW ct o v (CLd ct (xE g) K y rs bz iv lz sy xv hz)) from hD)
  refine W.widen (k := cc + 64) (n := ss + 4000) (rm3 (Nat.le_of_ble_eq_true rfl)) (rs3 (Nat.le_of_ble_eq_true rfl)) ?_
  have hr2 : r2 = a_axle y x1 (zbl x2) := hr2
  subst hr2
  refine lv_f2d hx hb dL_law_875 (axle_n hy x1 (zbl x2)) ?_
  rw [← hPv]
  refine lv_dstore (lv' := [(6, .double P), (4, .double P), (3, .int (nI i)), (2, .ref (o 0)), (1, .ref (kX K 0)), (0, .ref b)]) hx hb dL_law_876 hl (by decide) rfl (fun ls hl => ?_)
  exact zDeq (k4 := 1) (k6 := 0) (tgt := 1418) hx hb hl rfl rfl dL_law_878 dL_law_880 dL_law_882 dL_law_883 dL_law_886 dL_law_888 dL_law_890 dL_law_891 dL_law_894 dL_law_896 dL_law_898 dL_law_899 dL_law_904 (by decide) (go y rs bz iv lz sy xv tx hz v _ _ ls hQ hR hP hD hS (lv_sub hl [2, 3, 4, 5] rfl))
set_option maxHeartbeats 4000000 in
set_option maxRecDepth 100000 in
theorem law_c21 {D : va_G} {ct : Nat → ClassId} {g : XG} {p : Program} {l : Launch} {e : Env} {s : State} {m : MethodId} {b L : Nat} {xs : Nat → Int32} {below : List Frame} {meth : Method} {c : Code} {K : CK} {o : Nat → Nat} {i cc ss : Nat} {Q : State → Prop} (C : lwX D ct g p s m b L xs c) (hi : i + 3 < L) (hL : L ≤ 2048) (hcc : cc + 64 ≤ room_1.cells) (hss : ss + 4000 ≤ room_1.slots) (go : lwAt D ct g p l e s m b below meth c K o i (cc + 64) (ss + 4000) Q 1418) : lwAt D ct g p l e s m b below meth c K o i cc ss Q 907 := by
  obtain ⟨hx, hb, hml, hown, hts, hXs, hbl, hK, hX⟩ := C
  intro y rs bz iv lz sy xv tx hz v H locs ls hQ hR hP hD hS hl
  have hA : ∀ q, s.heap.size ≤ q → AD s q := fun _ h => h
  have hbA : ¬ AD s b := Nat.not_le.mpr hbl
  have hJ := hQ.1
  have hy : yI y := hJ.2.2.1
  have hf : yF y := hJ.2.2.2.2.2.2
  have hN : RelN iv v := hQ.2.2.2.2.1
  obtain ⟨x1, hx1⟩ : ∃ x, x = xs (nI (i + 1)).toNatClampNeg := ⟨_, rfl⟩
  obtain ⟨x2, hx2⟩ : ∃ x, x = xs (nI (i + 2)).toNatClampNeg := ⟨_, rfl⟩
  refine lv_aload_n hx hb dL_law_907 rfl (lv_at hl 2 rfl) ?_
  refine zScr (k := 1) hx hb hXs hbl hbA hS hl (by omega) hL (by decide) hx1 dL_law_908 dL_law_909 dL_law_910 dL_law_911 dL_law_912 ?_
  refine zScr (k := 2) hx hb hXs hbl hbA hS hl (by omega) hL (by decide) hx2 dL_law_913 dL_law_914 dL_law_915 dL_law_916 dL_law_917 ?_
  refine zBoo hx hb dL_law_918 dL_law_921 dL_law_922 dL_law_925 ?_
  have hP : va_P D vwCl (CWd ct (xE g) K y rs bz iv lz sy xv hz (MW ct o v [])) H := hP
  refine zVFX [.int x1, .int (zbl x2)] [] (kX10_wear (kA K) y (kB K) rs (kD K) bz (kI K) iv (kL K) lz (kS K) sy (kX K) xv (kH K) (kHa K) hz (MW ct o v []) x1 (zbl x2) hy hf) hx hb hml hown hts (cwV 2 hts gL_law_X10_wear rfl rfl rfl (by decide +kernel) ⟨(Nat.le_of_ble_eq_true rfl), (Nat.le_of_ble_eq_true rfl)⟩) hK hP hD hS hA hX (va_recv hK hP (ci := 9) (q0 := 38) rfl rfl) rfl hl.1 rfl (Nat.le_of_ble_eq_true rfl) dL_law_926 ⟨rm1 (Nat.le_of_ble_eq_true rfl) hcc, rs1 (Nat.le_of_ble_eq_true rfl) hss⟩ (fun r1 _ H locs hr1 hP hD hS => ?_)
  have hP : va_P D vwCl (CWd ct (xE g) K y rs bz iv lz sy xv hz (MW ct o v [])) H := hP
  have hD : va_D (AD s) (CWd ct (xE g) K y rs bz iv lz sy xv hz (MW ct o v [])) := hD
  refine W.widen (k := cc + 40) (n := ss + 3000) (rm4 (Nat.le_of_ble_eq_true rfl)) (rs4 (Nat.le_of_ble_eq_true rfl)) ?_
  have hr1 : r1 = a_wear y x1 (zbl x2) := hr1
  subst hr1
  refine lv_f2d hx hb dL_law_929 (wear_n hy hf x1 (zbl x2)) ?_
  obtain ⟨P, hPv⟩ : ∃ P, P = FP.f2d (a_wear y x1 (zbl x2)) := ⟨_, rfl⟩
  rw [← hPv]
  refine lv_dstore (lv' := [(4, .double P), (3, .int (nI i)), (2, .ref (o 0)), (1, .ref (kX K 0)), (0, .ref b)]) hx hb dL_law_930 hl (by decide) rfl (fun ls hl => ?_)
  have hl0 := lv_sub hl [1, 2, 3, 4] rfl
  have hl0 : lv_has ls 8 [(3, .int (nI i)), (2, .ref (o 0)), (1, .ref (kX K 0)), (0, .ref b)] := hl0
  refine lv_aload_n hx hb dL_law_932 rfl (lv_at hl0 1 rfl) ?_
  refine zScr (k := 1) hx hb hXs hbl hbA hS hl0 (by omega) hL (by decide) hx1 dL_law_933 dL_law_934 dL_law_935 dL_law_936 dL_law_937 ?_
  refine zScr (k := 2) hx hb hXs hbl hbA hS hl0 (by omega) hL (by decide) hx2 dL_law_938 dL_law_939 dL_law_940 dL_law_941 dL_law_942 ?_
  refine zBoo hx hb dL_law_943 dL_law_946 dL_law_947 dL_law_950 ?_
  have hP := lwTo hP
  have hD := lwToD hD
  refine zVF [.int x1, .int (zbl x2)] [] (kX11_wear o v (CLd ct (xE g) K y rs bz iv lz sy xv hz) x1 (zbl x2) y hy hJ.1 hJ.2.1.1) hx hb hml hown hts (cwV 2 hts gL_law_X11_wear rfl rfl rfl (by decide +kernel) ⟨(Nat.le_of_ble_eq_true rfl), (Nat.le_of_ble_eq_true rfl)⟩) hK hP hD hS hA (va_recv hK hP (ci := 10) (q0 := 0) rfl rfl) rfl hl0.1 rfl (Nat.le_of_ble_eq_true rfl) dL_law_951 ⟨rm2 (Nat.le_of_ble_eq_true rfl) hcc, rs2 (Nat.le_of_ble_eq_true rfl) hss⟩ (fun r2 _ H locs hr2 hP hD hS => ?_)
  have hP := lwFr (show va_P D vwCl (MW ct o v (CLd ct (xE g) K y rs bz iv lz sy xv hz)) H from hP)
  have hD := lwFrD (show va_D (AD s) (MW ct o v (CLd ct (xE g) K y rs bz iv lz sy xv hz)) from hD)
  refine W.widen (k := cc + 64) (n := ss + 4000) (rm3 (Nat.le_of_ble_eq_true rfl)) (rs3 (Nat.le_of_ble_eq_true rfl)) ?_
  have hr2 : r2 = a_wear y x1 (zbl x2) := hr2
  subst hr2
  refine lv_f2d hx hb dL_law_954 (wear_n hy hf x1 (zbl x2)) ?_
  rw [← hPv]
  refine lv_dstore (lv' := [(6, .double P), (4, .double P), (3, .int (nI i)), (2, .ref (o 0)), (1, .ref (kX K 0)), (0, .ref b)]) hx hb dL_law_955 hl (by decide) rfl (fun ls hl => ?_)
  exact zDeq (k4 := 1) (k6 := 0) (tgt := 1418) hx hb hl rfl rfl dL_law_957 dL_law_959 dL_law_961 dL_law_962 dL_law_965 dL_law_967 dL_law_969 dL_law_970 dL_law_973 dL_law_975 dL_law_977 dL_law_978 dL_law_983 (by decide) (go y rs bz iv lz sy xv tx hz v _ _ ls hQ hR hP hD hS (lv_sub hl [2, 3, 4, 5] rfl))
set_option maxHeartbeats 4000000 in
set_option maxRecDepth 100000 in
theorem law_c22 {D : va_G} {ct : Nat → ClassId} {g : XG} {p : Program} {l : Launch} {e : Env} {s : State} {m : MethodId} {b L : Nat} {xs : Nat → Int32} {below : List Frame} {meth : Method} {c : Code} {K : CK} {o : Nat → Nat} {i cc ss : Nat} {Q : State → Prop} (C : lwX D ct g p s m b L xs c) (hi : i + 3 < L) (hL : L ≤ 2048) (hcc : cc + 64 ≤ room_1.cells) (hss : ss + 4000 ≤ room_1.slots) (go : lwAt D ct g p l e s m b below meth c K o i (cc + 64) (ss + 4000) Q 1418) : lwAt D ct g p l e s m b below meth c K o i cc ss Q 986 := by
  obtain ⟨hx, hb, hml, hown, hts, hXs, hbl, hK, hX⟩ := C
  intro y rs bz iv lz sy xv tx hz v H locs ls hQ hR hP hD hS hl
  have hA : ∀ q, s.heap.size ≤ q → AD s q := fun _ h => h
  have hbA : ¬ AD s b := Nat.not_le.mpr hbl
  have hJ := hQ.1
  have hy : yI y := hJ.2.2.1
  have hf : yF y := hJ.2.2.2.2.2.2
  have hN : RelN iv v := hQ.2.2.2.2.1
  refine lv_aload_n hx hb dL_law_986 rfl (lv_at hl 2 rfl) ?_
  have hP : va_P D vwCl (CWd ct (xE g) K y rs bz iv lz sy xv hz (MW ct o v [])) H := hP
  refine zVFX [] [] (kX10_tolls (kA K) y (kB K) rs (kD K) bz (kI K) iv (kL K) lz (kS K) sy (kX K) xv (kH K) (kHa K) hz (MW ct o v []) ) hx hb hml hown hts (cwV 0 hts gL_law_X10_tolls rfl rfl rfl (by decide +kernel) ⟨(Nat.le_of_ble_eq_true rfl), (Nat.le_of_ble_eq_true rfl)⟩) hK hP hD hS hA hX (va_recv hK hP (ci := 9) (q0 := 38) rfl rfl) rfl hl.1 rfl (Nat.le_of_ble_eq_true rfl) dL_law_987 ⟨rm1 (Nat.le_of_ble_eq_true rfl) hcc, rs1 (Nat.le_of_ble_eq_true rfl) hss⟩ (fun r1 _ H locs hr1 hP hD hS => ?_)
  have hP : va_P D vwCl (CWd ct (xE g) K y rs bz iv lz sy xv hz (MW ct o v [])) H := hP
  have hD : va_D (AD s) (CWd ct (xE g) K y rs bz iv lz sy xv hz (MW ct o v [])) := hD
  refine W.widen (k := cc + 40) (n := ss + 3000) (rm4 (Nat.le_of_ble_eq_true rfl)) (rs4 (Nat.le_of_ble_eq_true rfl)) ?_
  have hr1 : r1 = y_tl y := hr1
  subst hr1
  refine lv_f2d hx hb dL_law_990 (nD_n64 (nD_f2d hf.2)) ?_
  obtain ⟨P, hPv⟩ : ∃ P, P = FP.f2d (y_tl y) := ⟨_, rfl⟩
  rw [← hPv]
  refine lv_dstore (lv' := [(4, .double P), (3, .int (nI i)), (2, .ref (o 0)), (1, .ref (kX K 0)), (0, .ref b)]) hx hb dL_law_991 hl (by decide) rfl (fun ls hl => ?_)
  have hl0 := lv_sub hl [1, 2, 3, 4] rfl
  have hl0 : lv_has ls 8 [(3, .int (nI i)), (2, .ref (o 0)), (1, .ref (kX K 0)), (0, .ref b)] := hl0
  refine lv_aload_n hx hb dL_law_993 rfl (lv_at hl0 1 rfl) ?_
  have hP := lwTo hP
  have hD := lwToD hD
  refine zVF [] [] (kX11_tolls o v (CLd ct (xE g) K y rs bz iv lz sy xv hz) ) hx hb hml hown hts (cwV 0 hts gL_law_X11_tolls rfl rfl rfl (by decide +kernel) ⟨(Nat.le_of_ble_eq_true rfl), (Nat.le_of_ble_eq_true rfl)⟩) hK hP hD hS hA (va_recv hK hP (ci := 10) (q0 := 0) rfl rfl) rfl hl0.1 rfl (Nat.le_of_ble_eq_true rfl) dL_law_994 ⟨rm2 (Nat.le_of_ble_eq_true rfl) hcc, rs2 (Nat.le_of_ble_eq_true rfl) hss⟩ (fun r2 _ H locs hr2 hP hD hS => ?_)
  have hP := lwFr (show va_P D vwCl (MW ct o v (CLd ct (xE g) K y rs bz iv lz sy xv hz)) H from hP)
  have hD := lwFrD (show va_D (AD s) (MW ct o v (CLd ct (xE g) K y rs bz iv lz sy xv hz)) from hD)
  refine W.widen (k := cc + 64) (n := ss + 4000) (rm3 (Nat.le_of_ble_eq_true rfl)) (rs3 (Nat.le_of_ble_eq_true rfl)) ?_
  have hr2 : r2 = y_tl y := hr2.trans hJ.2.1.2.2.1
  subst hr2
  refine lv_f2d hx hb dL_law_997 (nD_n64 (nD_f2d hf.2)) ?_
  rw [← hPv]
  refine lv_dstore (lv' := [(6, .double P), (4, .double P), (3, .int (nI i)), (2, .ref (o 0)), (1, .ref (kX K 0)), (0, .ref b)]) hx hb dL_law_998 hl (by decide) rfl (fun ls hl => ?_)
  exact zDeq (k4 := 1) (k6 := 0) (tgt := 1418) hx hb hl rfl rfl dL_law_1000 dL_law_1002 dL_law_1004 dL_law_1005 dL_law_1008 dL_law_1010 dL_law_1012 dL_law_1013 dL_law_1016 dL_law_1018 dL_law_1020 dL_law_1021 dL_law_1026 (by decide) (go y rs bz iv lz sy xv tx hz v _ _ ls hQ hR hP hD hS (lv_sub hl [2, 3, 4, 5] rfl))
set_option maxHeartbeats 4000000 in
set_option maxRecDepth 100000 in
theorem law_c23 {D : va_G} {ct : Nat → ClassId} {g : XG} {p : Program} {l : Launch} {e : Env} {s : State} {m : MethodId} {b L : Nat} {xs : Nat → Int32} {below : List Frame} {meth : Method} {c : Code} {K : CK} {o : Nat → Nat} {i cc ss : Nat} {Q : State → Prop} (C : lwX D ct g p s m b L xs c) (hi : i + 3 < L) (hL : L ≤ 2048) (hcc : cc + 64 ≤ room_1.cells) (hss : ss + 4000 ≤ room_1.slots) (go : lwAt D ct g p l e s m b below meth c K o i (cc + 64) (ss + 4000) Q 1418) : lwAt D ct g p l e s m b below meth c K o i cc ss Q 1029 := by
  obtain ⟨hx, hb, hml, hown, hts, hXs, hbl, hK, hX⟩ := C
  intro y rs bz iv lz sy xv tx hz v H locs ls hQ hR hP hD hS hl
  have hA : ∀ q, s.heap.size ≤ q → AD s q := fun _ h => h
  have hbA : ¬ AD s b := Nat.not_le.mpr hbl
  have hJ := hQ.1
  have hy : yI y := hJ.2.2.1
  have hf : yF y := hJ.2.2.2.2.2.2
  have hN : RelN iv v := hQ.2.2.2.2.1
  have hB3 : y_n y ≤ 12 ∧ y_cn y ≤ 4 ∧ y_rn y ≤ 5 := ⟨hy.1, hy.2.1, hy.2.2.1⟩
  obtain ⟨x1, hx1⟩ : ∃ x, x = xs (nI (i + 1)).toNatClampNeg := ⟨_, rfl⟩
  refine lv_aload_n hx hb dL_law_1029 rfl (lv_at hl 2 rfl) ?_
  refine zScr (k := 1) hx hb hXs hbl hbA hS hl (by omega) hL (by decide) hx1 dL_law_1030 dL_law_1031 dL_law_1032 dL_law_1033 dL_law_1034 ?_
  have hP : va_P D vwCl (CWd ct (xE g) K y rs bz iv lz sy xv hz (MW ct o v [])) H := hP
  refine zVIX [.int x1] [] (kX10_best (kA K) y (kB K) rs (kD K) bz (kI K) iv (kL K) lz (kS K) sy (kX K) xv (kH K) (kHa K) hz (MW ct o v []) x1 hy hf) hx hb hml hown hts (cwV 1 hts gL_law_X10_best rfl rfl rfl (by decide +kernel) ⟨(Nat.le_of_ble_eq_true rfl), (Nat.le_of_ble_eq_true rfl)⟩) hK hP hD hS hA hX (va_recv hK hP (ci := 9) (q0 := 38) rfl rfl) rfl hl.1 rfl (Nat.le_of_ble_eq_true rfl) dL_law_1035 ⟨rm1 (Nat.le_of_ble_eq_true rfl) hcc, rs1 (Nat.le_of_ble_eq_true rfl) hss⟩ (fun r1 _ H locs hr1 hP hD hS => ?_)
  have hP : va_P D vwCl (CWd ct (xE g) K y rs ((F_bstC y bz x1).2) iv lz sy xv hz (MW ct o v [])) H := hP
  have hD : va_D (AD s) (CWd ct (xE g) K y rs ((F_bstC y bz x1).2) iv lz sy xv hz (MW ct o v [])) := hD
  refine W.widen (k := cc + 40) (n := ss + 3000) (rm4 (Nat.le_of_ble_eq_true rfl)) (rs4 (Nat.le_of_ble_eq_true rfl)) ?_
  refine lv_aload_n hx hb dL_law_1038 rfl (lv_at hl 1 rfl) ?_
  refine zScr (k := 1) hx hb hXs hbl hbA hS hl (by omega) hL (by decide) hx1 dL_law_1039 dL_law_1040 dL_law_1041 dL_law_1042 dL_law_1043 ?_
  have hP := lwTo hP
  have hD := lwToD hD
  refine zVI [.int x1] [.int r1] (kX11_best o v (CLd ct (xE g) K y rs ((F_bstC y bz x1).2) iv lz sy xv hz) x1 y hB3 hJ.1 (fun c hc => gN_6 hy hJ.2.2.2.1 hc)) hx hb hml hown hts (cwV 1 hts gL_law_X11_best rfl rfl rfl (by decide +kernel) ⟨(Nat.le_of_ble_eq_true rfl), (Nat.le_of_ble_eq_true rfl)⟩) hK hP hD hS hA (va_recv hK hP (ci := 10) (q0 := 0) rfl rfl) rfl hl.1 rfl (Nat.le_of_ble_eq_true rfl) dL_law_1044 ⟨rm2 (Nat.le_of_ble_eq_true rfl) hcc, rs2 (Nat.le_of_ble_eq_true rfl) hss⟩ (fun r2 _ H locs hr2 hP hD hS => ?_)
  have hP := lwFr (show va_P D vwCl (MW ct o ((F_best y v x1).2) (CLd ct (xE g) K y rs ((F_bstC y bz x1).2) iv lz sy xv hz)) H from hP)
  have hD := lwFrD (show va_D (AD s) (MW ct o ((F_best y v x1).2) (CLd ct (xE g) K y rs ((F_bstC y bz x1).2) iv lz sy xv hz)) from hD)
  refine W.widen (k := cc + 64) (n := ss + 4000) (rm3 (Nat.le_of_ble_eq_true rfl)) (rs3 (Nat.le_of_ble_eq_true rfl)) ?_
  exact lv_icmp_eq (tgt := 1418) hx hb dL_law_1047 (by decide) (fun _ => go y rs ((F_bstC y bz x1).2) iv lz sy xv tx hz ((F_best y v x1).2) _ _ ls (LQ_best hQ x1) hR hP hD hS hl) (fun hne => absurd (hr1.trans ((best_eq hy hJ.2.2.2.1).trans hr2.symm)) hne)
set_option maxHeartbeats 4000000 in
set_option maxRecDepth 100000 in
theorem law_c24 {D : va_G} {ct : Nat → ClassId} {g : XG} {p : Program} {l : Launch} {e : Env} {s : State} {m : MethodId} {b L : Nat} {xs : Nat → Int32} {below : List Frame} {meth : Method} {c : Code} {K : CK} {o : Nat → Nat} {i cc ss : Nat} {Q : State → Prop} (C : lwX D ct g p s m b L xs c) (hi : i + 3 < L) (hL : L ≤ 2048) (hcc : cc + 64 ≤ room_1.cells) (hss : ss + 4000 ≤ room_1.slots) (go : lwAt D ct g p l e s m b below meth c K o i (cc + 64) (ss + 4000) Q 1418) : lwAt D ct g p l e s m b below meth c K o i cc ss Q 1052 := by
  obtain ⟨hx, hb, hml, hown, hts, hXs, hbl, hK, hX⟩ := C
  intro y rs bz iv lz sy xv tx hz v H locs ls hQ hR hP hD hS hl
  have hA : ∀ q, s.heap.size ≤ q → AD s q := fun _ h => h
  have hbA : ¬ AD s b := Nat.not_le.mpr hbl
  have hJ := hQ.1
  have hy : yI y := hJ.2.2.1
  have hf : yF y := hJ.2.2.2.2.2.2
  have hN : RelN iv v := hQ.2.2.2.2.1
  have hB3 : y_n y ≤ 12 ∧ y_cn y ≤ 4 ∧ y_rn y ≤ 5 := ⟨hy.1, hy.2.1, hy.2.2.1⟩
  obtain ⟨x1, hx1⟩ : ∃ x, x = xs (nI (i + 1)).toNatClampNeg := ⟨_, rfl⟩
  refine lv_aload_n hx hb dL_law_1052 rfl (lv_at hl 2 rfl) ?_
  refine zScr (k := 1) hx hb hXs hbl hbA hS hl (by omega) hL (by decide) hx1 dL_law_1053 dL_law_1054 dL_law_1055 dL_law_1056 dL_law_1057 ?_
  have hP : va_P D vwCl (CWd ct (xE g) K y rs bz iv lz sy xv hz (MW ct o v [])) H := hP
  refine zVIX [.int x1] [] (kX10_bestAgain (kA K) y (kB K) rs (kD K) bz (kI K) iv (kL K) lz (kS K) sy (kX K) xv (kH K) (kHa K) hz (MW ct o v []) x1 hy hf (fun _ => wB_gat hJ.2.2.2.2.1)) hx hb hml hown hts (cwV 1 hts gL_law_X10_bestAgain rfl rfl rfl (by decide +kernel) ⟨(Nat.le_of_ble_eq_true rfl), (Nat.le_of_ble_eq_true rfl)⟩) hK hP hD hS hA hX (va_recv hK hP (ci := 9) (q0 := 38) rfl rfl) rfl hl.1 rfl (Nat.le_of_ble_eq_true rfl) dL_law_1058 ⟨rm1 (Nat.le_of_ble_eq_true rfl) hcc, rs1 (Nat.le_of_ble_eq_true rfl) hss⟩ (fun r1 _ H locs hr1 hP hD hS => ?_)
  have hP : va_P D vwCl (CWd ct (xE g) K y rs ((F_bsgC y bz x1).2) iv lz sy xv hz (MW ct o v [])) H := hP
  have hD : va_D (AD s) (CWd ct (xE g) K y rs ((F_bsgC y bz x1).2) iv lz sy xv hz (MW ct o v [])) := hD
  refine W.widen (k := cc + 40) (n := ss + 3000) (rm4 (Nat.le_of_ble_eq_true rfl)) (rs4 (Nat.le_of_ble_eq_true rfl)) ?_
  refine lv_aload_n hx hb dL_law_1061 rfl (lv_at hl 1 rfl) ?_
  refine zScr (k := 1) hx hb hXs hbl hbA hS hl (by omega) hL (by decide) hx1 dL_law_1062 dL_law_1063 dL_law_1064 dL_law_1065 dL_law_1066 ?_
  have hP := lwTo hP
  have hD := lwToD hD
  refine zVI [.int x1] [.int r1] (kX11_bestAgain o v (CLd ct (xE g) K y rs ((F_bsgC y bz x1).2) iv lz sy xv hz) x1 y hB3 hJ.1 (fun c hc => gN_6 hy hJ.2.2.2.1 hc)) hx hb hml hown hts (cwV 1 hts gL_law_X11_bestAgain rfl rfl rfl (by decide +kernel) ⟨(Nat.le_of_ble_eq_true rfl), (Nat.le_of_ble_eq_true rfl)⟩) hK hP hD hS hA (va_recv hK hP (ci := 10) (q0 := 0) rfl rfl) rfl hl.1 rfl (Nat.le_of_ble_eq_true rfl) dL_law_1067 ⟨rm2 (Nat.le_of_ble_eq_true rfl) hcc, rs2 (Nat.le_of_ble_eq_true rfl) hss⟩ (fun r2 _ H locs hr2 hP hD hS => ?_)
  have hP := lwFr (show va_P D vwCl (MW ct o ((F_best y v x1).2) (CLd ct (xE g) K y rs ((F_bsgC y bz x1).2) iv lz sy xv hz)) H from hP)
  have hD := lwFrD (show va_D (AD s) (MW ct o ((F_best y v x1).2) (CLd ct (xE g) K y rs ((F_bsgC y bz x1).2) iv lz sy xv hz)) from hD)
  refine W.widen (k := cc + 64) (n := ss + 4000) (rm3 (Nat.le_of_ble_eq_true rfl)) (rs3 (Nat.le_of_ble_eq_true rfl)) ?_
  exact lv_icmp_eq (tgt := 1418) hx hb dL_law_1070 (by decide) (fun _ => go y rs ((F_bsgC y bz x1).2) iv lz sy xv tx hz ((F_best y v x1).2) _ _ ls (LQ_best hQ x1) hR hP hD hS hl) (fun hne => absurd (hr1.trans ((bestAgain_eq hJ.2.2).trans hr2.symm)) hne)
set_option maxHeartbeats 4000000 in
set_option maxRecDepth 100000 in
theorem law_c25 {D : va_G} {ct : Nat → ClassId} {g : XG} {p : Program} {l : Launch} {e : Env} {s : State} {m : MethodId} {b L : Nat} {xs : Nat → Int32} {below : List Frame} {meth : Method} {c : Code} {K : CK} {o : Nat → Nat} {i cc ss : Nat} {Q : State → Prop} (C : lwX D ct g p s m b L xs c) (hi : i + 3 < L) (hL : L ≤ 2048) (hcc : cc + 64 ≤ room_1.cells) (hss : ss + 4000 ≤ room_1.slots) (go : lwAt D ct g p l e s m b below meth c K o i (cc + 64) (ss + 4000) Q 1418) : lwAt D ct g p l e s m b below meth c K o i cc ss Q 1075 := by
  obtain ⟨hx, hb, hml, hown, hts, hXs, hbl, hK, hX⟩ := C
  intro y rs bz iv lz sy xv tx hz v H locs ls hQ hR hP hD hS hl
  have hA : ∀ q, s.heap.size ≤ q → AD s q := fun _ h => h
  have hbA : ¬ AD s b := Nat.not_le.mpr hbl
  have hJ := hQ.1
  have hy : yI y := hJ.2.2.1
  have hf : yF y := hJ.2.2.2.2.2.2
  have hN : RelN iv v := hQ.2.2.2.2.1
  obtain ⟨x1, hx1⟩ : ∃ x, x = xs (nI (i + 1)).toNatClampNeg := ⟨_, rfl⟩
  obtain ⟨x2, hx2⟩ : ∃ x, x = xs (nI (i + 2)).toNatClampNeg := ⟨_, rfl⟩
  have q := RL_cou hQ x1 x2
  refine lv_aload_n hx hb dL_law_1075 rfl (lv_at hl 2 rfl) ?_
  refine zScr (k := 1) hx hb hXs hbl hbA hS hl (by omega) hL (by decide) hx1 dL_law_1076 dL_law_1077 dL_law_1078 dL_law_1079 dL_law_1080 ?_
  refine zScr (k := 2) hx hb hXs hbl hbA hS hl (by omega) hL (by decide) hx2 dL_law_1081 dL_law_1082 dL_law_1083 dL_law_1084 dL_law_1085 ?_
  have hP : va_P D vwCl (CWd ct (xE g) K y rs bz iv lz sy xv hz (MW ct o v [])) H := hP
  refine zVIX [.int x1, .int x2] [] (kX10_could (kA K) y (kB K) rs (kD K) bz (kI K) iv (kL K) lz (kS K) sy (kX K) xv (kH K) (kHa K) hz (MW ct o v []) x1 x2 hy hf) hx hb hml hown hts (cwV 2 hts gL_law_X10_could rfl rfl rfl (by decide +kernel) ⟨(Nat.le_of_ble_eq_true rfl), (Nat.le_of_ble_eq_true rfl)⟩) hK hP hD hS hA hX (va_recv hK hP (ci := 9) (q0 := 38) rfl rfl) rfl hl.1 rfl (Nat.le_of_ble_eq_true rfl) dL_law_1086 ⟨rm1 (Nat.le_of_ble_eq_true rfl) hcc, rs1 (Nat.le_of_ble_eq_true rfl) hss⟩ (fun r1 _ H locs hr1 hP hD hS => ?_)
  have hP : va_P D vwCl (CWd ct (xE g) K y rs bz iv lz sy xv hz (MW ct o v [])) H := hP
  have hD : va_D (AD s) (CWd ct (xE g) K y rs bz iv lz sy xv hz (MW ct o v [])) := hD
  refine W.widen (k := cc + 40) (n := ss + 3000) (rm4 (Nat.le_of_ble_eq_true rfl)) (rs4 (Nat.le_of_ble_eq_true rfl)) ?_
  refine lv_aload_n hx hb dL_law_1089 rfl (lv_at hl 1 rfl) ?_
  refine zScr (k := 1) hx hb hXs hbl hbA hS hl (by omega) hL (by decide) hx1 dL_law_1090 dL_law_1091 dL_law_1092 dL_law_1093 dL_law_1094 ?_
  refine zScr (k := 2) hx hb hXs hbl hbA hS hl (by omega) hL (by decide) hx2 dL_law_1095 dL_law_1096 dL_law_1097 dL_law_1098 dL_law_1099 ?_
  have hP := lwTo hP
  have hD := lwToD hD
  refine zVI [.int x1, .int x2] [.int r1] (kX11_could o v (CLd ct (xE g) K y rs bz iv lz sy xv hz) x1 x2 y hy hJ.1 hJ.nf) hx hb hml hown hts (cwV 2 hts gL_law_X11_could rfl rfl rfl (by decide +kernel) ⟨(Nat.le_of_ble_eq_true rfl), (Nat.le_of_ble_eq_true rfl)⟩) hK hP hD hS hA (va_recv hK hP (ci := 10) (q0 := 0) rfl rfl) rfl hl.1 rfl (Nat.le_of_ble_eq_true rfl) dL_law_1100 ⟨rm2 (Nat.le_of_ble_eq_true rfl) hcc, rs2 (Nat.le_of_ble_eq_true rfl) hss⟩ (fun r2 _ H locs hr2 hP hD hS => ?_)
  have hP := lwFr (show va_P D vwCl (MW ct o ((F_could y v x1 x2).2) (CLd ct (xE g) K y rs bz iv lz sy xv hz)) H from hP)
  have hD := lwFrD (show va_D (AD s) (MW ct o ((F_could y v x1 x2).2) (CLd ct (xE g) K y rs bz iv lz sy xv hz)) from hD)
  refine W.widen (k := cc + 64) (n := ss + 4000) (rm3 (Nat.le_of_ble_eq_true rfl)) (rs3 (Nat.le_of_ble_eq_true rfl)) ?_
  exact lv_icmp_eq (tgt := 1418) hx hb dL_law_1103 (by decide) (fun _ => go y rs bz iv lz sy xv tx hz ((F_could y v x1 x2).2) _ _ ls q.2 hR hP hD hS hl) (fun hne => absurd (hr1.trans (q.1.trans hr2.symm)) hne)
set_option maxHeartbeats 4000000 in
set_option maxRecDepth 100000 in
theorem law_c26 {D : va_G} {ct : Nat → ClassId} {g : XG} {p : Program} {l : Launch} {e : Env} {s : State} {m : MethodId} {b L : Nat} {xs : Nat → Int32} {below : List Frame} {meth : Method} {c : Code} {K : CK} {o : Nat → Nat} {i cc ss : Nat} {Q : State → Prop} (C : lwX D ct g p s m b L xs c) (hi : i + 3 < L) (hL : L ≤ 2048) (hcc : cc + 64 ≤ room_1.cells) (hss : ss + 4000 ≤ room_1.slots) (go : lwAt D ct g p l e s m b below meth c K o i (cc + 64) (ss + 4000) Q 1418) : lwAt D ct g p l e s m b below meth c K o i cc ss Q 1108 := by
  obtain ⟨hx, hb, hml, hown, hts, hXs, hbl, hK, hX⟩ := C
  intro y rs bz iv lz sy xv tx hz v H locs ls hQ hR hP hD hS hl
  have hA : ∀ q, s.heap.size ≤ q → AD s q := fun _ h => h
  have hbA : ¬ AD s b := Nat.not_le.mpr hbl
  have hJ := hQ.1
  have hy : yI y := hJ.2.2.1
  have hf : yF y := hJ.2.2.2.2.2.2
  have hN : RelN iv v := hQ.2.2.2.2.1
  obtain ⟨x1, hx1⟩ : ∃ x, x = xs (nI (i + 1)).toNatClampNeg := ⟨_, rfl⟩
  refine lv_aload_n hx hb dL_law_1108 rfl (lv_at hl 2 rfl) ?_
  refine zScr (k := 1) hx hb hXs hbl hbA hS hl (by omega) hL (by decide) hx1 dL_law_1109 dL_law_1110 dL_law_1111 dL_law_1112 dL_law_1113 ?_
  have hP : va_P D vwCl (CWd ct (xE g) K y rs bz iv lz sy xv hz (MW ct o v [])) H := hP
  refine zVIX [.int x1] [] (kX10_takes (kA K) y (kB K) rs (kD K) bz (kI K) iv (kL K) lz (kS K) sy (kX K) xv (kH K) (kHa K) hz (MW ct o v []) x1 hy hf) hx hb hml hown hts (cwV 1 hts gL_law_X10_takes rfl rfl rfl (by decide +kernel) ⟨(Nat.le_of_ble_eq_true rfl), (Nat.le_of_ble_eq_true rfl)⟩) hK hP hD hS hA hX (va_recv hK hP (ci := 9) (q0 := 38) rfl rfl) rfl hl.1 rfl (Nat.le_of_ble_eq_true rfl) dL_law_1114 ⟨rm1 (Nat.le_of_ble_eq_true rfl) hcc, rs1 (Nat.le_of_ble_eq_true rfl) hss⟩ (fun r1 _ H locs hr1 hP hD hS => ?_)
  have hP : va_P D vwCl (CWd ct (xE g) K y rs bz iv lz sy xv hz (MW ct o v [])) H := hP
  have hD : va_D (AD s) (CWd ct (xE g) K y rs bz iv lz sy xv hz (MW ct o v [])) := hD
  refine W.widen (k := cc + 40) (n := ss + 3000) (rm4 (Nat.le_of_ble_eq_true rfl)) (rs4 (Nat.le_of_ble_eq_true rfl)) ?_
  refine lv_aload_n hx hb dL_law_1117 rfl (lv_at hl 1 rfl) ?_
  refine zScr (k := 1) hx hb hXs hbl hbA hS hl (by omega) hL (by decide) hx1 dL_law_1118 dL_law_1119 dL_law_1120 dL_law_1121 dL_law_1122 ?_
  have hP := lwTo hP
  have hD := lwToD hD
  refine zVI [.int x1] [.int r1] (kX11_takes o v (CLd ct (xE g) K y rs bz iv lz sy xv hz) x1 y hy hJ.1) hx hb hml hown hts (cwV 1 hts gL_law_X11_takes rfl rfl rfl (by decide +kernel) ⟨(Nat.le_of_ble_eq_true rfl), (Nat.le_of_ble_eq_true rfl)⟩) hK hP hD hS hA (va_recv hK hP (ci := 10) (q0 := 0) rfl rfl) rfl hl.1 rfl (Nat.le_of_ble_eq_true rfl) dL_law_1123 ⟨rm2 (Nat.le_of_ble_eq_true rfl) hcc, rs2 (Nat.le_of_ble_eq_true rfl) hss⟩ (fun r2 _ H locs hr2 hP hD hS => ?_)
  have hP := lwFr (show va_P D vwCl (MW ct o v (CLd ct (xE g) K y rs bz iv lz sy xv hz)) H from hP)
  have hD := lwFrD (show va_D (AD s) (MW ct o v (CLd ct (xE g) K y rs bz iv lz sy xv hz)) from hD)
  refine W.widen (k := cc + 64) (n := ss + 4000) (rm3 (Nat.le_of_ble_eq_true rfl)) (rs3 (Nat.le_of_ble_eq_true rfl)) ?_
  exact lv_icmp_eq (tgt := 1418) hx hb dL_law_1126 (by decide) (fun _ => go y rs bz iv lz sy xv tx hz v _ _ ls hQ hR hP hD hS hl) (fun hne => absurd (hr1.trans hr2.symm) hne)
