/-! THE LAW'S BODY: things and carts in order -/
set_option maxHeartbeats 4000000 in
set_option maxRecDepth 100000 in
theorem law_s6 {D : va_G} {ct : Nat → ClassId} {g : XG} {p : Program} {l : Launch} {e : Env} {s : State} {m : MethodId} {args : Array Value} {below : List Frame} {meth : Method} {c : Code} {A : Nat → Prop} {Q : State → Prop} (hx : p.tables.exec = Jvm.exec) (hb : c.code = cL_law) (hml : c.maxLocals = 27) (hown : s.vm.findClass RL = some m.cls) (hts : ∀ w ∈ wsL_law, w.before args s = true) (hK : zK D ct s) (hA : ∀ q, s.heap.size ≤ q → A q) (hX : zX g A s s.heap) (a : Nat → Nat) (y : YS) (b : Nat → Nat) (rs : RS) (d : Nat → Nat) (bz : BS) (i : Nat → Nat) (iv : IS) (lb : Nat → Nat) (lz : LST) (sa : Nat → Nat) (sy : YS) (x : Nat → Nat) (xv : Int32 × Int32) (h : Nat → Nat) (ha : Nat → Nat → Nat) (hz : HS) (R : va_W) (t : Nat) (hK4 : K43 y) (cc ss : Nat) (hcc : cc + 0 ≤ room_1.cells) (hss : ss + 0 ≤ room_1.slots) (go1395 : ∀ (H : Heap) (locs : List Loc) (ls : Array Slot), va_P D vwCl (YW ct a y (KR a b rs (BW ct a d bz (IW ct i (xE g) iv (LW ct lb lz (YW ct sa sy (XO x a sa h b d i lb xv (HW ct h ha hz R)))))))) H → va_D A (YW ct a y (KR a b rs (BW ct a d bz (IW ct i (xE g) iv (LW ct lb lz (YW ct sa sy (XO x a sa h b d i lb xv (HW ct h ha hz R)))))))) → va_S A s.heap H locs → lv_has ls 27 [(1, .ref (x 0)), (0, .ref (xB g)), (2, .int (nI (t))), (3, .int (nI (y_n y))), (4, .int (nI (y_cn y)))] → W p l e room_1 s m args below meth c H locs cc ss Q (F0 m 1395 ls [])) (H : Heap) (locs : List Loc) (ls : Array Slot) (hP : va_P D vwCl (YW ct a y (KR a b rs (BW ct a d bz (IW ct i (xE g) iv (LW ct lb lz (YW ct sa sy (XO x a sa h b d i lb xv (HW ct h ha hz R)))))))) H) (hD : va_D A (YW ct a y (KR a b rs (BW ct a d bz (IW ct i (xE g) iv (LW ct lb lz (YW ct sa sy (XO x a sa h b d i lb xv (HW ct h ha hz R))))))))) (hS : va_S A s.heap H locs) (hl : lv_has ls 27 [(1, .ref (x 0)), (0, .ref (xB g)), (2, .int (nI (t))), (3, .int (nI (y_n y))), (4, .int (nI (y_cn y)))]) : W p l e room_1 s m args below meth c H locs cc ss Q (F0 m 1299 ls []) := by
  have hJ4 := hK4.1
  obtain ⟨hy, hf⟩ := yJ_i hJ4
  have h41 := hK4.2.2.1
  have h42 := hK4.2.2.2.1
  have hkd : ∀ j9, j9 < y_n y → y_kd y j9 = nI 0 ∨ y_kd y j9 = nI 1 := fun j9 hj9 => (hy.2.2.2.1 j9 hj9).1
  have hn : y_n y ≤ 12 := hy.1
  have hcn : y_cn y ≤ 4 := hy.2.1
  have hrn : y_rn y ≤ 5 := hy.2.2.1
  refine lv_iconst (v := nI (1)) hx hb dL_law_1299 (by decide) ?_
  refine lv_istore (lv' := [(15, .int (nI (1))), (1, .ref (x 0)), (0, .ref (xB g)), (2, .int (nI (t))), (3, .int (nI (y_n y))), (4, .int (nI (y_cn y)))]) hx hb dL_law_1300 hl (by decide) rfl (fun ls hl => ?_)
  have lp1302 : ∀ (fu : Nat) (k : Nat) (H : Heap) (locs : List Loc) (ls : Array Slot), (1 ≤ k) → (k ≤ y_n y) → y_n y - k < fu → va_P D vwCl (YW ct a y (KR a b rs (BW ct a d bz (IW ct i (xE g) iv (LW ct lb lz (YW ct sa sy (XO x a sa h b d i lb xv (HW ct h ha hz R)))))))) H → va_D A (YW ct a y (KR a b rs (BW ct a d bz (IW ct i (xE g) iv (LW ct lb lz (YW ct sa sy (XO x a sa h b d i lb xv (HW ct h ha hz R)))))))) → va_S A s.heap H locs → lv_has ls 27 [(0, .ref (xB g)), (1, .ref (x 0)), (2, .int (nI (t))), (3, .int (nI (y_n y))), (4, .int (nI (y_cn y))), (15, .int (nI (k)))] → W p l e room_1 s m args below meth c H locs cc ss Q (F0 m 1302 ls []) := by
    intro fu
    induction fu with
    | zero => intro k H locs ls hk1 hk hfu; exact absurd hfu (Nat.not_lt_zero _)
    | succ fu ih1302 =>
      intro k H locs ls hk1 hk hfu hP hD hS hl
      refine lv_iload hx hb dL_law_1302 (lv_at hl 5 rfl) ?_
      refine lv_iload_n hx hb dL_law_1304 rfl (lv_at hl 3 rfl) ?_
      refine zN_icmp_ge (tgt := 1395) hx hb (by omega) (by omega) dL_law_1305 (by decide) (fun c1305_1 => ?_) (fun c1305_1 => ?_)
      · skip
        exact go1395 H locs ls hP hD hS (lv_sub hl [1, 0, 2, 3, 4] rfl)
      · skip
        refine lv_aload_n hx hb dL_law_1308 rfl (lv_at hl 1 rfl) ?_
        refine lv_iload hx hb dL_law_1309 (lv_at hl 5 rfl) ?_
        refine lv_iconst (v := nI (1)) hx hb dL_law_1311 (by decide) ?_
        refine zNsub hx hb (by omega) dL_law_1312 ?_
        refine zVIX [.int (nI ((k - 1)))] [] (kX10_heaviest (a) (y) (b) (rs) (d) (bz) (i) (iv) (lb) (lz) (sa) (sy) (x) (xv) (h) (ha) (hz) (R) (nI ((k - 1))) (show yI y from hy) (show yF y from hf)) hx hb hml hown hts (cwV 1 hts gL_law_X10_heaviest rfl rfl rfl (by decide +kernel) ⟨(Nat.le_of_ble_eq_true rfl), (Nat.le_of_ble_eq_true rfl)⟩) hK hP hD hS hA hX (va_recv hK hP (ci := 9) (q0 := 38) rfl rfl) rfl hl.1 rfl (Nat.le_of_ble_eq_true rfl) dL_law_1313 ⟨(by show cc + 0 ≤ room_1.cells; omega), (by show ss + 0 ≤ room_1.slots; omega)⟩ (fun r_1313 _ H locs hr_1313 hP hD hS => ?_)
        subst hr_1313
        have hP : va_P D vwCl (YW ct a y (KR a b rs (BW ct a d bz (IW ct i (xE g) iv (LW ct lb lz (YW ct sa sy (XO x a sa h b d i lb xv (HW ct h ha hz R)))))))) H := hP
        have hD : va_D A (YW ct a y (KR a b rs (BW ct a d bz (IW ct i (xE g) iv (LW ct lb lz (YW ct sa sy (XO x a sa h b d i lb xv (HW ct h ha hz R)))))))) := hD
        obtain ⟨u7, hu7, eu7, ru7⟩ := ordI_at (sO_T hy) (by omega) (x := k - 1) (by omega)
        refine zTop (y := nI (u7)) eu7 ?_
        refine lv_istore (lv' := [(16, .int (nI (u7))), (0, .ref (xB g)), (1, .ref (x 0)), (2, .int (nI (t))), (3, .int (nI (y_n y))), (4, .int (nI (y_cn y))), (15, .int (nI (k)))]) hx hb dL_law_1316 hl (by decide) rfl (fun ls hl => ?_)
        refine lv_aload_n hx hb dL_law_1318 rfl (lv_at hl 2 rfl) ?_
        refine lv_iload hx hb dL_law_1319 (lv_at hl 6 rfl) ?_
        refine zVIX [.int (nI (k))] [] (kX10_heaviest (a) (y) (b) (rs) (d) (bz) (i) (iv) (lb) (lz) (sa) (sy) (x) (xv) (h) (ha) (hz) (R) (nI (k)) (show yI y from hy) (show yF y from hf)) hx hb hml hown hts (cwV 1 hts gL_law_X10_heaviest rfl rfl rfl (by decide +kernel) ⟨(Nat.le_of_ble_eq_true rfl), (Nat.le_of_ble_eq_true rfl)⟩) hK hP hD hS hA hX (va_recv hK hP (ci := 9) (q0 := 38) rfl rfl) rfl hl.1 rfl (Nat.le_of_ble_eq_true rfl) dL_law_1321 ⟨(by show cc + 0 ≤ room_1.cells; omega), (by show ss + 0 ≤ room_1.slots; omega)⟩ (fun r_1321 _ H locs hr_1321 hP hD hS => ?_)
        subst hr_1321
        have hP : va_P D vwCl (YW ct a y (KR a b rs (BW ct a d bz (IW ct i (xE g) iv (LW ct lb lz (YW ct sa sy (XO x a sa h b d i lb xv (HW ct h ha hz R)))))))) H := hP
        have hD : va_D A (YW ct a y (KR a b rs (BW ct a d bz (IW ct i (xE g) iv (LW ct lb lz (YW ct sa sy (XO x a sa h b d i lb xv (HW ct h ha hz R)))))))) := hD
        obtain ⟨v7, hv7, ev7, rv7⟩ := ordI_at (sO_T hy) (by omega) (x := k) (by omega)
        refine zTop (y := nI (v7)) ev7 ?_
        refine lv_istore (lv' := [(17, .int (nI (v7))), (16, .int (nI (u7))), (0, .ref (xB g)), (1, .ref (x 0)), (2, .int (nI (t))), (3, .int (nI (y_n y))), (4, .int (nI (y_cn y))), (15, .int (nI (k)))]) hx hb dL_law_1324 hl (by decide) rfl (fun ls hl => ?_)
        refine lv_aload_n hx hb dL_law_1326 rfl (lv_at hl 3 rfl) ?_
        refine lv_iload hx hb dL_law_1327 (lv_at hl 1 rfl) ?_
        refine lv_iconst (v := nI (1)) hx hb dL_law_1329 (by decide) ?_
        refine zVIX [.int (nI (u7)), .int (nI (1))] [] (kX10_thingOf (a) (y) (b) (rs) (d) (bz) (i) (iv) (lb) (lz) (sa) (sy) (x) (xv) (h) (ha) (hz) (R) (nI (u7)) (nI (1)) (show yI y from hy) (show yF y from hf)) hx hb hml hown hts (cwV 2 hts gL_law_X10_thingOf rfl rfl rfl (by decide +kernel) ⟨(Nat.le_of_ble_eq_true rfl), (Nat.le_of_ble_eq_true rfl)⟩) hK hP hD hS hA hX (va_recv hK hP (ci := 9) (q0 := 38) rfl rfl) rfl hl.1 rfl (Nat.le_of_ble_eq_true rfl) dL_law_1330 ⟨(by show cc + 0 ≤ room_1.cells; omega), (by show ss + 0 ≤ room_1.slots; omega)⟩ (fun r_1330 _ H locs hr_1330 hP hD hS => ?_)
        subst hr_1330
        have hP : va_P D vwCl (YW ct a y (KR a b rs (BW ct a d bz (IW ct i (xE g) iv (LW ct lb lz (YW ct sa sy (XO x a sa h b d i lb xv (HW ct h ha hz R)))))))) H := hP
        have hD : va_D A (YW ct a y (KR a b rs (BW ct a d bz (IW ct i (xE g) iv (LW ct lb lz (YW ct sa sy (XO x a sa h b d i lb xv (HW ct h ha hz R)))))))) := hD
        have hlx := ord_T hy hu7 hv7 (x := k - 1) ru7 (rv7.trans (by omega))
        have i1 := wN_is hy hu7
        have i2 := wN_is hy hv7
        have i3 := kN_is hy hu7
        have i4 := kN_is hy hv7
        refine zTop (y := nI (wN y u7)) ((a_th hu7 hn).2.1.trans (wN_is hy hu7).1) ?_
        refine lv_aload_n hx hb dL_law_1333 rfl (lv_at hl 3 rfl) ?_
        refine lv_iload hx hb dL_law_1334 (lv_at hl 0 rfl) ?_
        refine lv_iconst (v := nI (1)) hx hb dL_law_1336 (by decide) ?_
        refine zVIX [.int (nI (v7)), .int (nI (1))] [.int (nI (wN y u7))] (kX10_thingOf (a) (y) (b) (rs) (d) (bz) (i) (iv) (lb) (lz) (sa) (sy) (x) (xv) (h) (ha) (hz) (R) (nI (v7)) (nI (1)) (show yI y from hy) (show yF y from hf)) hx hb hml hown hts (cwV 2 hts gL_law_X10_thingOf rfl rfl rfl (by decide +kernel) ⟨(Nat.le_of_ble_eq_true rfl), (Nat.le_of_ble_eq_true rfl)⟩) hK hP hD hS hA hX (va_recv hK hP (ci := 9) (q0 := 38) rfl rfl) rfl hl.1 rfl (Nat.le_of_ble_eq_true rfl) dL_law_1337 ⟨(by show cc + 0 ≤ room_1.cells; omega), (by show ss + 0 ≤ room_1.slots; omega)⟩ (fun r_1337 _ H locs hr_1337 hP hD hS => ?_)
        subst hr_1337
        have hP : va_P D vwCl (YW ct a y (KR a b rs (BW ct a d bz (IW ct i (xE g) iv (LW ct lb lz (YW ct sa sy (XO x a sa h b d i lb xv (HW ct h ha hz R)))))))) H := hP
        have hD : va_D A (YW ct a y (KR a b rs (BW ct a d bz (IW ct i (xE g) iv (LW ct lb lz (YW ct sa sy (XO x a sa h b d i lb xv (HW ct h ha hz R)))))))) := hD
        refine zTop (y := nI (wN y v7)) ((a_th hv7 hn).2.1.trans (wN_is hy hv7).1) ?_
        refine lv_isub hx hb dL_law_1340 ?_
        refine lv_istore (lv' := [(18, .int ((nI (wN y u7) - nI (wN y v7)))), (17, .int (nI (v7))), (16, .int (nI (u7))), (0, .ref (xB g)), (1, .ref (x 0)), (2, .int (nI (t))), (3, .int (nI (y_n y))), (4, .int (nI (y_cn y))), (15, .int (nI (k)))]) hx hb dL_law_1341 hl (by decide) rfl (fun ls hl => ?_)
        refine lv_aload_n hx hb dL_law_1343 rfl (lv_at hl 4 rfl) ?_
        refine lv_iload hx hb dL_law_1344 (lv_at hl 1 rfl) ?_
        refine lv_iconst (v := nI (0)) hx hb dL_law_1346 (by decide) ?_
        refine zVIX [.int (nI (v7)), .int (nI (0))] [] (kX10_thingOf (a) (y) (b) (rs) (d) (bz) (i) (iv) (lb) (lz) (sa) (sy) (x) (xv) (h) (ha) (hz) (R) (nI (v7)) (nI (0)) (show yI y from hy) (show yF y from hf)) hx hb hml hown hts (cwV 2 hts gL_law_X10_thingOf rfl rfl rfl (by decide +kernel) ⟨(Nat.le_of_ble_eq_true rfl), (Nat.le_of_ble_eq_true rfl)⟩) hK hP hD hS hA hX (va_recv hK hP (ci := 9) (q0 := 38) rfl rfl) rfl hl.1 rfl (Nat.le_of_ble_eq_true rfl) dL_law_1347 ⟨(by show cc + 0 ≤ room_1.cells; omega), (by show ss + 0 ≤ room_1.slots; omega)⟩ (fun r_1347 _ H locs hr_1347 hP hD hS => ?_)
        subst hr_1347
        have hP : va_P D vwCl (YW ct a y (KR a b rs (BW ct a d bz (IW ct i (xE g) iv (LW ct lb lz (YW ct sa sy (XO x a sa h b d i lb xv (HW ct h ha hz R)))))))) H := hP
        have hD : va_D A (YW ct a y (KR a b rs (BW ct a d bz (IW ct i (xE g) iv (LW ct lb lz (YW ct sa sy (XO x a sa h b d i lb xv (HW ct h ha hz R)))))))) := hD
        refine zTop (y := nI (kN y v7)) ((a_th hv7 hn).1.trans (kN_is hy hv7).1) ?_
        refine lv_aload_n hx hb dL_law_1350 rfl (lv_at hl 4 rfl) ?_
        refine lv_iload hx hb dL_law_1351 (lv_at hl 2 rfl) ?_
        refine lv_iconst (v := nI (0)) hx hb dL_law_1353 (by decide) ?_
        refine zVIX [.int (nI (u7)), .int (nI (0))] [.int (nI (kN y v7))] (kX10_thingOf (a) (y) (b) (rs) (d) (bz) (i) (iv) (lb) (lz) (sa) (sy) (x) (xv) (h) (ha) (hz) (R) (nI (u7)) (nI (0)) (show yI y from hy) (show yF y from hf)) hx hb hml hown hts (cwV 2 hts gL_law_X10_thingOf rfl rfl rfl (by decide +kernel) ⟨(Nat.le_of_ble_eq_true rfl), (Nat.le_of_ble_eq_true rfl)⟩) hK hP hD hS hA hX (va_recv hK hP (ci := 9) (q0 := 38) rfl rfl) rfl hl.1 rfl (Nat.le_of_ble_eq_true rfl) dL_law_1354 ⟨(by show cc + 0 ≤ room_1.cells; omega), (by show ss + 0 ≤ room_1.slots; omega)⟩ (fun r_1354 _ H locs hr_1354 hP hD hS => ?_)
        subst hr_1354
        have hP : va_P D vwCl (YW ct a y (KR a b rs (BW ct a d bz (IW ct i (xE g) iv (LW ct lb lz (YW ct sa sy (XO x a sa h b d i lb xv (HW ct h ha hz R)))))))) H := hP
        have hD : va_D A (YW ct a y (KR a b rs (BW ct a d bz (IW ct i (xE g) iv (LW ct lb lz (YW ct sa sy (XO x a sa h b d i lb xv (HW ct h ha hz R)))))))) := hD
        refine zTop (y := nI (kN y u7)) ((a_th hu7 hn).1.trans (kN_is hy hu7).1) ?_
        refine lv_isub hx hb dL_law_1357 ?_
        refine lv_istore (lv' := [(19, .int ((nI (kN y v7) - nI (kN y u7)))), (18, .int ((nI (wN y u7) - nI (wN y v7)))), (17, .int (nI (v7))), (16, .int (nI (u7))), (0, .ref (xB g)), (1, .ref (x 0)), (2, .int (nI (t))), (3, .int (nI (y_n y))), (4, .int (nI (y_cn y))), (15, .int (nI (k)))]) hx hb dL_law_1358 hl (by decide) rfl (fun ls hl => ?_)
        refine lv_iload hx hb dL_law_1360 (lv_at hl 1 rfl) ?_
        refine lv_if_lt (tgt := 1387) hx hb dL_law_1362 (by decide) (fun c1362_2 => ?_) (fun c1362_2 => ?_)
        · skip
          have n0 : wN y u7 < wN y v7 := (neg_sub (a := wN y u7) (b := wN y v7) (by omega) (by omega)).mp c1362_2
          exact absurd (show lx (wN y) (kN y) v7 u7 from by unfold lx; omega) hlx
        · skip
          refine lv_iload hx hb dL_law_1365 (lv_at hl 1 rfl) ?_
          refine lv_if_ne (tgt := 1389) hx hb dL_law_1367 (by decide) (fun c1367_3 => ?_) (fun c1367_3 => ?_)
          · skip
            refine lv_iinc (v := nI ((k + 1))) (lv' := [(15, .int (nI ((k + 1)))), (19, .int ((nI (kN y v7) - nI (kN y u7)))), (18, .int ((nI (wN y u7) - nI (wN y v7)))), (17, .int (nI (v7))), (16, .int (nI (u7))), (0, .ref (xB g)), (1, .ref (x 0)), (2, .int (nI (t))), (3, .int (nI (y_n y))), (4, .int (nI (y_cn y)))]) hx hb dL_law_1389 hl (k := 9) rfl (zInc _) (by decide) rfl (fun ls hl => ?_)
            refine lv_goto (tgt := 1302) hx hb dL_law_1392 (by decide) ?_
            exact ih1302 ((k + 1)) H locs ls (by omega) (by omega) (by omega) hP hD hS (lv_sub hl [5, 6, 7, 8, 9, 0] rfl)
          · skip
            refine lv_iload hx hb dL_law_1370 (lv_at hl 0 rfl) ?_
            refine lv_if_lt (tgt := 1387) hx hb dL_law_1372 (by decide) (fun c1372_4 => ?_) (fun c1372_4 => ?_)
            · skip
              have n0 : ¬ wN y u7 < wN y v7 := fun q => c1362_2 ((neg_sub (a := wN y u7) (b := wN y v7) (by omega) (by omega)).mpr q)
              have n1 : wN y u7 = wN y v7 := (sub_eq0 (a := wN y u7) (b := wN y v7) (by omega) (by omega)).mp c1367_3
              have n2 : kN y v7 < kN y u7 := (neg_sub (a := kN y v7) (b := kN y u7) (by omega) (by omega)).mp c1372_4
              exact absurd (show lx (wN y) (kN y) v7 u7 from by unfold lx; omega) hlx
            · skip
              refine lv_iload hx hb dL_law_1375 (lv_at hl 0 rfl) ?_
              refine lv_if_ne (tgt := 1389) hx hb dL_law_1377 (by decide) (fun c1377_5 => ?_) (fun c1377_5 => ?_)
              · skip
                refine lv_iinc (v := nI ((k + 1))) (lv' := [(15, .int (nI ((k + 1)))), (19, .int ((nI (kN y v7) - nI (kN y u7)))), (18, .int ((nI (wN y u7) - nI (wN y v7)))), (17, .int (nI (v7))), (16, .int (nI (u7))), (0, .ref (xB g)), (1, .ref (x 0)), (2, .int (nI (t))), (3, .int (nI (y_n y))), (4, .int (nI (y_cn y)))]) hx hb dL_law_1389 hl (k := 9) rfl (zInc _) (by decide) rfl (fun ls hl => ?_)
                refine lv_goto (tgt := 1302) hx hb dL_law_1392 (by decide) ?_
                exact ih1302 ((k + 1)) H locs ls (by omega) (by omega) (by omega) hP hD hS (lv_sub hl [5, 6, 7, 8, 9, 0] rfl)
              · skip
                refine lv_iload hx hb dL_law_1380 (lv_at hl 3 rfl) ?_
                refine lv_iload hx hb dL_law_1382 (lv_at hl 2 rfl) ?_
                refine zN_icmp_le (tgt := 1389) hx hb (by omega) (by omega) dL_law_1384 (by decide) (fun c1384_6 => ?_) (fun c1384_6 => ?_)
                · skip
                  refine lv_iinc (v := nI ((k + 1))) (lv' := [(15, .int (nI ((k + 1)))), (19, .int ((nI (kN y v7) - nI (kN y u7)))), (18, .int ((nI (wN y u7) - nI (wN y v7)))), (17, .int (nI (v7))), (16, .int (nI (u7))), (0, .ref (xB g)), (1, .ref (x 0)), (2, .int (nI (t))), (3, .int (nI (y_n y))), (4, .int (nI (y_cn y)))]) hx hb dL_law_1389 hl (k := 9) rfl (zInc _) (by decide) rfl (fun ls hl => ?_)
                  refine lv_goto (tgt := 1302) hx hb dL_law_1392 (by decide) ?_
                  exact ih1302 ((k + 1)) H locs ls (by omega) (by omega) (by omega) hP hD hS (lv_sub hl [5, 6, 7, 8, 9, 0] rfl)
                · skip
                  have n0 : ¬ wN y u7 < wN y v7 := fun q => c1362_2 ((neg_sub (a := wN y u7) (b := wN y v7) (by omega) (by omega)).mpr q)
                  have n1 : wN y u7 = wN y v7 := (sub_eq0 (a := wN y u7) (b := wN y v7) (by omega) (by omega)).mp c1367_3
                  have n2 : ¬ kN y v7 < kN y u7 := fun q => c1372_4 ((neg_sub (a := kN y v7) (b := kN y u7) (by omega) (by omega)).mpr q)
                  have n3 : kN y v7 = kN y u7 := (sub_eq0 (a := kN y v7) (b := kN y u7) (by omega) (by omega)).mp c1377_5
                  exact absurd (show lx (wN y) (kN y) v7 u7 from by unfold lx; omega) hlx
  exact lp1302 ((y_n y - (1)) + 1) (1) H locs ls (by omega) (by omega) (Nat.lt_succ_self _) hP hD hS (lv_sub hl [2, 1, 3, 4, 5, 0] rfl)
set_option maxHeartbeats 4000000 in
set_option maxRecDepth 100000 in
theorem law_s7 {D : va_G} {ct : Nat → ClassId} {g : XG} {p : Program} {l : Launch} {e : Env} {s : State} {m : MethodId} {args : Array Value} {below : List Frame} {meth : Method} {c : Code} {A : Nat → Prop} {Q : State → Prop} (hx : p.tables.exec = Jvm.exec) (hb : c.code = cL_law) (hml : c.maxLocals = 27) (hown : s.vm.findClass RL = some m.cls) (hts : ∀ w ∈ wsL_law, w.before args s = true) (hK : zK D ct s) (hA : ∀ q, s.heap.size ≤ q → A q) (hX : zX g A s s.heap) (a : Nat → Nat) (y : YS) (b : Nat → Nat) (rs : RS) (d : Nat → Nat) (bz : BS) (i : Nat → Nat) (iv : IS) (lb : Nat → Nat) (lz : LST) (sa : Nat → Nat) (sy : YS) (x : Nat → Nat) (xv : Int32 × Int32) (h : Nat → Nat) (ha : Nat → Nat → Nat) (hz : HS) (R : va_W) (t : Nat) (hK4 : K43 y) (cc ss : Nat) (hcc : cc + 0 ≤ room_1.cells) (hss : ss + 0 ≤ room_1.slots) (go1494 : ∀ (H : Heap) (locs : List Loc) (ls : Array Slot), va_P D vwCl (YW ct a y (KR a b rs (BW ct a d bz (IW ct i (xE g) iv (LW ct lb lz (YW ct sa sy (XO x a sa h b d i lb xv (HW ct h ha hz R)))))))) H → va_D A (YW ct a y (KR a b rs (BW ct a d bz (IW ct i (xE g) iv (LW ct lb lz (YW ct sa sy (XO x a sa h b d i lb xv (HW ct h ha hz R)))))))) → va_S A s.heap H locs → lv_has ls 27 [(1, .ref (x 0)), (0, .ref (xB g)), (2, .int (nI (t))), (3, .int (nI (y_n y))), (4, .int (nI (y_cn y)))] → W p l e room_1 s m args below meth c H locs cc ss Q (F0 m 1494 ls [])) (H : Heap) (locs : List Loc) (ls : Array Slot) (hP : va_P D vwCl (YW ct a y (KR a b rs (BW ct a d bz (IW ct i (xE g) iv (LW ct lb lz (YW ct sa sy (XO x a sa h b d i lb xv (HW ct h ha hz R)))))))) H) (hD : va_D A (YW ct a y (KR a b rs (BW ct a d bz (IW ct i (xE g) iv (LW ct lb lz (YW ct sa sy (XO x a sa h b d i lb xv (HW ct h ha hz R))))))))) (hS : va_S A s.heap H locs) (hl : lv_has ls 27 [(1, .ref (x 0)), (0, .ref (xB g)), (2, .int (nI (t))), (3, .int (nI (y_n y))), (4, .int (nI (y_cn y)))]) : W p l e room_1 s m args below meth c H locs cc ss Q (F0 m 1395 ls []) := by
  have hJ4 := hK4.1
  obtain ⟨hy, hf⟩ := yJ_i hJ4
  have h41 := hK4.2.2.1
  have h42 := hK4.2.2.2.1
  have hkd : ∀ j9, j9 < y_n y → y_kd y j9 = nI 0 ∨ y_kd y j9 = nI 1 := fun j9 hj9 => (hy.2.2.2.1 j9 hj9).1
  have hn : y_n y ≤ 12 := hy.1
  have hcn : y_cn y ≤ 4 := hy.2.1
  have hrn : y_rn y ≤ 5 := hy.2.2.1
  refine lv_iconst (v := nI (1)) hx hb dL_law_1395 (by decide) ?_
  refine lv_istore (lv' := [(15, .int (nI (1))), (1, .ref (x 0)), (0, .ref (xB g)), (2, .int (nI (t))), (3, .int (nI (y_n y))), (4, .int (nI (y_cn y)))]) hx hb dL_law_1396 hl (by decide) rfl (fun ls hl => ?_)
  have lp1398 : ∀ (fu : Nat) (k : Nat) (H : Heap) (locs : List Loc) (ls : Array Slot), (1 ≤ k) → (k ≤ y_cn y) → y_cn y - k < fu → va_P D vwCl (YW ct a y (KR a b rs (BW ct a d bz (IW ct i (xE g) iv (LW ct lb lz (YW ct sa sy (XO x a sa h b d i lb xv (HW ct h ha hz R)))))))) H → va_D A (YW ct a y (KR a b rs (BW ct a d bz (IW ct i (xE g) iv (LW ct lb lz (YW ct sa sy (XO x a sa h b d i lb xv (HW ct h ha hz R)))))))) → va_S A s.heap H locs → lv_has ls 27 [(0, .ref (xB g)), (1, .ref (x 0)), (2, .int (nI (t))), (3, .int (nI (y_n y))), (4, .int (nI (y_cn y))), (15, .int (nI (k)))] → W p l e room_1 s m args below meth c H locs cc ss Q (F0 m 1398 ls []) := by
    intro fu
    induction fu with
    | zero => intro k H locs ls hk1 hk hfu; exact absurd hfu (Nat.not_lt_zero _)
    | succ fu ih1398 =>
      intro k H locs ls hk1 hk hfu hP hD hS hl
      refine lv_iload hx hb dL_law_1398 (lv_at hl 5 rfl) ?_
      refine lv_iload hx hb dL_law_1400 (lv_at hl 4 rfl) ?_
      refine zN_icmp_ge (tgt := 1494) hx hb (by omega) (by omega) dL_law_1402 (by decide) (fun c1402_1 => ?_) (fun c1402_1 => ?_)
      · skip
        exact go1494 H locs ls hP hD hS (lv_sub hl [1, 0, 2, 3, 4] rfl)
      · skip
        refine lv_aload_n hx hb dL_law_1405 rfl (lv_at hl 1 rfl) ?_
        refine lv_iload hx hb dL_law_1406 (lv_at hl 5 rfl) ?_
        refine lv_iconst (v := nI (1)) hx hb dL_law_1408 (by decide) ?_
        refine zNsub hx hb (by omega) dL_law_1409 ?_
        refine zVIX [.int (nI ((k - 1)))] [] (kX10_fullest (a) (y) (b) (rs) (d) (bz) (i) (iv) (lb) (lz) (sa) (sy) (x) (xv) (h) (ha) (hz) (R) (nI ((k - 1))) (show yI y from hy) (show yF y from hf)) hx hb hml hown hts (cwV 1 hts gL_law_X10_fullest rfl rfl rfl (by decide +kernel) ⟨(Nat.le_of_ble_eq_true rfl), (Nat.le_of_ble_eq_true rfl)⟩) hK hP hD hS hA hX (va_recv hK hP (ci := 9) (q0 := 38) rfl rfl) rfl hl.1 rfl (Nat.le_of_ble_eq_true rfl) dL_law_1410 ⟨(by show cc + 0 ≤ room_1.cells; omega), (by show ss + 0 ≤ room_1.slots; omega)⟩ (fun r_1410 _ H locs hr_1410 hP hD hS => ?_)
        subst hr_1410
        have hP : va_P D vwCl (YW ct a y (KR a b rs (BW ct a d bz (IW ct i (xE g) iv (LW ct lb lz (YW ct sa sy (XO x a sa h b d i lb xv (HW ct h ha hz R)))))))) H := hP
        have hD : va_D A (YW ct a y (KR a b rs (BW ct a d bz (IW ct i (xE g) iv (LW ct lb lz (YW ct sa sy (XO x a sa h b d i lb xv (HW ct h ha hz R)))))))) := hD
        obtain ⟨u7, hu7, eu7, ru7⟩ := ordI_at (sO_C hy) (by omega) (x := k - 1) (by omega)
        refine zTop (y := nI (u7)) eu7 ?_
        refine lv_istore (lv' := [(16, .int (nI (u7))), (0, .ref (xB g)), (1, .ref (x 0)), (2, .int (nI (t))), (3, .int (nI (y_n y))), (4, .int (nI (y_cn y))), (15, .int (nI (k)))]) hx hb dL_law_1413 hl (by decide) rfl (fun ls hl => ?_)
        refine lv_aload_n hx hb dL_law_1415 rfl (lv_at hl 2 rfl) ?_
        refine lv_iload hx hb dL_law_1416 (lv_at hl 6 rfl) ?_
        refine zVIX [.int (nI (k))] [] (kX10_fullest (a) (y) (b) (rs) (d) (bz) (i) (iv) (lb) (lz) (sa) (sy) (x) (xv) (h) (ha) (hz) (R) (nI (k)) (show yI y from hy) (show yF y from hf)) hx hb hml hown hts (cwV 1 hts gL_law_X10_fullest rfl rfl rfl (by decide +kernel) ⟨(Nat.le_of_ble_eq_true rfl), (Nat.le_of_ble_eq_true rfl)⟩) hK hP hD hS hA hX (va_recv hK hP (ci := 9) (q0 := 38) rfl rfl) rfl hl.1 rfl (Nat.le_of_ble_eq_true rfl) dL_law_1418 ⟨(by show cc + 0 ≤ room_1.cells; omega), (by show ss + 0 ≤ room_1.slots; omega)⟩ (fun r_1418 _ H locs hr_1418 hP hD hS => ?_)
        subst hr_1418
        have hP : va_P D vwCl (YW ct a y (KR a b rs (BW ct a d bz (IW ct i (xE g) iv (LW ct lb lz (YW ct sa sy (XO x a sa h b d i lb xv (HW ct h ha hz R)))))))) H := hP
        have hD : va_D A (YW ct a y (KR a b rs (BW ct a d bz (IW ct i (xE g) iv (LW ct lb lz (YW ct sa sy (XO x a sa h b d i lb xv (HW ct h ha hz R)))))))) := hD
        obtain ⟨v7, hv7, ev7, rv7⟩ := ordI_at (sO_C hy) (by omega) (x := k) (by omega)
        refine zTop (y := nI (v7)) ev7 ?_
        refine lv_istore (lv' := [(17, .int (nI (v7))), (16, .int (nI (u7))), (0, .ref (xB g)), (1, .ref (x 0)), (2, .int (nI (t))), (3, .int (nI (y_n y))), (4, .int (nI (y_cn y))), (15, .int (nI (k)))]) hx hb dL_law_1421 hl (by decide) rfl (fun ls hl => ?_)
        refine lv_aload_n hx hb dL_law_1423 rfl (lv_at hl 3 rfl) ?_
        refine lv_iload hx hb dL_law_1424 (lv_at hl 1 rfl) ?_
        refine lv_iconst (v := nI (4)) hx hb dL_law_1426 (by decide) ?_
        refine zVIX [.int (nI (u7)), .int (nI (4))] [] (kX10_cartOf (a) (y) (b) (rs) (d) (bz) (i) (iv) (lb) (lz) (sa) (sy) (x) (xv) (h) (ha) (hz) (R) (nI (u7)) (nI (4)) (show yI y from hy) (show yF y from hf)) hx hb hml hown hts (cwV 2 hts gL_law_X10_cartOf rfl rfl rfl (by decide +kernel) ⟨(Nat.le_of_ble_eq_true rfl), (Nat.le_of_ble_eq_true rfl)⟩) hK hP hD hS hA hX (va_recv hK hP (ci := 9) (q0 := 38) rfl rfl) rfl hl.1 rfl (Nat.le_of_ble_eq_true rfl) dL_law_1427 ⟨(by show cc + 0 ≤ room_1.cells; omega), (by show ss + 0 ≤ room_1.slots; omega)⟩ (fun r_1427 _ H locs hr_1427 hP hD hS => ?_)
        subst hr_1427
        have hP : va_P D vwCl (YW ct a y (KR a b rs (BW ct a d bz (IW ct i (xE g) iv (LW ct lb lz (YW ct sa sy (XO x a sa h b d i lb xv (HW ct h ha hz R)))))))) H := hP
        have hD : va_D A (YW ct a y (KR a b rs (BW ct a d bz (IW ct i (xE g) iv (LW ct lb lz (YW ct sa sy (XO x a sa h b d i lb xv (HW ct h ha hz R)))))))) := hD
        have hlx := ord_C hy hu7 hv7 (x := k - 1) ru7 (rv7.trans (by omega))
        have i1 := aN_is hy u7
        have i2 := aN_is hy v7
        have i3 := iN_is hy hu7
        have i4 := iN_is hy hv7
        refine zTop (y := nI (aN y u7)) ((a_ct hu7 hcn).2.2.2.2.1.trans (aN_is hy u7).1) ?_
        refine lv_aload_n hx hb dL_law_1430 rfl (lv_at hl 3 rfl) ?_
        refine lv_iload hx hb dL_law_1431 (lv_at hl 0 rfl) ?_
        refine lv_iconst (v := nI (4)) hx hb dL_law_1433 (by decide) ?_
        refine zVIX [.int (nI (v7)), .int (nI (4))] [.int (nI (aN y u7))] (kX10_cartOf (a) (y) (b) (rs) (d) (bz) (i) (iv) (lb) (lz) (sa) (sy) (x) (xv) (h) (ha) (hz) (R) (nI (v7)) (nI (4)) (show yI y from hy) (show yF y from hf)) hx hb hml hown hts (cwV 2 hts gL_law_X10_cartOf rfl rfl rfl (by decide +kernel) ⟨(Nat.le_of_ble_eq_true rfl), (Nat.le_of_ble_eq_true rfl)⟩) hK hP hD hS hA hX (va_recv hK hP (ci := 9) (q0 := 38) rfl rfl) rfl hl.1 rfl (Nat.le_of_ble_eq_true rfl) dL_law_1434 ⟨(by show cc + 0 ≤ room_1.cells; omega), (by show ss + 0 ≤ room_1.slots; omega)⟩ (fun r_1434 _ H locs hr_1434 hP hD hS => ?_)
        subst hr_1434
        have hP : va_P D vwCl (YW ct a y (KR a b rs (BW ct a d bz (IW ct i (xE g) iv (LW ct lb lz (YW ct sa sy (XO x a sa h b d i lb xv (HW ct h ha hz R)))))))) H := hP
        have hD : va_D A (YW ct a y (KR a b rs (BW ct a d bz (IW ct i (xE g) iv (LW ct lb lz (YW ct sa sy (XO x a sa h b d i lb xv (HW ct h ha hz R)))))))) := hD
        refine zTop (y := nI (aN y v7)) ((a_ct hv7 hcn).2.2.2.2.1.trans (aN_is hy v7).1) ?_
        refine lv_isub hx hb dL_law_1437 ?_
        refine lv_istore (lv' := [(18, .int ((nI (aN y u7) - nI (aN y v7)))), (17, .int (nI (v7))), (16, .int (nI (u7))), (0, .ref (xB g)), (1, .ref (x 0)), (2, .int (nI (t))), (3, .int (nI (y_n y))), (4, .int (nI (y_cn y))), (15, .int (nI (k)))]) hx hb dL_law_1438 hl (by decide) rfl (fun ls hl => ?_)
        refine lv_aload_n hx hb dL_law_1440 rfl (lv_at hl 4 rfl) ?_
        refine lv_iload hx hb dL_law_1441 (lv_at hl 1 rfl) ?_
        refine lv_bipush (v := nI (6)) hx hb dL_law_1443 (by decide) ?_
        refine zVIX [.int (nI (v7)), .int (nI (6))] [] (kX10_cartOf (a) (y) (b) (rs) (d) (bz) (i) (iv) (lb) (lz) (sa) (sy) (x) (xv) (h) (ha) (hz) (R) (nI (v7)) (nI (6)) (show yI y from hy) (show yF y from hf)) hx hb hml hown hts (cwV 2 hts gL_law_X10_cartOf rfl rfl rfl (by decide +kernel) ⟨(Nat.le_of_ble_eq_true rfl), (Nat.le_of_ble_eq_true rfl)⟩) hK hP hD hS hA hX (va_recv hK hP (ci := 9) (q0 := 38) rfl rfl) rfl hl.1 rfl (Nat.le_of_ble_eq_true rfl) dL_law_1445 ⟨(by show cc + 0 ≤ room_1.cells; omega), (by show ss + 0 ≤ room_1.slots; omega)⟩ (fun r_1445 _ H locs hr_1445 hP hD hS => ?_)
        subst hr_1445
        have hP : va_P D vwCl (YW ct a y (KR a b rs (BW ct a d bz (IW ct i (xE g) iv (LW ct lb lz (YW ct sa sy (XO x a sa h b d i lb xv (HW ct h ha hz R)))))))) H := hP
        have hD : va_D A (YW ct a y (KR a b rs (BW ct a d bz (IW ct i (xE g) iv (LW ct lb lz (YW ct sa sy (XO x a sa h b d i lb xv (HW ct h ha hz R)))))))) := hD
        refine zTop (y := nI (iN y v7)) ((a_ct hv7 hcn).2.2.2.2.2.2.1.trans (iN_is hy hv7).1) ?_
        refine lv_aload_n hx hb dL_law_1448 rfl (lv_at hl 4 rfl) ?_
        refine lv_iload hx hb dL_law_1449 (lv_at hl 2 rfl) ?_
        refine lv_bipush (v := nI (6)) hx hb dL_law_1451 (by decide) ?_
        refine zVIX [.int (nI (u7)), .int (nI (6))] [.int (nI (iN y v7))] (kX10_cartOf (a) (y) (b) (rs) (d) (bz) (i) (iv) (lb) (lz) (sa) (sy) (x) (xv) (h) (ha) (hz) (R) (nI (u7)) (nI (6)) (show yI y from hy) (show yF y from hf)) hx hb hml hown hts (cwV 2 hts gL_law_X10_cartOf rfl rfl rfl (by decide +kernel) ⟨(Nat.le_of_ble_eq_true rfl), (Nat.le_of_ble_eq_true rfl)⟩) hK hP hD hS hA hX (va_recv hK hP (ci := 9) (q0 := 38) rfl rfl) rfl hl.1 rfl (Nat.le_of_ble_eq_true rfl) dL_law_1453 ⟨(by show cc + 0 ≤ room_1.cells; omega), (by show ss + 0 ≤ room_1.slots; omega)⟩ (fun r_1453 _ H locs hr_1453 hP hD hS => ?_)
        subst hr_1453
        have hP : va_P D vwCl (YW ct a y (KR a b rs (BW ct a d bz (IW ct i (xE g) iv (LW ct lb lz (YW ct sa sy (XO x a sa h b d i lb xv (HW ct h ha hz R)))))))) H := hP
        have hD : va_D A (YW ct a y (KR a b rs (BW ct a d bz (IW ct i (xE g) iv (LW ct lb lz (YW ct sa sy (XO x a sa h b d i lb xv (HW ct h ha hz R)))))))) := hD
        refine zTop (y := nI (iN y u7)) ((a_ct hu7 hcn).2.2.2.2.2.2.1.trans (iN_is hy hu7).1) ?_
        refine lv_isub hx hb dL_law_1456 ?_
        refine lv_istore (lv' := [(19, .int ((nI (iN y v7) - nI (iN y u7)))), (18, .int ((nI (aN y u7) - nI (aN y v7)))), (17, .int (nI (v7))), (16, .int (nI (u7))), (0, .ref (xB g)), (1, .ref (x 0)), (2, .int (nI (t))), (3, .int (nI (y_n y))), (4, .int (nI (y_cn y))), (15, .int (nI (k)))]) hx hb dL_law_1457 hl (by decide) rfl (fun ls hl => ?_)
        refine lv_iload hx hb dL_law_1459 (lv_at hl 1 rfl) ?_
        refine lv_if_lt (tgt := 1486) hx hb dL_law_1461 (by decide) (fun c1461_2 => ?_) (fun c1461_2 => ?_)
        · skip
          have n0 : aN y u7 < aN y v7 := (neg_sub (a := aN y u7) (b := aN y v7) (by omega) (by omega)).mp c1461_2
          exact absurd (show lx (aN y) (iN y) v7 u7 from by unfold lx; omega) hlx
        · skip
          refine lv_iload hx hb dL_law_1464 (lv_at hl 1 rfl) ?_
          refine lv_if_ne (tgt := 1488) hx hb dL_law_1466 (by decide) (fun c1466_3 => ?_) (fun c1466_3 => ?_)
          · skip
            refine lv_iinc (v := nI ((k + 1))) (lv' := [(15, .int (nI ((k + 1)))), (19, .int ((nI (iN y v7) - nI (iN y u7)))), (18, .int ((nI (aN y u7) - nI (aN y v7)))), (17, .int (nI (v7))), (16, .int (nI (u7))), (0, .ref (xB g)), (1, .ref (x 0)), (2, .int (nI (t))), (3, .int (nI (y_n y))), (4, .int (nI (y_cn y)))]) hx hb dL_law_1488 hl (k := 9) rfl (zInc _) (by decide) rfl (fun ls hl => ?_)
            refine lv_goto (tgt := 1398) hx hb dL_law_1491 (by decide) ?_
            exact ih1398 ((k + 1)) H locs ls (by omega) (by omega) (by omega) hP hD hS (lv_sub hl [5, 6, 7, 8, 9, 0] rfl)
          · skip
            refine lv_iload hx hb dL_law_1469 (lv_at hl 0 rfl) ?_
            refine lv_if_lt (tgt := 1486) hx hb dL_law_1471 (by decide) (fun c1471_4 => ?_) (fun c1471_4 => ?_)
            · skip
              have n0 : ¬ aN y u7 < aN y v7 := fun q => c1461_2 ((neg_sub (a := aN y u7) (b := aN y v7) (by omega) (by omega)).mpr q)
              have n1 : aN y u7 = aN y v7 := (sub_eq0 (a := aN y u7) (b := aN y v7) (by omega) (by omega)).mp c1466_3
              have n2 : iN y v7 < iN y u7 := (neg_sub (a := iN y v7) (b := iN y u7) (by omega) (by omega)).mp c1471_4
              exact absurd (show lx (aN y) (iN y) v7 u7 from by unfold lx; omega) hlx
            · skip
              refine lv_iload hx hb dL_law_1474 (lv_at hl 0 rfl) ?_
              refine lv_if_ne (tgt := 1488) hx hb dL_law_1476 (by decide) (fun c1476_5 => ?_) (fun c1476_5 => ?_)
              · skip
                refine lv_iinc (v := nI ((k + 1))) (lv' := [(15, .int (nI ((k + 1)))), (19, .int ((nI (iN y v7) - nI (iN y u7)))), (18, .int ((nI (aN y u7) - nI (aN y v7)))), (17, .int (nI (v7))), (16, .int (nI (u7))), (0, .ref (xB g)), (1, .ref (x 0)), (2, .int (nI (t))), (3, .int (nI (y_n y))), (4, .int (nI (y_cn y)))]) hx hb dL_law_1488 hl (k := 9) rfl (zInc _) (by decide) rfl (fun ls hl => ?_)
                refine lv_goto (tgt := 1398) hx hb dL_law_1491 (by decide) ?_
                exact ih1398 ((k + 1)) H locs ls (by omega) (by omega) (by omega) hP hD hS (lv_sub hl [5, 6, 7, 8, 9, 0] rfl)
              · skip
                refine lv_iload hx hb dL_law_1479 (lv_at hl 3 rfl) ?_
                refine lv_iload hx hb dL_law_1481 (lv_at hl 2 rfl) ?_
                refine zN_icmp_le (tgt := 1488) hx hb (by omega) (by omega) dL_law_1483 (by decide) (fun c1483_6 => ?_) (fun c1483_6 => ?_)
                · skip
                  refine lv_iinc (v := nI ((k + 1))) (lv' := [(15, .int (nI ((k + 1)))), (19, .int ((nI (iN y v7) - nI (iN y u7)))), (18, .int ((nI (aN y u7) - nI (aN y v7)))), (17, .int (nI (v7))), (16, .int (nI (u7))), (0, .ref (xB g)), (1, .ref (x 0)), (2, .int (nI (t))), (3, .int (nI (y_n y))), (4, .int (nI (y_cn y)))]) hx hb dL_law_1488 hl (k := 9) rfl (zInc _) (by decide) rfl (fun ls hl => ?_)
                  refine lv_goto (tgt := 1398) hx hb dL_law_1491 (by decide) ?_
                  exact ih1398 ((k + 1)) H locs ls (by omega) (by omega) (by omega) hP hD hS (lv_sub hl [5, 6, 7, 8, 9, 0] rfl)
                · skip
                  have n0 : ¬ aN y u7 < aN y v7 := fun q => c1461_2 ((neg_sub (a := aN y u7) (b := aN y v7) (by omega) (by omega)).mpr q)
                  have n1 : aN y u7 = aN y v7 := (sub_eq0 (a := aN y u7) (b := aN y v7) (by omega) (by omega)).mp c1466_3
                  have n2 : ¬ iN y v7 < iN y u7 := fun q => c1471_4 ((neg_sub (a := iN y v7) (b := iN y u7) (by omega) (by omega)).mpr q)
                  have n3 : iN y v7 = iN y u7 := (sub_eq0 (a := iN y v7) (b := iN y u7) (by omega) (by omega)).mp c1476_5
                  exact absurd (show lx (aN y) (iN y) v7 u7 from by unfold lx; omega) hlx
  exact lp1398 ((y_cn y - (1)) + 1) (1) H locs ls (by omega) (by omega) (Nat.lt_succ_self _) hP hD hS (lv_sub hl [2, 1, 3, 4, 5, 0] rfl)
