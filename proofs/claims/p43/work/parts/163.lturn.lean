/-! THE LAW'S BODY: a turn's start and its end -/
set_option maxHeartbeats 4000000 in
set_option maxRecDepth 100000 in
theorem law_s1 {D : va_G} {ct : Nat → ClassId} {g : XG} {p : Program} {l : Launch} {e : Env} {s : State} {m : MethodId} {args : Array Value} {below : List Frame} {meth : Method} {c : Code} {A : Nat → Prop} {Q : State → Prop} (hx : p.tables.exec = Jvm.exec) (hb : c.code = cL_law) (hml : c.maxLocals = 27) (hown : s.vm.findClass RL = some m.cls) (hts : ∀ w ∈ wsL_law, w.before args s = true) (hK : zK D ct s) (hA : ∀ q, s.heap.size ≤ q → A q) (hX : zX g A s s.heap) (a : Nat → Nat) (y : YS) (b : Nat → Nat) (rs : RS) (d : Nat → Nat) (bz : BS) (i : Nat → Nat) (iv : IS) (lb : Nat → Nat) (lz : LST) (sa : Nat → Nat) (sy : YS) (x : Nat → Nat) (xv : Int32 × Int32) (h : Nat → Nat) (ha : Nat → Nat → Nat) (hz : HS) (R : va_W) (t : Nat) (hK4 : K43 y) (cc ss : Nat) (hcc : cc + 0 ≤ room_1.cells) (hss : ss + 0 ≤ room_1.slots) (go57 : ∀ (H : Heap) (locs : List Loc) (ls : Array Slot), va_P D vwCl (YW ct a y (KR a b rs (BW ct a d bz (IW ct i (xE g) iv (LW ct lb lz (YW ct sa sy (XO x a sa h b d i lb xv (HW ct h ha hz R)))))))) H → va_D A (YW ct a y (KR a b rs (BW ct a d bz (IW ct i (xE g) iv (LW ct lb lz (YW ct sa sy (XO x a sa h b d i lb xv (HW ct h ha hz R)))))))) → va_S A s.heap H locs → lv_has ls 27 [(1, .ref (x 0)), (0, .ref (xB g)), (2, .int (nI (t))), (3, .int (nI (y_n y))), (4, .int (nI (y_cn y))), (5, .int (nI (0))), (6, .int (nI (0))), (7, .int (nI (0))), (8, .int (nI (0))), (9, .int (nI (0))), (10, .int (nI (0))), (11, .int (nI (0))), (12, .int (nI (0)))] → W p l e room_1 s m args below meth c H locs cc ss Q (F0 m 57 ls [])) (H : Heap) (locs : List Loc) (ls : Array Slot) (hP : va_P D vwCl (YW ct a y (KR a b rs (BW ct a d bz (IW ct i (xE g) iv (LW ct lb lz (YW ct sa sy (XO x a sa h b d i lb xv (HW ct h ha hz R)))))))) H) (hD : va_D A (YW ct a y (KR a b rs (BW ct a d bz (IW ct i (xE g) iv (LW ct lb lz (YW ct sa sy (XO x a sa h b d i lb xv (HW ct h ha hz R))))))))) (hS : va_S A s.heap H locs) (hl : lv_has ls 27 [(1, .ref (x 0)), (0, .ref (xB g)), (2, .int (nI (t)))]) : W p l e room_1 s m args below meth c H locs cc ss Q (F0 m 20 ls []) := by
  have hJ4 := hK4.1
  obtain ⟨hy, hf⟩ := yJ_i hJ4
  have hkd : ∀ j9, j9 < y_n y → y_kd y j9 = nI 0 ∨ y_kd y j9 = nI 1 := fun j9 hj9 => (hy.2.2.2.1 j9 hj9).1
  have hn : y_n y ≤ 12 := hy.1
  have hcn : y_cn y ≤ 4 := hy.2.1
  have hrn : y_rn y ≤ 5 := hy.2.2.1
  refine lv_aload_n hx hb dL_law_20 rfl (lv_at hl 0 rfl) ?_
  refine lv_iconst (v := nI (0)) hx hb dL_law_21 (by decide) ?_
  refine zVIX [.int (nI (0))] [] (kX10_account (a) (y) (b) (rs) (d) (bz) (i) (iv) (lb) (lz) (sa) (sy) (x) (xv) (h) (ha) (hz) (R) (nI (0)) (show yI y from hy) (show yF y from hf)) hx hb hml hown hts (cwV 1 hts gL_law_X10_account rfl rfl rfl (by decide +kernel) ⟨(Nat.le_of_ble_eq_true rfl), (Nat.le_of_ble_eq_true rfl)⟩) hK hP hD hS hA hX (va_recv hK hP (ci := 9) (q0 := 38) rfl rfl) rfl hl.1 rfl (Nat.le_of_ble_eq_true rfl) dL_law_22 ⟨(by show cc + 0 ≤ room_1.cells; omega), (by show ss + 0 ≤ room_1.slots; omega)⟩ (fun r_22 _ H locs hr_22 hP hD hS => ?_)
  subst hr_22
  have hP : va_P D vwCl (YW ct a y (KR a b rs (BW ct a d bz (IW ct i (xE g) iv (LW ct lb lz (YW ct sa sy (XO x a sa h b d i lb xv (HW ct h ha hz R)))))))) H := hP
  have hD : va_D A (YW ct a y (KR a b rs (BW ct a d bz (IW ct i (xE g) iv (LW ct lb lz (YW ct sa sy (XO x a sa h b d i lb xv (HW ct h ha hz R)))))))) := hD
  refine zTop (y := nI (y_n y)) acc_0 ?_
  refine lv_istore_n (lv' := [(3, .int (nI (y_n y))), (1, .ref (x 0)), (0, .ref (xB g)), (2, .int (nI (t)))]) hx hb dL_law_25 rfl hl (by decide) rfl (fun ls hl => ?_)
  refine lv_aload_n hx hb dL_law_26 rfl (lv_at hl 1 rfl) ?_
  refine lv_iconst (v := nI (4)) hx hb dL_law_27 (by decide) ?_
  refine zVIX [.int (nI (4))] [] (kX10_account (a) (y) (b) (rs) (d) (bz) (i) (iv) (lb) (lz) (sa) (sy) (x) (xv) (h) (ha) (hz) (R) (nI (4)) (show yI y from hy) (show yF y from hf)) hx hb hml hown hts (cwV 1 hts gL_law_X10_account rfl rfl rfl (by decide +kernel) ⟨(Nat.le_of_ble_eq_true rfl), (Nat.le_of_ble_eq_true rfl)⟩) hK hP hD hS hA hX (va_recv hK hP (ci := 9) (q0 := 38) rfl rfl) rfl hl.1 rfl (Nat.le_of_ble_eq_true rfl) dL_law_28 ⟨(by show cc + 0 ≤ room_1.cells; omega), (by show ss + 0 ≤ room_1.slots; omega)⟩ (fun r_28 _ H locs hr_28 hP hD hS => ?_)
  subst hr_28
  have hP : va_P D vwCl (YW ct a y (KR a b rs (BW ct a d bz (IW ct i (xE g) iv (LW ct lb lz (YW ct sa sy (XO x a sa h b d i lb xv (HW ct h ha hz R)))))))) H := hP
  have hD : va_D A (YW ct a y (KR a b rs (BW ct a d bz (IW ct i (xE g) iv (LW ct lb lz (YW ct sa sy (XO x a sa h b d i lb xv (HW ct h ha hz R)))))))) := hD
  refine zTop (y := nI (y_cn y)) acc_4 ?_
  refine lv_istore (lv' := [(4, .int (nI (y_cn y))), (3, .int (nI (y_n y))), (1, .ref (x 0)), (0, .ref (xB g)), (2, .int (nI (t)))]) hx hb dL_law_31 hl (by decide) rfl (fun ls hl => ?_)
  refine lv_iconst (v := nI (0)) hx hb dL_law_33 (by decide) ?_
  refine lv_istore (lv' := [(5, .int (nI (0))), (4, .int (nI (y_cn y))), (3, .int (nI (y_n y))), (1, .ref (x 0)), (0, .ref (xB g)), (2, .int (nI (t)))]) hx hb dL_law_34 hl (by decide) rfl (fun ls hl => ?_)
  refine lv_iconst (v := nI (0)) hx hb dL_law_36 (by decide) ?_
  refine lv_istore (lv' := [(6, .int (nI (0))), (5, .int (nI (0))), (4, .int (nI (y_cn y))), (3, .int (nI (y_n y))), (1, .ref (x 0)), (0, .ref (xB g)), (2, .int (nI (t)))]) hx hb dL_law_37 hl (by decide) rfl (fun ls hl => ?_)
  refine lv_iconst (v := nI (0)) hx hb dL_law_39 (by decide) ?_
  refine lv_istore (lv' := [(7, .int (nI (0))), (6, .int (nI (0))), (5, .int (nI (0))), (4, .int (nI (y_cn y))), (3, .int (nI (y_n y))), (1, .ref (x 0)), (0, .ref (xB g)), (2, .int (nI (t)))]) hx hb dL_law_40 hl (by decide) rfl (fun ls hl => ?_)
  refine lv_iconst (v := nI (0)) hx hb dL_law_42 (by decide) ?_
  refine lv_istore (lv' := [(8, .int (nI (0))), (7, .int (nI (0))), (6, .int (nI (0))), (5, .int (nI (0))), (4, .int (nI (y_cn y))), (3, .int (nI (y_n y))), (1, .ref (x 0)), (0, .ref (xB g)), (2, .int (nI (t)))]) hx hb dL_law_43 hl (by decide) rfl (fun ls hl => ?_)
  refine lv_iconst (v := nI (0)) hx hb dL_law_45 (by decide) ?_
  refine lv_istore (lv' := [(9, .int (nI (0))), (8, .int (nI (0))), (7, .int (nI (0))), (6, .int (nI (0))), (5, .int (nI (0))), (4, .int (nI (y_cn y))), (3, .int (nI (y_n y))), (1, .ref (x 0)), (0, .ref (xB g)), (2, .int (nI (t)))]) hx hb dL_law_46 hl (by decide) rfl (fun ls hl => ?_)
  refine lv_iconst (v := nI (0)) hx hb dL_law_48 (by decide) ?_
  refine lv_istore (lv' := [(10, .int (nI (0))), (9, .int (nI (0))), (8, .int (nI (0))), (7, .int (nI (0))), (6, .int (nI (0))), (5, .int (nI (0))), (4, .int (nI (y_cn y))), (3, .int (nI (y_n y))), (1, .ref (x 0)), (0, .ref (xB g)), (2, .int (nI (t)))]) hx hb dL_law_49 hl (by decide) rfl (fun ls hl => ?_)
  refine lv_iconst (v := nI (0)) hx hb dL_law_51 (by decide) ?_
  refine lv_istore (lv' := [(11, .int (nI (0))), (10, .int (nI (0))), (9, .int (nI (0))), (8, .int (nI (0))), (7, .int (nI (0))), (6, .int (nI (0))), (5, .int (nI (0))), (4, .int (nI (y_cn y))), (3, .int (nI (y_n y))), (1, .ref (x 0)), (0, .ref (xB g)), (2, .int (nI (t)))]) hx hb dL_law_52 hl (by decide) rfl (fun ls hl => ?_)
  refine lv_iconst (v := nI (0)) hx hb dL_law_54 (by decide) ?_
  refine lv_istore (lv' := [(12, .int (nI (0))), (11, .int (nI (0))), (10, .int (nI (0))), (9, .int (nI (0))), (8, .int (nI (0))), (7, .int (nI (0))), (6, .int (nI (0))), (5, .int (nI (0))), (4, .int (nI (y_cn y))), (3, .int (nI (y_n y))), (1, .ref (x 0)), (0, .ref (xB g)), (2, .int (nI (t)))]) hx hb dL_law_55 hl (by decide) rfl (fun ls hl => ?_)
  exact go57 H locs ls hP hD hS (lv_sub hl [10, 11, 12, 9, 8, 7, 6, 5, 4, 3, 2, 1, 0] rfl)
set_option maxHeartbeats 4000000 in
set_option maxRecDepth 100000 in
theorem law_s8 {D : va_G} {ct : Nat → ClassId} {g : XG} {p : Program} {l : Launch} {e : Env} {s : State} {m : MethodId} {args : Array Value} {below : List Frame} {meth : Method} {c : Code} {A : Nat → Prop} {Q : State → Prop} (hx : p.tables.exec = Jvm.exec) (hb : c.code = cL_law) (hml : c.maxLocals = 27) (hown : s.vm.findClass RL = some m.cls) (hts : ∀ w ∈ wsL_law, w.before args s = true) (hK : zK D ct s) (hA : ∀ q, s.heap.size ≤ q → A q) (hX : zX g A s s.heap) (a : Nat → Nat) (y : YS) (b : Nat → Nat) (rs : RS) (d : Nat → Nat) (bz : BS) (i : Nat → Nat) (iv : IS) (lb : Nat → Nat) (lz : LST) (sa : Nat → Nat) (sy : YS) (x : Nat → Nat) (xv : Int32 × Int32) (h : Nat → Nat) (ha : Nat → Nat → Nat) (hz : HS) (R : va_W) (t : Nat) (hK4 : K43 y) (hn8 : hz.1 ≤ 8) (hc8 : hz.2.1 ≤ 8) (hs9 : xL g ≤ 260) (ht : t < 3) (cc ss : Nat) (hcc : cc + 0 ≤ room_1.cells) (hss : ss + 0 ≤ room_1.slots) (go15 : ∀ (y1 : YS) (rs1 : RS) (hz1 : HS) (H : Heap) (locs : List Loc) (ls : Array Slot), K43 y1 → hz1.1 ≤ 8 → hz1.2.1 ≤ 8 → va_P D vwCl (YW ct a y1 (KR a b rs1 (BW ct a d bz (IW ct i (xE g) iv (LW ct lb lz (YW ct sa sy (XO x a sa h b d i lb xv (HW ct h ha hz1 R)))))))) H → va_D A (YW ct a y1 (KR a b rs1 (BW ct a d bz (IW ct i (xE g) iv (LW ct lb lz (YW ct sa sy (XO x a sa h b d i lb xv (HW ct h ha hz1 R)))))))) → va_S A s.heap H locs → lv_has ls 27 [(1, .ref (x 0)), (0, .ref (xB g)), (2, .int (nI ((t + 1))))] → W p l e room_1 s m args below meth c H locs (cc + 0) (ss + 0) Q (F0 m 15 ls [])) (H : Heap) (locs : List Loc) (ls : Array Slot) (hP : va_P D vwCl (YW ct a y (KR a b rs (BW ct a d bz (IW ct i (xE g) iv (LW ct lb lz (YW ct sa sy (XO x a sa h b d i lb xv (HW ct h ha hz R)))))))) H) (hD : va_D A (YW ct a y (KR a b rs (BW ct a d bz (IW ct i (xE g) iv (LW ct lb lz (YW ct sa sy (XO x a sa h b d i lb xv (HW ct h ha hz R))))))))) (hS : va_S A s.heap H locs) (hl : lv_has ls 27 [(1, .ref (x 0)), (0, .ref (xB g)), (2, .int (nI (t)))]) : W p l e room_1 s m args below meth c H locs cc ss Q (F0 m 1494 ls []) := by
  have hJ4 := hK4.1
  obtain ⟨hy, hf⟩ := yJ_i hJ4
  have hkd : ∀ j9, j9 < y_n y → y_kd y j9 = nI 0 ∨ y_kd y j9 = nI 1 := fun j9 hj9 => (hy.2.2.2.1 j9 hj9).1
  have hn : y_n y ≤ 12 := hy.1
  have hcn : y_cn y ≤ 4 := hy.2.1
  have hrn : y_rn y ≤ 5 := hy.2.2.1
  refine lv_aload_n hx hb dL_law_1494 rfl (lv_at hl 0 rfl) ?_
  refine lv_aload_n hx hb dL_law_1495 rfl (lv_at hl 1 rfl) ?_
  refine lv_bipush (v := nI (75)) hx hb dL_law_1496 (by decide) ?_
  refine lv_iconst (v := nI (4)) hx hb dL_law_1498 (by decide) ?_
  refine lv_iload_n hx hb dL_law_1499 rfl (lv_at hl 2 rfl) ?_
  refine zNmul hx hb dL_law_1500 ?_
  refine zNadd hx hb dL_law_1501 ?_
  refine zSVX [.ref (x 0), .ref (xB g), .int (nI ((75 + (4 * t))))] [] (kL_acts (a) (y) (b) (rs) (d) (bz) (i) (iv) (lb) (lz) (sa) (sy) (x) (xv) (h) (ha) (hz) (R) ((75 + (4 * t))) (show K43 y from hK4) (show hz.1 ≤ 8 from hn8) (show hz.2.1 ≤ 8 from hc8) (show xL g ≤ 260 from hs9) (show ((75 + (4 * t))) ≤ 190 from (by omega))) hx hb hml hown hts (va_cwS 3 hts gL_law_L_acts rfl rfl rfl (by decide +kernel) ⟨(Nat.le_of_ble_eq_true rfl), (Nat.le_of_ble_eq_true rfl)⟩) hK hP hD hS hA hX rfl hl.1 rfl (Nat.le_of_ble_eq_true rfl) dL_law_1502 ⟨(by show cc + 0 ≤ room_1.cells; omega), (by show ss + 0 ≤ room_1.slots; omega)⟩ (fun u_1502 H locs hr_1502 hP hD hS => ?_)
  have hP : va_P D vwCl (YW ct a u_1502.1 (KR a b u_1502.2.1 (BW ct a d bz (IW ct i (xE g) iv (LW ct lb lz (YW ct sa sy (XO x a sa h b d i lb xv (HW ct h ha u_1502.2.2 R)))))))) H := hP
  have hD : va_D A (YW ct a u_1502.1 (KR a b u_1502.2.1 (BW ct a d bz (IW ct i (xE g) iv (LW ct lb lz (YW ct sa sy (XO x a sa h b d i lb xv (HW ct h ha u_1502.2.2 R)))))))) := hD
  refine lv_iinc (v := nI ((t + 1))) (lv' := [(2, .int (nI ((t + 1)))), (1, .ref (x 0)), (0, .ref (xB g))]) hx hb dL_law_1505 hl (k := 2) rfl (zInc _) (by decide) rfl (fun ls hl => ?_)
  refine lv_goto (tgt := 15) hx hb dL_law_1508 (by decide) ?_
  refine W.widen (k := cc + 0) (n := ss + 0) (by show cc ≤ _; omega) (by show ss ≤ _; omega) ?_
  exact go15 u_1502.1 u_1502.2.1 u_1502.2.2 H locs ls hr_1502.1 hr_1502.2.1 hr_1502.2.2 hP hD hS (lv_sub hl [1, 2, 0] rfl)
