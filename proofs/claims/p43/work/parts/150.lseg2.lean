/-! THE LAW'S BODY: the things, one by one -/
theorem yJ_A {y : YS} (h : yJ y) : yA y := by
  obtain ⟨g, fl, -, -, hA⟩ := h
  exact hA
theorem yJ_D {y : YS} (h : yJ y) : yD y := (yJ_A h).2.1
theorem cn_kd {y : YS} {k : Nat} {P : Int32} (h : y_kd y k = nI 0 ∨ y_kd y k = nI 1) (hP : P = nI (cN (fun j => decide (y_kd y j = nI 0)) k)) : P + (nI 1 - y_kd y k) = nI (cN (fun j => decide (y_kd y j = nI 0)) (k + 1)) := by
  rw [cN, hP]
  rcases h with h | h
  · rw [if_pos (decide_eq_true h), h, pk_sub (by decide), nI_add]
  · rw [if_neg (by rw [decide_eq_false (by rw [h]; decide)]; decide), h, pk_sub (by decide), nI_add]
theorem cn_cu0 {y : YS} {k Ld : Nat} (h : y_cu y k = -4) (hL : Ld = cN (fun j => decide (¬ y_cu y j = -4)) k) : Ld + 0 = cN (fun j => decide (¬ y_cu y j = -4)) (k + 1) := by
  rw [cN, if_neg (by rw [decide_eq_false (fun q => q h)]; decide), hL]
theorem cn_cu1 {y : YS} {k Ld c : Nat} (hc : c < 2 ^ 31) (h : y_cu y k = nI c) (hL : Ld = cN (fun j => decide (¬ y_cu y j = -4)) k) : Ld + 1 = cN (fun j => decide (¬ y_cu y j = -4)) (k + 1) := by
  rw [cN, if_pos (show decide (¬ y_cu y k = -4) = true from decide_eq_true (fun q => nI_ne4 hc (h.symm.trans q))), hL]
set_option maxHeartbeats 4000000 in
set_option maxRecDepth 100000 in
theorem law_s2 {D : va_G} {ct : Nat → ClassId} {g : XG} {p : Program} {l : Launch} {e : Env} {s : State} {m : MethodId} {args : Array Value} {below : List Frame} {meth : Method} {c : Code} {A : Nat → Prop} {Q : State → Prop} (hx : p.tables.exec = Jvm.exec) (hb : c.code = cL_law) (hml : c.maxLocals = 27) (hown : s.vm.findClass RL = some m.cls) (hts : ∀ w ∈ wsL_law, w.before args s = true) (hK : zK D ct s) (hA : ∀ q, s.heap.size ≤ q → A q) (hX : zX g A s s.heap) (a : Nat → Nat) (y : YS) (b : Nat → Nat) (rs : RS) (d : Nat → Nat) (bz : BS) (i : Nat → Nat) (iv : IS) (lb : Nat → Nat) (lz : LST) (sa : Nat → Nat) (sy : YS) (x : Nat → Nat) (xv : Int32 × Int32) (h : Nat → Nat) (ha : Nat → Nat → Nat) (hz : HS) (R : va_W) (t : Nat) (hK4 : K43 y) (cc ss : Nat) (hcc : cc + 0 ≤ room_1.cells) (hss : ss + 0 ≤ room_1.slots) (go189 : ∀ (P : Int32) (Ld : Nat) (AW : Int32) (H : Heap) (locs : List Loc) (ls : Array Slot), P = nI (t_tk y (nI 0)) → Ld = t_tc y → AW = t_sw y → va_P D vwCl (YW ct a y (KR a b rs (BW ct a d bz (IW ct i (xE g) iv (LW ct lb lz (YW ct sa sy (XO x a sa h b d i lb xv (HW ct h ha hz R)))))))) H → va_D A (YW ct a y (KR a b rs (BW ct a d bz (IW ct i (xE g) iv (LW ct lb lz (YW ct sa sy (XO x a sa h b d i lb xv (HW ct h ha hz R)))))))) → va_S A s.heap H locs → lv_has ls 27 [(1, .ref (x 0)), (0, .ref (xB g)), (2, .int (nI (t))), (3, .int (nI (y_n y))), (4, .int (nI (y_cn y))), (5, .int (P)), (6, .int (nI (Ld))), (7, .int (nI (0))), (8, .int (AW)), (9, .int (nI (0))), (10, .int (nI (0))), (11, .int (nI (0))), (12, .int (nI (y_n y)))] → W p l e room_1 s m args below meth c H locs cc ss Q (F0 m 189 ls [])) (H : Heap) (locs : List Loc) (ls : Array Slot) (hP : va_P D vwCl (YW ct a y (KR a b rs (BW ct a d bz (IW ct i (xE g) iv (LW ct lb lz (YW ct sa sy (XO x a sa h b d i lb xv (HW ct h ha hz R)))))))) H) (hD : va_D A (YW ct a y (KR a b rs (BW ct a d bz (IW ct i (xE g) iv (LW ct lb lz (YW ct sa sy (XO x a sa h b d i lb xv (HW ct h ha hz R))))))))) (hS : va_S A s.heap H locs) (hl : lv_has ls 27 [(1, .ref (x 0)), (0, .ref (xB g)), (2, .int (nI (t))), (3, .int (nI (y_n y))), (4, .int (nI (y_cn y))), (5, .int (nI (0))), (6, .int (nI (0))), (7, .int (nI (0))), (8, .int (nI (0))), (9, .int (nI (0))), (10, .int (nI (0))), (11, .int (nI (0))), (12, .int (nI (0)))]) : W p l e room_1 s m args below meth c H locs cc ss Q (F0 m 57 ls []) := by
  have hJ4 := hK4.1
  obtain ⟨hy, hf⟩ := yJ_i hJ4
  have hD4 : yD y := yJ_D hJ4
  have hkd : ∀ j9, j9 < y_n y → y_kd y j9 = nI 0 ∨ y_kd y j9 = nI 1 := fun j9 hj9 => (hy.2.2.2.1 j9 hj9).1
  have hn : y_n y ≤ 12 := hy.1
  have hcn : y_cn y ≤ 4 := hy.2.1
  have hrn : y_rn y ≤ 5 := hy.2.2.1
  have lp57 : ∀ (fu : Nat) (k : Nat) (P : Int32) (Ld : Nat) (AW : Int32) (H : Heap) (locs : List Loc) (ls : Array Slot), (k ≤ y_n y) → (P = nI (cN (fun j => decide (y_kd y j = nI 0)) k)) → (Ld = cN (fun j => decide (¬ y_cu y j = -4)) k) → (AW = sI (fun j => y_w y j) k) → y_n y - k < fu → va_P D vwCl (YW ct a y (KR a b rs (BW ct a d bz (IW ct i (xE g) iv (LW ct lb lz (YW ct sa sy (XO x a sa h b d i lb xv (HW ct h ha hz R)))))))) H → va_D A (YW ct a y (KR a b rs (BW ct a d bz (IW ct i (xE g) iv (LW ct lb lz (YW ct sa sy (XO x a sa h b d i lb xv (HW ct h ha hz R)))))))) → va_S A s.heap H locs → lv_has ls 27 [(0, .ref (xB g)), (1, .ref (x 0)), (2, .int (nI (t))), (3, .int (nI (y_n y))), (4, .int (nI (y_cn y))), (5, .int (P)), (6, .int (nI (Ld))), (7, .int (nI (0))), (8, .int (AW)), (9, .int (nI (0))), (10, .int (nI (0))), (11, .int (nI (0))), (12, .int (nI (k)))] → W p l e room_1 s m args below meth c H locs cc ss Q (F0 m 57 ls []) := by
    intro fu
    induction fu with
    | zero => intro k P Ld AW H locs ls hk hP9 hL9 hW9 hfu; exact absurd hfu (Nat.not_lt_zero _)
    | succ fu ih57 =>
      intro k P Ld AW H locs ls hk hP9 hL9 hW9 hfu hP hD hS hl
      refine lv_iload hx hb dL_law_57 (lv_at hl 12 rfl) ?_
      refine lv_iload_n hx hb dL_law_59 rfl (lv_at hl 3 rfl) ?_
      refine zN_icmp_ge (tgt := 189) hx hb (by omega) (by omega) dL_law_60 (by decide) (fun c60_1 => ?_) (fun c60_1 => ?_)
      · skip
        obtain rfl : k = y_n y := by omega
        exact go189 P Ld AW H locs ls hP9 hL9 hW9 hP hD hS (lv_sub hl [1, 0, 2, 3, 4, 5, 6, 7, 8, 9, 10, 11, 12] rfl)
      · skip
        refine lv_aload_n hx hb dL_law_63 rfl (lv_at hl 1 rfl) ?_
        refine lv_iload hx hb dL_law_64 (lv_at hl 12 rfl) ?_
        refine lv_iconst (v := nI (2)) hx hb dL_law_66 (by decide) ?_
        refine zVIX [.int (nI (k)), .int (nI (2))] [] (kX10_thingOf (a) (y) (b) (rs) (d) (bz) (i) (iv) (lb) (lz) (sa) (sy) (x) (xv) (h) (ha) (hz) (R) (nI (k)) (nI (2)) (show yI y from hy) (show yF y from hf)) hx hb hml hown hts (cwV 2 hts gL_law_X10_thingOf rfl rfl rfl (by decide +kernel) ⟨(Nat.le_of_ble_eq_true rfl), (Nat.le_of_ble_eq_true rfl)⟩) hK hP hD hS hA hX (va_recv hK hP (ci := 9) (q0 := 38) rfl rfl) rfl hl.1 rfl (Nat.le_of_ble_eq_true rfl) dL_law_67 ⟨(by show cc + 0 ≤ room_1.cells; omega), (by show ss + 0 ≤ room_1.slots; omega)⟩ (fun r_67 _ H locs hr_67 hP hD hS => ?_)
        subst hr_67
        have hP : va_P D vwCl (YW ct a y (KR a b rs (BW ct a d bz (IW ct i (xE g) iv (LW ct lb lz (YW ct sa sy (XO x a sa h b d i lb xv (HW ct h ha hz R)))))))) H := hP
        have hD : va_D A (YW ct a y (KR a b rs (BW ct a d bz (IW ct i (xE g) iv (LW ct lb lz (YW ct sa sy (XO x a sa h b d i lb xv (HW ct h ha hz R)))))))) := hD
        obtain ⟨hkd9, -, hcu9⟩ := hy.2.2.2.1 k (by omega)
        rcases hcu9 with ⟨e1, e2⟩ | ⟨c8, q8, hc8, hq8, e1, e2, hif⟩
        · skip
          refine zTop (y := (-4)) ((a_th (by omega) hn).2.2.1.trans e1) ?_
          refine lv_istore (lv' := [(13, .int ((-4))), (0, .ref (xB g)), (1, .ref (x 0)), (2, .int (nI (t))), (3, .int (nI (y_n y))), (4, .int (nI (y_cn y))), (5, .int (P)), (6, .int (nI (Ld))), (7, .int (nI (0))), (8, .int (AW)), (9, .int (nI (0))), (10, .int (nI (0))), (11, .int (nI (0))), (12, .int (nI (k)))]) hx hb dL_law_70 hl (by decide) rfl (fun ls hl => ?_)
          refine lv_aload_n hx hb dL_law_72 rfl (lv_at hl 2 rfl) ?_
          refine lv_iload hx hb dL_law_73 (lv_at hl 13 rfl) ?_
          refine lv_iconst (v := nI (3)) hx hb dL_law_75 (by decide) ?_
          refine zVIX [.int (nI (k)), .int (nI (3))] [] (kX10_thingOf (a) (y) (b) (rs) (d) (bz) (i) (iv) (lb) (lz) (sa) (sy) (x) (xv) (h) (ha) (hz) (R) (nI (k)) (nI (3)) (show yI y from hy) (show yF y from hf)) hx hb hml hown hts (cwV 2 hts gL_law_X10_thingOf rfl rfl rfl (by decide +kernel) ⟨(Nat.le_of_ble_eq_true rfl), (Nat.le_of_ble_eq_true rfl)⟩) hK hP hD hS hA hX (va_recv hK hP (ci := 9) (q0 := 38) rfl rfl) rfl hl.1 rfl (Nat.le_of_ble_eq_true rfl) dL_law_76 ⟨(by show cc + 0 ≤ room_1.cells; omega), (by show ss + 0 ≤ room_1.slots; omega)⟩ (fun r_76 _ H locs hr_76 hP hD hS => ?_)
          subst hr_76
          have hP : va_P D vwCl (YW ct a y (KR a b rs (BW ct a d bz (IW ct i (xE g) iv (LW ct lb lz (YW ct sa sy (XO x a sa h b d i lb xv (HW ct h ha hz R)))))))) H := hP
          have hD : va_D A (YW ct a y (KR a b rs (BW ct a d bz (IW ct i (xE g) iv (LW ct lb lz (YW ct sa sy (XO x a sa h b d i lb xv (HW ct h ha hz R)))))))) := hD
          refine zTop (y := (-4)) ((a_th (by omega) hn).2.2.2.trans e2) ?_
          refine lv_istore (lv' := [(14, .int ((-4))), (13, .int ((-4))), (0, .ref (xB g)), (1, .ref (x 0)), (2, .int (nI (t))), (3, .int (nI (y_n y))), (4, .int (nI (y_cn y))), (5, .int (P)), (6, .int (nI (Ld))), (7, .int (nI (0))), (8, .int (AW)), (9, .int (nI (0))), (10, .int (nI (0))), (11, .int (nI (0))), (12, .int (nI (k)))]) hx hb dL_law_79 hl (by decide) rfl (fun ls hl => ?_)
          refine lv_iload hx hb dL_law_81 (lv_at hl 7 rfl) ?_
          refine lv_iconst (v := nI (1)) hx hb dL_law_83 (by decide) ?_
          refine lv_aload_n hx hb dL_law_84 rfl (lv_at hl 3 rfl) ?_
          refine lv_iload hx hb dL_law_85 (lv_at hl 14 rfl) ?_
          refine lv_iconst (v := nI (0)) hx hb dL_law_87 (by decide) ?_
          refine zVIX [.int (nI (k)), .int (nI (0))] [.int (nI (1)), .int (P)] (kX10_thingOf (a) (y) (b) (rs) (d) (bz) (i) (iv) (lb) (lz) (sa) (sy) (x) (xv) (h) (ha) (hz) (R) (nI (k)) (nI (0)) (show yI y from hy) (show yF y from hf)) hx hb hml hown hts (cwV 2 hts gL_law_X10_thingOf rfl rfl rfl (by decide +kernel) ⟨(Nat.le_of_ble_eq_true rfl), (Nat.le_of_ble_eq_true rfl)⟩) hK hP hD hS hA hX (va_recv hK hP (ci := 9) (q0 := 38) rfl rfl) rfl hl.1 rfl (Nat.le_of_ble_eq_true rfl) dL_law_88 ⟨(by show cc + 0 ≤ room_1.cells; omega), (by show ss + 0 ≤ room_1.slots; omega)⟩ (fun r_88 _ H locs hr_88 hP hD hS => ?_)
          subst hr_88
          have hP : va_P D vwCl (YW ct a y (KR a b rs (BW ct a d bz (IW ct i (xE g) iv (LW ct lb lz (YW ct sa sy (XO x a sa h b d i lb xv (HW ct h ha hz R)))))))) H := hP
          have hD : va_D A (YW ct a y (KR a b rs (BW ct a d bz (IW ct i (xE g) iv (LW ct lb lz (YW ct sa sy (XO x a sa h b d i lb xv (HW ct h ha hz R)))))))) := hD
          refine zTop (y := (y_kd y k)) (a_th (by omega) hn).1 ?_
          refine lv_isub hx hb dL_law_91 ?_
          refine lv_iadd hx hb dL_law_92 ?_
          refine lv_istore (lv' := [(5, .int ((P + (nI (1) - (y_kd y k))))), (14, .int ((-4))), (13, .int ((-4))), (0, .ref (xB g)), (1, .ref (x 0)), (2, .int (nI (t))), (3, .int (nI (y_n y))), (4, .int (nI (y_cn y))), (6, .int (nI (Ld))), (7, .int (nI (0))), (8, .int (AW)), (9, .int (nI (0))), (10, .int (nI (0))), (11, .int (nI (0))), (12, .int (nI (k)))]) hx hb dL_law_93 hl (by decide) rfl (fun ls hl => ?_)
          refine lv_iload hx hb dL_law_95 (lv_at hl 10 rfl) ?_
          refine lv_aload_n hx hb dL_law_97 rfl (lv_at hl 4 rfl) ?_
          refine lv_iload hx hb dL_law_98 (lv_at hl 14 rfl) ?_
          refine lv_iconst (v := nI (1)) hx hb dL_law_100 (by decide) ?_
          refine zVIX [.int (nI (k)), .int (nI (1))] [.int (AW)] (kX10_thingOf (a) (y) (b) (rs) (d) (bz) (i) (iv) (lb) (lz) (sa) (sy) (x) (xv) (h) (ha) (hz) (R) (nI (k)) (nI (1)) (show yI y from hy) (show yF y from hf)) hx hb hml hown hts (cwV 2 hts gL_law_X10_thingOf rfl rfl rfl (by decide +kernel) ⟨(Nat.le_of_ble_eq_true rfl), (Nat.le_of_ble_eq_true rfl)⟩) hK hP hD hS hA hX (va_recv hK hP (ci := 9) (q0 := 38) rfl rfl) rfl hl.1 rfl (Nat.le_of_ble_eq_true rfl) dL_law_101 ⟨(by show cc + 0 ≤ room_1.cells; omega), (by show ss + 0 ≤ room_1.slots; omega)⟩ (fun r_101 _ H locs hr_101 hP hD hS => ?_)
          subst hr_101
          have hP : va_P D vwCl (YW ct a y (KR a b rs (BW ct a d bz (IW ct i (xE g) iv (LW ct lb lz (YW ct sa sy (XO x a sa h b d i lb xv (HW ct h ha hz R)))))))) H := hP
          have hD : va_D A (YW ct a y (KR a b rs (BW ct a d bz (IW ct i (xE g) iv (LW ct lb lz (YW ct sa sy (XO x a sa h b d i lb xv (HW ct h ha hz R)))))))) := hD
          refine zTop (y := (y_w y k)) (a_th (by omega) hn).2.1 ?_
          refine lv_iadd hx hb dL_law_104 ?_
          refine lv_istore (lv' := [(8, .int ((AW + (y_w y k)))), (5, .int ((P + (nI (1) - (y_kd y k))))), (14, .int ((-4))), (13, .int ((-4))), (0, .ref (xB g)), (1, .ref (x 0)), (2, .int (nI (t))), (3, .int (nI (y_n y))), (4, .int (nI (y_cn y))), (6, .int (nI (Ld))), (7, .int (nI (0))), (9, .int (nI (0))), (10, .int (nI (0))), (11, .int (nI (0))), (12, .int (nI (k)))]) hx hb dL_law_105 hl (by decide) rfl (fun ls hl => ?_)
          refine lv_iload hx hb dL_law_107 (lv_at hl 9 rfl) ?_
          refine lv_iload hx hb dL_law_109 (lv_at hl 3 rfl) ?_
          refine lv_if_lt (tgt := 118) hx hb dL_law_111 (by decide) (fun c9 => ?_) (fun c9 => absurd (by decide) c9)
          refine lv_iconst (v := nI (0)) hx hb dL_law_118 (by decide) ?_
          refine zNadd hx hb dL_law_119 ?_
          refine lv_istore (lv' := [(6, .int (nI ((Ld + 0)))), (8, .int ((AW + (y_w y k)))), (5, .int ((P + (nI (1) - (y_kd y k))))), (14, .int ((-4))), (13, .int ((-4))), (0, .ref (xB g)), (1, .ref (x 0)), (2, .int (nI (t))), (3, .int (nI (y_n y))), (4, .int (nI (y_cn y))), (7, .int (nI (0))), (9, .int (nI (0))), (10, .int (nI (0))), (11, .int (nI (0))), (12, .int (nI (k)))]) hx hb dL_law_120 hl (by decide) rfl (fun ls hl => ?_)
          refine lv_iload hx hb dL_law_122 (lv_at hl 4 rfl) ?_
          refine lv_if_ge (tgt := 137) hx hb dL_law_124 (by decide) (fun c9 => absurd c9 (by decide)) (fun c9 => ?_)
          refine lv_iload hx hb dL_law_127 (lv_at hl 3 rfl) ?_
          refine lv_bipush (v := (-4)) hx hb dL_law_129 (by decide) ?_
          refine lv_icmp_eq (tgt := 183) hx hb dL_law_131 (by decide) (fun c9 => ?_) (fun c9 => absurd rfl c9)
          refine lv_iinc (v := nI ((k + 1))) (lv' := [(12, .int (nI ((k + 1)))), (6, .int (nI ((Ld + 0)))), (8, .int ((AW + (y_w y k)))), (5, .int ((P + (nI (1) - (y_kd y k))))), (14, .int ((-4))), (13, .int ((-4))), (0, .ref (xB g)), (1, .ref (x 0)), (2, .int (nI (t))), (3, .int (nI (y_n y))), (4, .int (nI (y_cn y))), (7, .int (nI (0))), (9, .int (nI (0))), (10, .int (nI (0))), (11, .int (nI (0)))]) hx hb dL_law_183 hl (k := 14) rfl (zInc _) (by decide) rfl (fun ls hl => ?_)
          refine lv_goto (tgt := 57) hx hb dL_law_186 (by decide) ?_
          exact ih57 ((k + 1)) ((P + (nI (1) - (y_kd y k)))) ((Ld + 0)) ((AW + (y_w y k))) H locs ls (by omega) (cn_kd hkd9 hP9) (cn_cu0 e1 hL9) (by rw [sI, hW9]) (by omega) hP hD hS (lv_sub hl [6, 7, 8, 9, 10, 3, 1, 11, 2, 12, 13, 14, 0] rfl)
        · skip
          refine zTop (y := nI (c8)) ((a_th (by omega) hn).2.2.1.trans e1) ?_
          refine lv_istore (lv' := [(13, .int (nI (c8))), (0, .ref (xB g)), (1, .ref (x 0)), (2, .int (nI (t))), (3, .int (nI (y_n y))), (4, .int (nI (y_cn y))), (5, .int (P)), (6, .int (nI (Ld))), (7, .int (nI (0))), (8, .int (AW)), (9, .int (nI (0))), (10, .int (nI (0))), (11, .int (nI (0))), (12, .int (nI (k)))]) hx hb dL_law_70 hl (by decide) rfl (fun ls hl => ?_)
          refine lv_aload_n hx hb dL_law_72 rfl (lv_at hl 2 rfl) ?_
          refine lv_iload hx hb dL_law_73 (lv_at hl 13 rfl) ?_
          refine lv_iconst (v := nI (3)) hx hb dL_law_75 (by decide) ?_
          refine zVIX [.int (nI (k)), .int (nI (3))] [] (kX10_thingOf (a) (y) (b) (rs) (d) (bz) (i) (iv) (lb) (lz) (sa) (sy) (x) (xv) (h) (ha) (hz) (R) (nI (k)) (nI (3)) (show yI y from hy) (show yF y from hf)) hx hb hml hown hts (cwV 2 hts gL_law_X10_thingOf rfl rfl rfl (by decide +kernel) ⟨(Nat.le_of_ble_eq_true rfl), (Nat.le_of_ble_eq_true rfl)⟩) hK hP hD hS hA hX (va_recv hK hP (ci := 9) (q0 := 38) rfl rfl) rfl hl.1 rfl (Nat.le_of_ble_eq_true rfl) dL_law_76 ⟨(by show cc + 0 ≤ room_1.cells; omega), (by show ss + 0 ≤ room_1.slots; omega)⟩ (fun r_76 _ H locs hr_76 hP hD hS => ?_)
          subst hr_76
          have hP : va_P D vwCl (YW ct a y (KR a b rs (BW ct a d bz (IW ct i (xE g) iv (LW ct lb lz (YW ct sa sy (XO x a sa h b d i lb xv (HW ct h ha hz R)))))))) H := hP
          have hD : va_D A (YW ct a y (KR a b rs (BW ct a d bz (IW ct i (xE g) iv (LW ct lb lz (YW ct sa sy (XO x a sa h b d i lb xv (HW ct h ha hz R)))))))) := hD
          refine zTop (y := nI (q8)) ((a_th (by omega) hn).2.2.2.trans e2) ?_
          refine lv_istore (lv' := [(14, .int (nI (q8))), (13, .int (nI (c8))), (0, .ref (xB g)), (1, .ref (x 0)), (2, .int (nI (t))), (3, .int (nI (y_n y))), (4, .int (nI (y_cn y))), (5, .int (P)), (6, .int (nI (Ld))), (7, .int (nI (0))), (8, .int (AW)), (9, .int (nI (0))), (10, .int (nI (0))), (11, .int (nI (0))), (12, .int (nI (k)))]) hx hb dL_law_79 hl (by decide) rfl (fun ls hl => ?_)
          refine lv_iload hx hb dL_law_81 (lv_at hl 7 rfl) ?_
          refine lv_iconst (v := nI (1)) hx hb dL_law_83 (by decide) ?_
          refine lv_aload_n hx hb dL_law_84 rfl (lv_at hl 3 rfl) ?_
          refine lv_iload hx hb dL_law_85 (lv_at hl 14 rfl) ?_
          refine lv_iconst (v := nI (0)) hx hb dL_law_87 (by decide) ?_
          refine zVIX [.int (nI (k)), .int (nI (0))] [.int (nI (1)), .int (P)] (kX10_thingOf (a) (y) (b) (rs) (d) (bz) (i) (iv) (lb) (lz) (sa) (sy) (x) (xv) (h) (ha) (hz) (R) (nI (k)) (nI (0)) (show yI y from hy) (show yF y from hf)) hx hb hml hown hts (cwV 2 hts gL_law_X10_thingOf rfl rfl rfl (by decide +kernel) ⟨(Nat.le_of_ble_eq_true rfl), (Nat.le_of_ble_eq_true rfl)⟩) hK hP hD hS hA hX (va_recv hK hP (ci := 9) (q0 := 38) rfl rfl) rfl hl.1 rfl (Nat.le_of_ble_eq_true rfl) dL_law_88 ⟨(by show cc + 0 ≤ room_1.cells; omega), (by show ss + 0 ≤ room_1.slots; omega)⟩ (fun r_88 _ H locs hr_88 hP hD hS => ?_)
          subst hr_88
          have hP : va_P D vwCl (YW ct a y (KR a b rs (BW ct a d bz (IW ct i (xE g) iv (LW ct lb lz (YW ct sa sy (XO x a sa h b d i lb xv (HW ct h ha hz R)))))))) H := hP
          have hD : va_D A (YW ct a y (KR a b rs (BW ct a d bz (IW ct i (xE g) iv (LW ct lb lz (YW ct sa sy (XO x a sa h b d i lb xv (HW ct h ha hz R)))))))) := hD
          refine zTop (y := (y_kd y k)) (a_th (by omega) hn).1 ?_
          refine lv_isub hx hb dL_law_91 ?_
          refine lv_iadd hx hb dL_law_92 ?_
          refine lv_istore (lv' := [(5, .int ((P + (nI (1) - (y_kd y k))))), (14, .int (nI (q8))), (13, .int (nI (c8))), (0, .ref (xB g)), (1, .ref (x 0)), (2, .int (nI (t))), (3, .int (nI (y_n y))), (4, .int (nI (y_cn y))), (6, .int (nI (Ld))), (7, .int (nI (0))), (8, .int (AW)), (9, .int (nI (0))), (10, .int (nI (0))), (11, .int (nI (0))), (12, .int (nI (k)))]) hx hb dL_law_93 hl (by decide) rfl (fun ls hl => ?_)
          refine lv_iload hx hb dL_law_95 (lv_at hl 10 rfl) ?_
          refine lv_aload_n hx hb dL_law_97 rfl (lv_at hl 4 rfl) ?_
          refine lv_iload hx hb dL_law_98 (lv_at hl 14 rfl) ?_
          refine lv_iconst (v := nI (1)) hx hb dL_law_100 (by decide) ?_
          refine zVIX [.int (nI (k)), .int (nI (1))] [.int (AW)] (kX10_thingOf (a) (y) (b) (rs) (d) (bz) (i) (iv) (lb) (lz) (sa) (sy) (x) (xv) (h) (ha) (hz) (R) (nI (k)) (nI (1)) (show yI y from hy) (show yF y from hf)) hx hb hml hown hts (cwV 2 hts gL_law_X10_thingOf rfl rfl rfl (by decide +kernel) ⟨(Nat.le_of_ble_eq_true rfl), (Nat.le_of_ble_eq_true rfl)⟩) hK hP hD hS hA hX (va_recv hK hP (ci := 9) (q0 := 38) rfl rfl) rfl hl.1 rfl (Nat.le_of_ble_eq_true rfl) dL_law_101 ⟨(by show cc + 0 ≤ room_1.cells; omega), (by show ss + 0 ≤ room_1.slots; omega)⟩ (fun r_101 _ H locs hr_101 hP hD hS => ?_)
          subst hr_101
          have hP : va_P D vwCl (YW ct a y (KR a b rs (BW ct a d bz (IW ct i (xE g) iv (LW ct lb lz (YW ct sa sy (XO x a sa h b d i lb xv (HW ct h ha hz R)))))))) H := hP
          have hD : va_D A (YW ct a y (KR a b rs (BW ct a d bz (IW ct i (xE g) iv (LW ct lb lz (YW ct sa sy (XO x a sa h b d i lb xv (HW ct h ha hz R)))))))) := hD
          refine zTop (y := (y_w y k)) (a_th (by omega) hn).2.1 ?_
          refine lv_iadd hx hb dL_law_104 ?_
          refine lv_istore (lv' := [(8, .int ((AW + (y_w y k)))), (5, .int ((P + (nI (1) - (y_kd y k))))), (14, .int (nI (q8))), (13, .int (nI (c8))), (0, .ref (xB g)), (1, .ref (x 0)), (2, .int (nI (t))), (3, .int (nI (y_n y))), (4, .int (nI (y_cn y))), (6, .int (nI (Ld))), (7, .int (nI (0))), (9, .int (nI (0))), (10, .int (nI (0))), (11, .int (nI (0))), (12, .int (nI (k)))]) hx hb dL_law_105 hl (by decide) rfl (fun ls hl => ?_)
          refine lv_iload hx hb dL_law_107 (lv_at hl 9 rfl) ?_
          refine lv_iload hx hb dL_law_109 (lv_at hl 3 rfl) ?_
          refine zN_if_lt (tgt := 118) hx hb (by omega) dL_law_111 (by decide) ?_
          refine lv_iconst (v := nI (1)) hx hb dL_law_114 (by decide) ?_
          refine lv_goto (tgt := 119) hx hb dL_law_115 (by decide) ?_
          refine zNadd hx hb dL_law_119 ?_
          refine lv_istore (lv' := [(6, .int (nI ((Ld + 1)))), (8, .int ((AW + (y_w y k)))), (5, .int ((P + (nI (1) - (y_kd y k))))), (14, .int (nI (q8))), (13, .int (nI (c8))), (0, .ref (xB g)), (1, .ref (x 0)), (2, .int (nI (t))), (3, .int (nI (y_n y))), (4, .int (nI (y_cn y))), (7, .int (nI (0))), (9, .int (nI (0))), (10, .int (nI (0))), (11, .int (nI (0))), (12, .int (nI (k)))]) hx hb dL_law_120 hl (by decide) rfl (fun ls hl => ?_)
          refine lv_iload hx hb dL_law_122 (lv_at hl 4 rfl) ?_
          refine zN_if_ge (tgt := 137) hx hb (by omega) dL_law_124 (by decide) ?_
          refine lv_aload_n hx hb dL_law_137 rfl (lv_at hl 6 rfl) ?_
          refine lv_iload hx hb dL_law_138 (lv_at hl 4 rfl) ?_
          refine lv_iload hx hb dL_law_140 (lv_at hl 3 rfl) ?_
          refine zVIX [.int (nI (c8)), .int (nI (q8))] [] (kX10_at (a) (y) (b) (rs) (d) (bz) (i) (iv) (lb) (lz) (sa) (sy) (x) (xv) (h) (ha) (hz) (R) (nI (c8)) (nI (q8)) (show yI y from hy) (show yF y from hf)) hx hb hml hown hts (cwV 2 hts gL_law_X10_at rfl rfl rfl (by decide +kernel) ⟨(Nat.le_of_ble_eq_true rfl), (Nat.le_of_ble_eq_true rfl)⟩) hK hP hD hS hA hX (va_recv hK hP (ci := 9) (q0 := 38) rfl rfl) rfl hl.1 rfl (Nat.le_of_ble_eq_true rfl) dL_law_142 ⟨(by show cc + 0 ≤ room_1.cells; omega), (by show ss + 0 ≤ room_1.slots; omega)⟩ (fun r_142 _ H locs hr_142 hP hD hS => ?_)
          subst hr_142
          have hP : va_P D vwCl (YW ct a y (KR a b rs (BW ct a d bz (IW ct i (xE g) iv (LW ct lb lz (YW ct sa sy (XO x a sa h b d i lb xv (HW ct h ha hz R)))))))) H := hP
          have hD : va_D A (YW ct a y (KR a b rs (BW ct a d bz (IW ct i (xE g) iv (LW ct lb lz (YW ct sa sy (XO x a sa h b d i lb xv (HW ct h ha hz R)))))))) := hD
          refine zTop (y := nI (k)) ((a_at_in hc8 hcn hq8).trans (at_is hD4 (by omega) (by omega) e1 e2)) ?_
          refine lv_iload hx hb dL_law_145 (lv_at hl 14 rfl) ?_
          refine lv_icmp_ne (tgt := 181) hx hb dL_law_147 (by decide) (fun c9 => absurd rfl c9) (fun c9 => ?_)
          refine lv_iload hx hb dL_law_150 (lv_at hl 3 rfl) ?_
          refine lv_bipush (v := nI (6)) hx hb dL_law_152 (by decide) ?_
          refine zN_icmp_ne (tgt := 161) hx hb (by omega) (by omega) dL_law_154 (by decide) (fun c154_6 => ?_) (fun c154_6 => ?_)
          · skip
            refine lv_iconst (v := nI (0)) hx hb dL_law_161 (by decide) ?_
            refine lv_aload_n hx hb dL_law_162 rfl (lv_at hl 6 rfl) ?_
            refine lv_iload hx hb dL_law_163 (lv_at hl 14 rfl) ?_
            refine lv_iconst (v := nI (0)) hx hb dL_law_165 (by decide) ?_
            refine zVIX [.int (nI (k)), .int (nI (0))] [.int (nI (0))] (kX10_thingOf (a) (y) (b) (rs) (d) (bz) (i) (iv) (lb) (lz) (sa) (sy) (x) (xv) (h) (ha) (hz) (R) (nI (k)) (nI (0)) (show yI y from hy) (show yF y from hf)) hx hb hml hown hts (cwV 2 hts gL_law_X10_thingOf rfl rfl rfl (by decide +kernel) ⟨(Nat.le_of_ble_eq_true rfl), (Nat.le_of_ble_eq_true rfl)⟩) hK hP hD hS hA hX (va_recv hK hP (ci := 9) (q0 := 38) rfl rfl) rfl hl.1 rfl (Nat.le_of_ble_eq_true rfl) dL_law_166 ⟨(by show cc + 0 ≤ room_1.cells; omega), (by show ss + 0 ≤ room_1.slots; omega)⟩ (fun r_166 _ H locs hr_166 hP hD hS => ?_)
            subst hr_166
            have hP : va_P D vwCl (YW ct a y (KR a b rs (BW ct a d bz (IW ct i (xE g) iv (LW ct lb lz (YW ct sa sy (XO x a sa h b d i lb xv (HW ct h ha hz R)))))))) H := hP
            have hD : va_D A (YW ct a y (KR a b rs (BW ct a d bz (IW ct i (xE g) iv (LW ct lb lz (YW ct sa sy (XO x a sa h b d i lb xv (HW ct h ha hz R)))))))) := hD
            refine zTop (y := (y_kd y k)) (a_th (by omega) hn).1 ?_
            refine lv_iconst (v := nI (1)) hx hb dL_law_169 (by decide) ?_
            refine lv_icmp_ne (tgt := 177) hx hb dL_law_170 (by decide) (fun c170_7 => ?_) (fun c170_7 => ?_)
            · skip
              refine lv_iconst (v := nI (0)) hx hb dL_law_177 (by decide) ?_
              refine lv_icmp_eq (tgt := 183) hx hb dL_law_178 (by decide) (fun c9 => ?_) (fun c9 => absurd rfl c9)
              refine lv_iinc (v := nI ((k + 1))) (lv' := [(12, .int (nI ((k + 1)))), (6, .int (nI ((Ld + 1)))), (8, .int ((AW + (y_w y k)))), (5, .int ((P + (nI (1) - (y_kd y k))))), (14, .int (nI (q8))), (13, .int (nI (c8))), (0, .ref (xB g)), (1, .ref (x 0)), (2, .int (nI (t))), (3, .int (nI (y_n y))), (4, .int (nI (y_cn y))), (7, .int (nI (0))), (9, .int (nI (0))), (10, .int (nI (0))), (11, .int (nI (0)))]) hx hb dL_law_183 hl (k := 14) rfl (zInc _) (by decide) rfl (fun ls hl => ?_)
              refine lv_goto (tgt := 57) hx hb dL_law_186 (by decide) ?_
              exact ih57 ((k + 1)) ((P + (nI (1) - (y_kd y k)))) ((Ld + 1)) ((AW + (y_w y k))) H locs ls (by omega) (cn_kd hkd9 hP9) (cn_cu1 (by omega) e1 hL9) (by rw [sI, hW9]) (by omega) hP hD hS (lv_sub hl [6, 7, 8, 9, 10, 3, 1, 11, 2, 12, 13, 14, 0] rfl)
            · skip
              refine lv_iconst (v := nI (1)) hx hb dL_law_173 (by decide) ?_
              refine lv_goto (tgt := 178) hx hb dL_law_174 (by decide) ?_
              refine lv_icmp_eq (tgt := 183) hx hb dL_law_178 (by decide) (fun c9 => absurd c9 (by decide)) (fun c9 => ?_)
              exact absurd (hif.mpr c170_7) c154_6
          · skip
            refine lv_iconst (v := nI (1)) hx hb dL_law_157 (by decide) ?_
            refine lv_goto (tgt := 162) hx hb dL_law_158 (by decide) ?_
            refine lv_aload_n hx hb dL_law_162 rfl (lv_at hl 6 rfl) ?_
            refine lv_iload hx hb dL_law_163 (lv_at hl 14 rfl) ?_
            refine lv_iconst (v := nI (0)) hx hb dL_law_165 (by decide) ?_
            refine zVIX [.int (nI (k)), .int (nI (0))] [.int (nI (1))] (kX10_thingOf (a) (y) (b) (rs) (d) (bz) (i) (iv) (lb) (lz) (sa) (sy) (x) (xv) (h) (ha) (hz) (R) (nI (k)) (nI (0)) (show yI y from hy) (show yF y from hf)) hx hb hml hown hts (cwV 2 hts gL_law_X10_thingOf rfl rfl rfl (by decide +kernel) ⟨(Nat.le_of_ble_eq_true rfl), (Nat.le_of_ble_eq_true rfl)⟩) hK hP hD hS hA hX (va_recv hK hP (ci := 9) (q0 := 38) rfl rfl) rfl hl.1 rfl (Nat.le_of_ble_eq_true rfl) dL_law_166 ⟨(by show cc + 0 ≤ room_1.cells; omega), (by show ss + 0 ≤ room_1.slots; omega)⟩ (fun r_166 _ H locs hr_166 hP hD hS => ?_)
            subst hr_166
            have hP : va_P D vwCl (YW ct a y (KR a b rs (BW ct a d bz (IW ct i (xE g) iv (LW ct lb lz (YW ct sa sy (XO x a sa h b d i lb xv (HW ct h ha hz R)))))))) H := hP
            have hD : va_D A (YW ct a y (KR a b rs (BW ct a d bz (IW ct i (xE g) iv (LW ct lb lz (YW ct sa sy (XO x a sa h b d i lb xv (HW ct h ha hz R)))))))) := hD
            refine zTop (y := (y_kd y k)) (a_th (by omega) hn).1 ?_
            refine lv_iconst (v := nI (1)) hx hb dL_law_169 (by decide) ?_
            refine lv_icmp_ne (tgt := 177) hx hb dL_law_170 (by decide) (fun c170_9 => ?_) (fun c170_9 => ?_)
            · skip
              refine lv_iconst (v := nI (0)) hx hb dL_law_177 (by decide) ?_
              refine lv_icmp_eq (tgt := 183) hx hb dL_law_178 (by decide) (fun c9 => absurd c9 (by decide)) (fun c9 => ?_)
              exact absurd (hif.mp c154_6) c170_9
            · skip
              refine lv_iconst (v := nI (1)) hx hb dL_law_173 (by decide) ?_
              refine lv_goto (tgt := 178) hx hb dL_law_174 (by decide) ?_
              refine lv_icmp_eq (tgt := 183) hx hb dL_law_178 (by decide) (fun c9 => ?_) (fun c9 => absurd rfl c9)
              refine lv_iinc (v := nI ((k + 1))) (lv' := [(12, .int (nI ((k + 1)))), (6, .int (nI ((Ld + 1)))), (8, .int ((AW + (y_w y k)))), (5, .int ((P + (nI (1) - (y_kd y k))))), (14, .int (nI (q8))), (13, .int (nI (c8))), (0, .ref (xB g)), (1, .ref (x 0)), (2, .int (nI (t))), (3, .int (nI (y_n y))), (4, .int (nI (y_cn y))), (7, .int (nI (0))), (9, .int (nI (0))), (10, .int (nI (0))), (11, .int (nI (0)))]) hx hb dL_law_183 hl (k := 14) rfl (zInc _) (by decide) rfl (fun ls hl => ?_)
              refine lv_goto (tgt := 57) hx hb dL_law_186 (by decide) ?_
              exact ih57 ((k + 1)) ((P + (nI (1) - (y_kd y k)))) ((Ld + 1)) ((AW + (y_w y k))) H locs ls (by omega) (cn_kd hkd9 hP9) (cn_cu1 (by omega) e1 hL9) (by rw [sI, hW9]) (by omega) hP hD hS (lv_sub hl [6, 7, 8, 9, 10, 3, 1, 11, 2, 12, 13, 14, 0] rfl)
  exact lp57 ((y_n y - (0)) + 1) (0) (nI 0) (0) (nI 0) H locs ls (by omega) rfl rfl rfl (Nat.lt_succ_self _) hP hD hS (lv_sub hl [1, 0, 2, 3, 4, 5, 6, 7, 8, 9, 10, 11, 12] rfl)
