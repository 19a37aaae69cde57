/-! THE LAW'S BODY: whether a cart's axles creak -/
set_option maxHeartbeats 4000000 in
set_option maxRecDepth 100000 in
theorem law_k4 {D : va_G} {ct : Nat → ClassId} {g : XG} {p : Program} {l : Launch} {e : Env} {s : State} {m : MethodId} {args : Array Value} {below : List Frame} {meth : Method} {c : Code} {A : Nat → Prop} {Q : State → Prop} (hx : p.tables.exec = Jvm.exec) (hb : c.code = cL_law) (hml : c.maxLocals = 27) (hown : s.vm.findClass RL = some m.cls) (hts : ∀ w ∈ wsL_law, w.before args s = true) (hK : zK D ct s) (hA : ∀ q, s.heap.size ≤ q → A q) (hX : zX g A s s.heap) (a : Nat → Nat) (y : YS) (b : Nat → Nat) (rs : RS) (d : Nat → Nat) (bz : BS) (i : Nat → Nat) (iv : IS) (lb : Nat → Nat) (lz : LST) (sa : Nat → Nat) (sy : YS) (x : Nat → Nat) (xv : Int32 × Int32) (h : Nat → Nat) (ha : Nat → Nat → Nat) (hz : HS) (R : va_W) (t cz cr wo : Nat) (we tr : Int32) (tx0 : List Nat) (sb : Nat → Nat) (sz : SST) (wv : Nat → Nat) (wf : Nat → Int32) (hK4 : K43 y) (hZ : zT9 g s) (hL0 : LR tx0 lz) (hc : cz < y_cn y) (cc ss : Nat) (hcc : cc + 0 ≤ room_1.cells) (hss : ss + 0 ≤ room_1.slots) (go515 : ∀ (f1 f2 : Nat) (H : Heap) (locs : List Loc) (ls : Array Slot), f1 = (if p_creak y cz (nI 0) then 1 else 0) → f2 = (if p_creak y cz (nI 1) then 1 else 0) → va_P D vwCl (YW ct a y (KR a b rs (BW ct a d bz (IW ct i (xE g) iv (LW ct lb lz (YW ct sa sy (XO x a sa h b d i lb xv (HW ct h ha hz (SW ct sb sz (WV ct wv ((ixp y (nI cz) 6).length, wf) R)))))))))) H → va_D A (YW ct a y (KR a b rs (BW ct a d bz (IW ct i (xE g) iv (LW ct lb lz (YW ct sa sy (XO x a sa h b d i lb xv (HW ct h ha hz (SW ct sb sz (WV ct wv ((ixp y (nI cz) 6).length, wf) R)))))))))) → va_S A s.heap H locs → lv_has ls 27 [(1, .ref (x 0)), (0, .ref (xB g)), (2, .int (nI (t))), (3, .int (nI (y_n y))), (4, .int (nI (y_cn y))), (5, .int (nI (t_tk y (nI 0)))), (6, .int (nI (t_tc y))), (7, .int (we)), (8, .int ((t_sw y))), (9, .int (nI (cr))), (10, .int (nI (wo))), (11, .int (tr)), (12, .int (nI (cz))), (13, .int ((t_te y (nI cz) (nI 0)))), (14, .int ((t_te y (nI cz) (nI 1)))), (15, .int (nI ((ixp y (nI cz) 6).length))), (16, .int ((t_wo y (nI cz) (nI 0)))), (17, .int (((t_wo y (nI cz) (nI 0)) + (t_tp y (nI cz))))), (18, .int (nI (0))), (19, .int ((-4))), (20, .ref (wv 0)), (21, .ref (sb 0)), (23, .int (nI (f1))), (24, .int (nI (f2))), (25, .int (nI (0)))] → W p l e room_1 s m args below meth c H locs cc ss Q (F0 m 515 ls [])) (H : Heap) (locs : List Loc) (ls : Array Slot) (hP : va_P D vwCl (YW ct a y (KR a b rs (BW ct a d bz (IW ct i (xE g) iv (LW ct lb lz (YW ct sa sy (XO x a sa h b d i lb xv (HW ct h ha hz (SW ct sb sz (WV ct wv ((ixp y (nI cz) 6).length, wf) R)))))))))) H) (hD : va_D A (YW ct a y (KR a b rs (BW ct a d bz (IW ct i (xE g) iv (LW ct lb lz (YW ct sa sy (XO x a sa h b d i lb xv (HW ct h ha hz (SW ct sb sz (WV ct wv ((ixp y (nI cz) 6).length, wf) R))))))))))) (hS : va_S A s.heap H locs) (hl : lv_has ls 27 [(1, .ref (x 0)), (0, .ref (xB g)), (2, .int (nI (t))), (3, .int (nI (y_n y))), (4, .int (nI (y_cn y))), (5, .int (nI (t_tk y (nI 0)))), (6, .int (nI (t_tc y))), (7, .int (we)), (8, .int ((t_sw y))), (9, .int (nI (cr))), (10, .int (nI (wo))), (11, .int (tr)), (12, .int (nI (cz))), (13, .int ((t_te y (nI cz) (nI 0)))), (14, .int ((t_te y (nI cz) (nI 1)))), (15, .int (nI ((ixp y (nI cz) 6).length))), (16, .int ((t_wo y (nI cz) (nI 0)))), (17, .int (((t_wo y (nI cz) (nI 0)) + (t_tp y (nI cz))))), (18, .int (nI (0))), (19, .int ((-4))), (20, .ref (wv 0)), (21, .ref (sb 0))]) : W p l e room_1 s m args below meth c H locs cc ss Q (F0 m 462 ls []) := by
  have hJ4 := hK4.1
  obtain ⟨hy, hf⟩ := yJ_i hJ4
  have hD4 : yD y := yJ_D hJ4
  have hrn2 : y_rn y = 2 := hK4.2.2.2.2
  have hix := ixp_len (y := y) (x := nI cz) 6
  have hkd : ∀ j9, j9 < y_n y → y_kd y j9 = nI 0 ∨ y_kd y j9 = nI 1 := fun j9 hj9 => (hy.2.2.2.1 j9 hj9).1
  have hn : y_n y ≤ 12 := hy.1
  have hcn : y_cn y ≤ 4 := hy.2.1
  have hrn : y_rn y ≤ 5 := hy.2.2.1
  have fl0 : (fmL 0).length = 1 := rfl
  have fl1 : (fmL 1).length = 1 := rfl
  have fl2 : (fmL 2).length = 0 := rfl
  have fl3 : (fmL 3).length = 1 := rfl
  have fl4 : (fmL 4).length = 1 := rfl
  have fl5 : (fmL 5).length = 1 := rfl
  have fl6 : (fmL 6).length = 1 := rfl
  have fl7 : (fmL 7).length = 1 := rfl
  have fl8 : (fmL 8).length = 1 := rfl
  refine lv_iload hx hb dL_law_462 (lv_at hl 13 rfl) ?_
  refine lv_i2f hx hb dL_law_464 ?_
  refine lv_ldcf (v := 1092616192) hx hb hown (hts (.constantFloat RL 130 (1092616192)) (by decide +kernel)) dL_law_465 ?_
  refine lv_fdiv hx hb dL_law_467 (nF_n32 (ld_nF (z := nI 0) hy hc)) ?_
  refine lv_aload_n hx hb dL_law_468 rfl (lv_at hl 0 rfl) ?_
  refine lv_iload hx hb dL_law_469 (lv_at hl 12 rfl) ?_
  refine lv_iconst (v := nI (0)) hx hb dL_law_471 (by decide) ?_
  refine zVIX [.int (nI (cz)), .int (nI (0))] [.float ((FP.fdiv (FP.i2f ((t_te y (nI cz) (nI 0)))) 1092616192))] (kX10_cartOf (a) (y) (b) (rs) (d) (bz) (i) (iv) (lb) (lz) (sa) (sy) (x) (xv) (h) (ha) (hz) (SW ct sb sz (WV ct wv ((ixp y (nI cz) 6).length, wf) R)) (nI (cz)) (nI (0)) (show yI y from hy) (show yF y from hf)) hx hb hml hown hts (cwV 2 hts gL_law_X10_cartOf rfl rfl rfl (by decide +kernel) ⟨(Nat.le_of_ble_eq_true rfl), (Nat.le_of_ble_eq_true rfl)⟩) hK hP hD hS hA hX (va_recv hK hP (ci := 9) (q0 := 38) rfl rfl) rfl hl.1 rfl (Nat.le_of_ble_eq_true rfl) dL_law_472 ⟨(by show cc + 0 ≤ room_1.cells; omega), (by show ss + 0 ≤ room_1.slots; omega)⟩ (fun r_472 _ H locs hr_472 hP hD hS => ?_)
  subst hr_472
  have hP : va_P D vwCl (YW ct a y (KR a b rs (BW ct a d bz (IW ct i (xE g) iv (LW ct lb lz (YW ct sa sy (XO x a sa h b d i lb xv (HW ct h ha hz (SW ct sb sz (WV ct wv ((ixp y (nI cz) 6).length, wf) R)))))))))) H := hP
  have hD : va_D A (YW ct a y (KR a b rs (BW ct a d bz (IW ct i (xE g) iv (LW ct lb lz (YW ct sa sy (XO x a sa h b d i lb xv (HW ct h ha hz (SW ct sb sz (WV ct wv ((ixp y (nI cz) 6).length, wf) R)))))))))) := hD
  refine zTop (y := (y_st y cz)) (a_ct hc hcn).1 ?_
  refine lv_i2f hx hb dL_law_475 ?_
  refine lv_fcmp hx hb dL_law_476 ?_
  refine lv_if_le (tgt := 484) hx hb dL_law_477 (by decide) (fun c477_1 => ?_) (fun c477_1 => ?_)
  · skip
    refine lv_iconst (v := nI (0)) hx hb dL_law_484 (by decide) ?_
    refine lv_istore (lv' := [(23, .int (nI (0))), (1, .ref (x 0)), (0, .ref (xB g)), (2, .int (nI (t))), (3, .int (nI (y_n y))), (4, .int (nI (y_cn y))), (5, .int (nI (t_tk y (nI 0)))), (6, .int (nI (t_tc y))), (7, .int (we)), (8, .int ((t_sw y))), (9, .int (nI (cr))), (10, .int (nI (wo))), (11, .int (tr)), (12, .int (nI (cz))), (13, .int ((t_te y (nI cz) (nI 0)))), (14, .int ((t_te y (nI cz) (nI 1)))), (15, .int (nI ((ixp y (nI cz) 6).length))), (16, .int ((t_wo y (nI cz) (nI 0)))), (17, .int (((t_wo y (nI cz) (nI 0)) + (t_tp y (nI cz))))), (18, .int (nI (0))), (19, .int ((-4))), (20, .ref (wv 0)), (21, .ref (sb 0))]) hx hb dL_law_485 hl (by decide) rfl (fun ls hl => ?_)
    refine lv_iload hx hb dL_law_487 (lv_at hl 15 rfl) ?_
    refine lv_i2f hx hb dL_law_489 ?_
    refine lv_ldcf (v := 1092616192) hx hb hown (hts (.constantFloat RL 130 (1092616192)) (by decide +kernel)) dL_law_490 ?_
    refine lv_fdiv hx hb dL_law_492 (nF_n32 (ld_nF (z := nI 1) hy hc)) ?_
    refine lv_aload_n hx hb dL_law_493 rfl (lv_at hl 1 rfl) ?_
    refine lv_iload hx hb dL_law_494 (lv_at hl 13 rfl) ?_
    refine lv_iconst (v := nI (0)) hx hb dL_law_496 (by decide) ?_
    refine zVIX [.int (nI (cz)), .int (nI (0))] [.float ((FP.fdiv (FP.i2f ((t_te y (nI cz) (nI 1)))) 1092616192))] (kX10_cartOf (a) (y) (b) (rs) (d) (bz) (i) (iv) (lb) (lz) (sa) (sy) (x) (xv) (h) (ha) (hz) (SW ct sb sz (WV ct wv ((ixp y (nI cz) 6).length, wf) R)) (nI (cz)) (nI (0)) (show yI y from hy) (show yF y from hf)) hx hb hml hown hts (cwV 2 hts gL_law_X10_cartOf rfl rfl rfl (by decide +kernel) ⟨(Nat.le_of_ble_eq_true rfl), (Nat.le_of_ble_eq_true rfl)⟩) hK hP hD hS hA hX (va_recv hK hP (ci := 9) (q0 := 38) rfl rfl) rfl hl.1 rfl (Nat.le_of_ble_eq_true rfl) dL_law_497 ⟨(by show cc + 0 ≤ room_1.cells; omega), (by show ss + 0 ≤ room_1.slots; omega)⟩ (fun r_497 _ H locs hr_497 hP hD hS => ?_)
    subst hr_497
    have hP : va_P D vwCl (YW ct a y (KR a b rs (BW ct a d bz (IW ct i (xE g) iv (LW ct lb lz (YW ct sa sy (XO x a sa h b d i lb xv (HW ct h ha hz (SW ct sb sz (WV ct wv ((ixp y (nI cz) 6).length, wf) R)))))))))) H := hP
    have hD : va_D A (YW ct a y (KR a b rs (BW ct a d bz (IW ct i (xE g) iv (LW ct lb lz (YW ct sa sy (XO x a sa h b d i lb xv (HW ct h ha hz (SW ct sb sz (WV ct wv ((ixp y (nI cz) 6).length, wf) R)))))))))) := hD
    refine zTop (y := (y_st y cz)) (a_ct hc hcn).1 ?_
    refine lv_i2f hx hb dL_law_500 ?_
    refine lv_fcmp hx hb dL_law_501 ?_
    refine lv_if_le (tgt := 509) hx hb dL_law_502 (by decide) (fun c502_2 => ?_) (fun c502_2 => ?_)
    · skip
      refine lv_iconst (v := nI (0)) hx hb dL_law_509 (by decide) ?_
      refine lv_istore (lv' := [(24, .int (nI (0))), (23, .int (nI (0))), (1, .ref (x 0)), (0, .ref (xB g)), (2, .int (nI (t))), (3, .int (nI (y_n y))), (4, .int (nI (y_cn y))), (5, .int (nI (t_tk y (nI 0)))), (6, .int (nI (t_tc y))), (7, .int (we)), (8, .int ((t_sw y))), (9, .int (nI (cr))), (10, .int (nI (wo))), (11, .int (tr)), (12, .int (nI (cz))), (13, .int ((t_te y (nI cz) (nI 0)))), (14, .int ((t_te y (nI cz) (nI 1)))), (15, .int (nI ((ixp y (nI cz) 6).length))), (16, .int ((t_wo y (nI cz) (nI 0)))), (17, .int (((t_wo y (nI cz) (nI 0)) + (t_tp y (nI cz))))), (18, .int (nI (0))), (19, .int ((-4))), (20, .ref (wv 0)), (21, .ref (sb 0))]) hx hb dL_law_510 hl (by decide) rfl (fun ls hl => ?_)
      refine lv_iconst (v := nI (0)) hx hb dL_law_512 (by decide) ?_
      refine lv_istore (lv' := [(25, .int (nI (0))), (24, .int (nI (0))), (23, .int (nI (0))), (1, .ref (x 0)), (0, .ref (xB g)), (2, .int (nI (t))), (3, .int (nI (y_n y))), (4, .int (nI (y_cn y))), (5, .int (nI (t_tk y (nI 0)))), (6, .int (nI (t_tc y))), (7, .int (we)), (8, .int ((t_sw y))), (9, .int (nI (cr))), (10, .int (nI (wo))), (11, .int (tr)), (12, .int (nI (cz))), (13, .int ((t_te y (nI cz) (nI 0)))), (14, .int ((t_te y (nI cz) (nI 1)))), (15, .int (nI ((ixp y (nI cz) 6).length))), (16, .int ((t_wo y (nI cz) (nI 0)))), (17, .int (((t_wo y (nI cz) (nI 0)) + (t_tp y (nI cz))))), (18, .int (nI (0))), (19, .int ((-4))), (20, .ref (wv 0)), (21, .ref (sb 0))]) hx hb dL_law_513 hl (by decide) rfl (fun ls hl => ?_)
      exact go515 0 0 H locs ls ((if_neg (show ¬ p_creak y cz (nI 0) from fun q => q c477_1)).symm) ((if_neg (show ¬ p_creak y cz (nI 1) from fun q => q c502_2)).symm) hP hD hS (lv_sub hl [3, 4, 5, 6, 7, 8, 9, 10, 11, 12, 13, 14, 15, 16, 17, 18, 19, 20, 21, 22, 23, 24, 2, 1, 0] rfl)
    · skip
      refine lv_iconst (v := nI (1)) hx hb dL_law_505 (by decide) ?_
      refine lv_goto (tgt := 510) hx hb dL_law_506 (by decide) ?_
      refine lv_istore (lv' := [(24, .int (nI (1))), (23, .int (nI (0))), (1, .ref (x 0)), (0, .ref (xB g)), (2, .int (nI (t))), (3, .int (nI (y_n y))), (4, .int (nI (y_cn y))), (5, .int (nI (t_tk y (nI 0)))), (6, .int (nI (t_tc y))), (7, .int (we)), (8, .int ((t_sw y))), (9, .int (nI (cr))), (10, .int (nI (wo))), (11, .int (tr)), (12, .int (nI (cz))), (13, .int ((t_te y (nI cz) (nI 0)))), (14, .int ((t_te y (nI cz) (nI 1)))), (15, .int (nI ((ixp y (nI cz) 6).length))), (16, .int ((t_wo y (nI cz) (nI 0)))), (17, .int (((t_wo y (nI cz) (nI 0)) + (t_tp y (nI cz))))), (18, .int (nI (0))), (19, .int ((-4))), (20, .ref (wv 0)), (21, .ref (sb 0))]) hx hb dL_law_510 hl (by decide) rfl (fun ls hl => ?_)
      refine lv_iconst (v := nI (0)) hx hb dL_law_512 (by decide) ?_
      refine lv_istore (lv' := [(25, .int (nI (0))), (24, .int (nI (1))), (23, .int (nI (0))), (1, .ref (x 0)), (0, .ref (xB g)), (2, .int (nI (t))), (3, .int (nI (y_n y))), (4, .int (nI (y_cn y))), (5, .int (nI (t_tk y (nI 0)))), (6, .int (nI (t_tc y))), (7, .int (we)), (8, .int ((t_sw y))), (9, .int (nI (cr))), (10, .int (nI (wo))), (11, .int (tr)), (12, .int (nI (cz))), (13, .int ((t_te y (nI cz) (nI 0)))), (14, .int ((t_te y (nI cz) (nI 1)))), (15, .int (nI ((ixp y (nI cz) 6).length))), (16, .int ((t_wo y (nI cz) (nI 0)))), (17, .int (((t_wo y (nI cz) (nI 0)) + (t_tp y (nI cz))))), (18, .int (nI (0))), (19, .int ((-4))), (20, .ref (wv 0)), (21, .ref (sb 0))]) hx hb dL_law_513 hl (by decide) rfl (fun ls hl => ?_)
      exact go515 0 1 H locs ls ((if_neg (show ¬ p_creak y cz (nI 0) from fun q => q c477_1)).symm) ((if_pos (show p_creak y cz (nI 1) from c502_2)).symm) hP hD hS (lv_sub hl [3, 4, 5, 6, 7, 8, 9, 10, 11, 12, 13, 14, 15, 16, 17, 18, 19, 20, 21, 22, 23, 24, 2, 1, 0] rfl)
  · skip
    refine lv_iconst (v := nI (1)) hx hb dL_law_480 (by decide) ?_
    refine lv_goto (tgt := 485) hx hb dL_law_481 (by decide) ?_
    refine lv_istore (lv' := [(23, .int (nI (1))), (1, .ref (x 0)), (0, .ref (xB g)), (2, .int (nI (t))), (3, .int (nI (y_n y))), (4, .int (nI (y_cn y))), (5, .int (nI (t_tk y (nI 0)))), (6, .int (nI (t_tc y))), (7, .int (we)), (8, .int ((t_sw y))), (9, .int (nI (cr))), (10, .int (nI (wo))), (11, .int (tr)), (12, .int (nI (cz))), (13, .int ((t_te y (nI cz) (nI 0)))), (14, .int ((t_te y (nI cz) (nI 1)))), (15, .int (nI ((ixp y (nI cz) 6).length))), (16, .int ((t_wo y (nI cz) (nI 0)))), (17, .int (((t_wo y (nI cz) (nI 0)) + (t_tp y (nI cz))))), (18, .int (nI (0))), (19, .int ((-4))), (20, .ref (wv 0)), (21, .ref (sb 0))]) hx hb dL_law_485 hl (by decide) rfl (fun ls hl => ?_)
    refine lv_iload hx hb dL_law_487 (lv_at hl 15 rfl) ?_
    refine lv_i2f hx hb dL_law_489 ?_
    refine lv_ldcf (v := 1092616192) hx hb hown (hts (.constantFloat RL 130 (1092616192)) (by decide +kernel)) dL_law_490 ?_
    refine lv_fdiv hx hb dL_law_492 (nF_n32 (ld_nF (z := nI 1) hy hc)) ?_
    refine lv_aload_n hx hb dL_law_493 rfl (lv_at hl 1 rfl) ?_
    refine lv_iload hx hb dL_law_494 (lv_at hl 13 rfl) ?_
    refine lv_iconst (v := nI (0)) hx hb dL_law_496 (by decide) ?_
    refine zVIX [.int (nI (cz)), .int (nI (0))] [.float ((FP.fdiv (FP.i2f ((t_te y (nI cz) (nI 1)))) 1092616192))] (kX10_cartOf (a) (y) (b) (rs) (d) (bz) (i) (iv) (lb) (lz) (sa) (sy) (x) (xv) (h) (ha) (hz) (SW ct sb sz (WV ct wv ((ixp y (nI cz) 6).length, wf) R)) (nI (cz)) (nI (0)) (show yI y from hy) (show yF y from hf)) hx hb hml hown hts (cwV 2 hts gL_law_X10_cartOf rfl rfl rfl (by decide +kernel) ⟨(Nat.le_of_ble_eq_true rfl), (Nat.le_of_ble_eq_true rfl)⟩) hK hP hD hS hA hX (va_recv hK hP (ci := 9) (q0 := 38) rfl rfl) rfl hl.1 rfl (Nat.le_of_ble_eq_true rfl) dL_law_497 ⟨(by show cc + 0 ≤ room_1.cells; omega), (by show ss + 0 ≤ room_1.slots; omega)⟩ (fun r_497 _ H locs hr_497 hP hD hS => ?_)
    subst hr_497
    have hP : va_P D vwCl (YW ct a y (KR a b rs (BW ct a d bz (IW ct i (xE g) iv (LW ct lb lz (YW ct sa sy (XO x a sa h b d i lb xv (HW ct h ha hz (SW ct sb sz (WV ct wv ((ixp y (nI cz) 6).length, wf) R)))))))))) H := hP
    have hD : va_D A (YW ct a y (KR a b rs (BW ct a d bz (IW ct i (xE g) iv (LW ct lb lz (YW ct sa sy (XO x a sa h b d i lb xv (HW ct h ha hz (SW ct sb sz (WV ct wv ((ixp y (nI cz) 6).length, wf) R)))))))))) := hD
    refine zTop (y := (y_st y cz)) (a_ct hc hcn).1 ?_
    refine lv_i2f hx hb dL_law_500 ?_
    refine lv_fcmp hx hb dL_law_501 ?_
    refine lv_if_le (tgt := 509) hx hb dL_law_502 (by decide) (fun c502_3 => ?_) (fun c502_3 => ?_)
    · skip
      refine lv_iconst (v := nI (0)) hx hb dL_law_509 (by decide) ?_
      refine lv_istore (lv' := [(24, .int (nI (0))), (23, .int (nI (1))), (1, .ref (x 0)), (0, .ref (xB g)), (2, .int (nI (t))), (3, .int (nI (y_n y))), (4, .int (nI (y_cn y))), (5, .int (nI (t_tk y (nI 0)))), (6, .int (nI (t_tc y))), (7, .int (we)), (8, .int ((t_sw y))), (9, .int (nI (cr))), (10, .int (nI (wo))), (11, .int (tr)), (12, .int (nI (cz))), (13, .int ((t_te y (nI cz) (nI 0)))), (14, .int ((t_te y (nI cz) (nI 1)))), (15, .int (nI ((ixp y (nI cz) 6).length))), (16, .int ((t_wo y (nI cz) (nI 0)))), (17, .int (((t_wo y (nI cz) (nI 0)) + (t_tp y (nI cz))))), (18, .int (nI (0))), (19, .int ((-4))), (20, .ref (wv 0)), (21, .ref (sb 0))]) hx hb dL_law_510 hl (by decide) rfl (fun ls hl => ?_)
      refine lv_iconst (v := nI (0)) hx hb dL_law_512 (by decide) ?_
      refine lv_istore (lv' := [(25, .int (nI (0))), (24, .int (nI (0))), (23, .int (nI (1))), (1, .ref (x 0)), (0, .ref (xB g)), (2, .int (nI (t))), (3, .int (nI (y_n y))), (4, .int (nI (y_cn y))), (5, .int (nI (t_tk y (nI 0)))), (6, .int (nI (t_tc y))), (7, .int (we)), (8, .int ((t_sw y))), (9, .int (nI (cr))), (10, .int (nI (wo))), (11, .int (tr)), (12, .int (nI (cz))), (13, .int ((t_te y (nI cz) (nI 0)))), (14, .int ((t_te y (nI cz) (nI 1)))), (15, .int (nI ((ixp y (nI cz) 6).length))), (16, .int ((t_wo y (nI cz) (nI 0)))), (17, .int (((t_wo y (nI cz) (nI 0)) + (t_tp y (nI cz))))), (18, .int (nI (0))), (19, .int ((-4))), (20, .ref (wv 0)), (21, .ref (sb 0))]) hx hb dL_law_513 hl (by decide) rfl (fun ls hl => ?_)
      exact go515 1 0 H locs ls ((if_pos (show p_creak y cz (nI 0) from c477_1)).symm) ((if_neg (show ¬ p_creak y cz (nI 1) from fun q => q c502_3)).symm) hP hD hS (lv_sub hl [3, 4, 5, 6, 7, 8, 9, 10, 11, 12, 13, 14, 15, 16, 17, 18, 19, 20, 21, 22, 23, 24, 2, 1, 0] rfl)
    · skip
      refine lv_iconst (v := nI (1)) hx hb dL_law_505 (by decide) ?_
      refine lv_goto (tgt := 510) hx hb dL_law_506 (by decide) ?_
      refine lv_istore (lv' := [(24, .int (nI (1))), (23, .int (nI (1))), (1, .ref (x 0)), (0, .ref (xB g)), (2, .int (nI (t))), (3, .int (nI (y_n y))), (4, .int (nI (y_cn y))), (5, .int (nI (t_tk y (nI 0)))), (6, .int (nI (t_tc y))), (7, .int (we)), (8, .int ((t_sw y))), (9, .int (nI (cr))), (10, .int (nI (wo))), (11, .int (tr)), (12, .int (nI (cz))), (13, .int ((t_te y (nI cz) (nI 0)))), (14, .int ((t_te y (nI cz) (nI 1)))), (15, .int (nI ((ixp y (nI cz) 6).length))), (16, .int ((t_wo y (nI cz) (nI 0)))), (17, .int (((t_wo y (nI cz) (nI 0)) + (t_tp y (nI cz))))), (18, .int (nI (0))), (19, .int ((-4))), (20, .ref (wv 0)), (21, .ref (sb 0))]) hx hb dL_law_510 hl (by decide) rfl (fun ls hl => ?_)
      refine lv_iconst (v := nI (0)) hx hb dL_law_512 (by decide) ?_
      refine lv_istore (lv' := [(25, .int (nI (0))), (24, .int (nI (1))), (23, .int (nI (1))), (1, .ref (x 0)), (0, .ref (xB g)), (2, .int (nI (t))), (3, .int (nI (y_n y))), (4, .int (nI (y_cn y))), (5, .int (nI (t_tk y (nI 0)))), (6, .int (nI (t_tc y))), (7, .int (we)), (8, .int ((t_sw y))), (9, .int (nI (cr))), (10, .int (nI (wo))), (11, .int (tr)), (12, .int (nI (cz))), (13, .int ((t_te y (nI cz) (nI 0)))), (14, .int ((t_te y (nI cz) (nI 1)))), (15, .int (nI ((ixp y (nI cz) 6).length))), (16, .int ((t_wo y (nI cz) (nI 0)))), (17, .int (((t_wo y (nI cz) (nI 0)) + (t_tp y (nI cz))))), (18, .int (nI (0))), (19, .int ((-4))), (20, .ref (wv 0)), (21, .ref (sb 0))]) hx hb dL_law_513 hl (by decide) rfl (fun ls hl => ?_)
      exact go515 1 1 H locs ls ((if_pos (show p_creak y cz (nI 0) from c477_1)).symm) ((if_pos (show p_creak y cz (nI 1) from c502_3)).symm) hP hD hS (lv_sub hl [3, 4, 5, 6, 7, 8, 9, 10, 11, 12, 13, 14, 15, 16, 17, 18, 19, 20, 21, 22, 23, 24, 2, 1, 0] rfl)
