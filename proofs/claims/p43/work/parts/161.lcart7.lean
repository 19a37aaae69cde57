/-! THE LAW'S BODY: a cart's checks -/
theorem wr_r {y : YS} {c : Nat} (hc : c < y_cn y) (hcn : y_cn y ≤ 4) : (if p_in (nI c) (y_cn y) then nI (wrL y (ixI (nI c))).length else -1) = nI (wrL y c).length := by
  rw [if_pos (p_inN hc (by omega)), show ixI (nI c) = c from nI_clamp (by omega)]
theorem wr_L {y : YS} {c : Nat} {tx : List Nat} {u : LST} (hc : c < y_cn y) (hcn : y_cn y ≤ 4) (h : LR (if p_in (nI c) (y_cn y) then wrL y (ixI (nI c)) else tx) u) : LR (wrL y c) u := by
  rw [if_pos (p_inN hc (by omega)), show ixI (nI c) = c from nI_clamp (by omega)] at h
  exact h
theorem ten_in {y : YS} {c : Nat} {z : Int32} (hc : c < y_cn y) (hcn : y_cn y ≤ 4) : a_ten y (nI c) z = t_te y (nI c) z := if_pos (p_inN hc (by omega))
theorem tenG_in {y : YS} {c : Nat} {z : Int32} (hc : c < y_cn y) (hcn : y_cn y ≤ 4) : a_tenG y (nI c) z = t_to y (nI c) z := if_pos (p_inN hc (by omega))
theorem axle_in {y : YS} {c : Nat} {z : Int32} (hc : c < y_cn y) (hcn : y_cn y ≤ 4) : a_axle y (nI c) z = FP.fdiv (FP.i2f (t_te y (nI c) z)) 1092616192 := by
  unfold a_axle
  rw [if_pos (p_inN hc (by omega)), show ixI (nI c) = c from nI_clamp (by omega)]
theorem te_all {y : YS} (hy : yI y) {c : Nat} (hc : c < y_cn y) : nI 10 * t_all y (nI c) = t_te y (nI c) (nI 0) + t_te y (nI c) (nI 1) :=
  (te_sum hy hc (y_n y) (Nat.le_refl _)).symm
theorem tk_in {y : YS} {c : Nat} (hc : c < y_cn y) (hcn : y_cn y ≤ 4) (hr : y_rn y = 2) : a_takes y (nI c) = tkF y (nI c) 2 := by
  unfold a_takes
  rw [if_neg (fun q => q (p_inN hc (by omega))), hr]
theorem bst_in {y : YS} {b : BS} {c : Nat} {Wp : Nat → Int32} (hA : yA y) (hc : c < y_cn y) (hW : ∀ j, j < (ixp y (nI c) 6).length → Wp j = y_w y ((ixp y (nI c) 6).getD j 0)) : (F_bstC y b (nI c)).1 = lsC Wp (ixp y (nI c) 6).length 0 (nI 0) (nI 0) := by
  have hcn := hA.1.2.1
  unfold F_bstC
  rw [if_pos (p_inN hc (by omega))]
  exact best_ix hA hc hW
theorem bsg_in {y : YS} {b : BS} {c : Nat} {Wp : Nat → Int32} (hA : yA y) (hc : c < y_cn y) (hW : ∀ j, j < (ixp y (nI c) 6).length → Wp j = y_w y ((ixp y (nI c) 6).getD j 0)) : (F_bsgC y b (nI c)).1 = lsC Wp (ixp y (nI c) 6).length 0 (nI 0) (nI 0) := by
  have hcn := hA.1.2.1
  unfold F_bsgC
  rw [if_pos (p_inN hc (by omega))]
  exact (sets_ways (wB_gat hA.2.2.1)).symm.trans (best_ix hA hc hW)
theorem ch_in {y : YS} {c : Nat} (hA : yA y) (hc : c < y_cn y) : a_chC y (nI c) = (if t_at y (nI c) (nI 6) = -4 then -4 else foI (chL y c (y_rn y))) := by
  have hy := hA.1
  have hcn := hy.2.1
  have hn := hy.1
  unfold a_chC
  rw [if_pos (p_inN hc (by omega)), show ixI (nI c) = c from nI_clamp (by omega), t_chC]
  by_cases h : t_at y (nI c) (nI 6) = -4
  · rw [if_pos h, if_pos h]
  · rw [if_neg h, if_neg h]
    rcases at_ex y (nI c) (nI 6) with e | ⟨k, hk, e⟩
    · exact absurd e h
    · obtain ⟨w, hw1, hw2, hw⟩ := (hy.2.2.2.1 k hk).2.1
      have ht : t_wo y (nI c) (nI 1) = nI w := by
        rw [← tp_wo hy hA.2.1 hc, t_tp, if_neg h, e, show ixI (nI k) = k from nI_clamp (by omega), hw]
      rw [chC_chL hy ht hw1 hw2 (y_rn y) (Nat.le_refl _)]
set_option maxHeartbeats 4000000 in
set_option maxRecDepth 100000 in
theorem law_k7 {D : va_G} {ct : Nat → ClassId} {g : XG} {p : Program} {l : Launch} {e : Env} {s : State} {m : MethodId} {args : Array Value} {below : List Frame} {meth : Method} {c : Code} {A : Nat → Prop} {Q : State → Prop} (hx : p.tables.exec = Jvm.exec) (hb : c.code = cL_law) (hml : c.maxLocals = 27) (hown : s.vm.findClass RL = some m.cls) (hts : ∀ w ∈ wsL_law, w.before args s = true) (hK : zK D ct s) (hA : ∀ q, s.heap.size ≤ q → A q) (hX : zX g A s s.heap) (a : Nat → Nat) (y : YS) (b : Nat → Nat) (rs : RS) (d : Nat → Nat) (bz : BS) (i : Nat → Nat) (iv : IS) (lb : Nat → Nat) (lz : LST) (sa : Nat → Nat) (sy : YS) (x : Nat → Nat) (xv : Int32 × Int32) (h : Nat → Nat) (ha : Nat → Nat → Nat) (hz : HS) (R : va_W) (t cz cr wo : Nat) (we tr : Int32) (tx0 : List Nat) (sb : Nat → Nat) (sz : SST) (f1 f2 : Nat) (ch le : Int32) (hK4 : K43 y) (hZ : zT9 g s) (hL0 : LR tx0 lz) (hc : cz < y_cn y) (hSz : SR (wrL y cz) sz) (hf1 : f1 = (if p_creak y cz (nI 0) then 1 else 0)) (hf2 : f2 = (if p_creak y cz (nI 1) then 1 else 0)) (cc ss : Nat) (hcc : cc + 18 ≤ room_1.cells) (hss : ss + 1260 ≤ room_1.slots) (go767 : ∀ (z1 : LST) (H : Heap) (locs : List Loc) (ls : Array Slot), LR (wrL y cz) z1 → va_P D vwCl (YW ct a y (KR a b rs (BW ct a d bz (IW ct i (xE g) iv (LW ct lb z1 (YW ct sa sy (XO x a sa h b d i lb xv (HW ct h ha hz R)))))))) H → va_D A (YW ct a y (KR a b rs (BW ct a d bz (IW ct i (xE g) iv (LW ct lb z1 (YW ct sa sy (XO x a sa h b d i lb xv (HW ct h ha hz R)))))))) → va_S A s.heap H locs → lv_has ls 27 [(1, .ref (x 0)), (0, .ref (xB g)), (2, .int (nI (t))), (3, .int (nI (y_n y))), (4, .int (nI (y_cn y))), (5, .int (nI (t_tk y (nI 0)))), (6, .int (nI (t_tc y))), (7, .int (we)), (8, .int ((t_sw y))), (9, .int (nI (cr))), (10, .int (nI (wo))), (11, .int (tr)), (12, .int (nI (cz))), (13, .int ((t_te y (nI cz) (nI 0)))), (14, .int ((t_te y (nI cz) (nI 1)))), (17, .int ((t_all y (nI cz)))), (18, .int ((tkF y (nI cz) 2))), (19, .int (ch)), (25, .int (le))] → W p l e room_1 s m args below meth c H locs (cc + 18) (ss + 1260) Q (F0 m 767 ls [])) (H : Heap) (locs : List Loc) (ls : Array Slot) (hP : va_P D vwCl (YW ct a y (KR a b rs (BW ct a d bz (IW ct i (xE g) iv (LW ct lb lz (YW ct sa sy (XO x a sa h b d i lb xv (HW ct h ha hz (SW ct sb sz R))))))))) H) (hD : va_D A (YW ct a y (KR a b rs (BW ct a d bz (IW ct i (xE g) iv (LW ct lb lz (YW ct sa sy (XO x a sa h b d i lb xv (HW ct h ha hz (SW ct sb sz R)))))))))) (hS : va_S A s.heap H locs) (hl : lv_has ls 27 [(1, .ref (x 0)), (0, .ref (xB g)), (2, .int (nI (t))), (3, .int (nI (y_n y))), (4, .int (nI (y_cn y))), (5, .int (nI (t_tk y (nI 0)))), (6, .int (nI (t_tc y))), (7, .int (we)), (8, .int ((t_sw y))), (9, .int (nI (cr))), (10, .int (nI (wo))), (11, .int (tr)), (12, .int (nI (cz))), (13, .int ((t_te y (nI cz) (nI 0)))), (14, .int ((t_te y (nI cz) (nI 1)))), (15, .int (nI ((ixp y (nI cz) 6).length))), (16, .int ((t_wo y (nI cz) (nI 0)))), (21, .ref (sb 0)), (23, .int (nI (f1))), (24, .int (nI (f2))), (17, .int ((t_all y (nI cz)))), (18, .int ((tkF y (nI cz) 2))), (19, .int (ch)), (25, .int (le))]) : W p l e room_1 s m args below meth c H locs cc ss Q (F0 m 636 ls []) := by
  have hJ4 := hK4.1
  obtain ⟨hy, hf⟩ := yJ_i hJ4
  have hD4 : yD y := yJ_D hJ4
  have hrn2 : y_rn y = 2 := hK4.2.2.2.2
  have hix := ixp_len (y := y) (x := nI cz) 6
  have hkd : ∀ j9, j9 < y_n y → y_kd y j9 = nI 0 ∨ y_kd y j9 = nI 1 := fun j9 hj9 => (hy.2.2.2.1 j9 hj9).1
  have hn : y_n y ≤ 12 := hy.1
  have hcn : y_cn y ≤ 4 := hy.2.1
  have hrn : y_rn y ≤ 5 := hy.2.2.1
  have fl0 : (fmL 0).length = 1 := rfl
  have fl1 : (fmL 1).length = 1 := rfl
  have fl2 : (fmL 2).length = 0 := rfl
  have fl3 : (fmL 3).length = 1 := rfl
  have fl4 : (fmL 4).length = 1 := rfl
  have fl5 : (fmL 5).length = 1 := rfl
  have fl6 : (fmL 6).length = 1 := rfl
  have fl7 : (fmL 7).length = 1 := rfl
  have fl8 : (fmL 8).length = 1 := rfl
  have f19 : f1 ≤ 1 := by rw [hf1]; split <;> omega
  have f29 : f2 ≤ 1 := by rw [hf2]; split <;> omega
  have hcr : t_cr y cz = f1 + f2 := by rw [hf1, hf2]; rfl
  refine lv_aload_n hx hb dL_law_636 rfl (lv_at hl 0 rfl) ?_
  refine lv_aload_n hx hb dL_law_637 rfl (lv_at hl 0 rfl) ?_
  refine lv_iload hx hb dL_law_638 (lv_at hl 12 rfl) ?_
  refine zVIX [.int (nI (cz))] [.ref (x 0)] (kX10_write (a) (y) (b) (rs) (d) (bz) (i) (iv) (lb) (lz) (sa) (sy) (x) (xv) (h) (ha) (hz) (SW ct sb sz R) (nI (cz)) (tx0) (show yI y from hy) (show yF y from hf) (show LR (tx0) lz from hL0)) hx hb hml hown hts (cwV 1 hts gL_law_X10_write rfl rfl rfl (by decide +kernel) ⟨(Nat.le_of_ble_eq_true rfl), (Nat.le_of_ble_eq_true rfl)⟩) hK hP hD hS hA hX (va_recv hK hP (ci := 9) (q0 := 38) rfl rfl) rfl hl.1 rfl (Nat.le_of_ble_eq_true rfl) dL_law_640 ⟨(by show cc + 18 ≤ room_1.cells; omega), (by show ss + 1260 ≤ room_1.slots; omega)⟩ (fun r_640 u_640 H locs hr_640 hP hD hS => ?_)
  obtain ⟨hr_640, hu_640⟩ := hr_640
  subst hr_640
  have hP : va_P D vwCl (YW ct a y (KR a b rs (BW ct a d bz (IW ct i (xE g) iv (LW ct lb u_640 (YW ct sa sy (XO x a sa h b d i lb xv (HW ct h ha hz (SW ct sb sz R))))))))) H := hP
  have hD : va_D A (YW ct a y (KR a b rs (BW ct a d bz (IW ct i (xE g) iv (LW ct lb u_640 (YW ct sa sy (XO x a sa h b d i lb xv (HW ct h ha hz (SW ct sb sz R))))))))) := hD
  have hu9 := wr_L hc hcn hu_640
  refine zTop (y := nI ((wrL y cz).length)) (wr_r hc hcn) ?_
  refine lv_aload hx hb dL_law_643 (lv_at hl 17 rfl) ?_
  refine zSIX [.ref (x 0), .int (nI ((wrL y cz).length)), .ref (sb 0)] [] (kL_isLine (a) (y) (b) (rs) (d) (bz) (i) (iv) (lb) (u_640) (sa) (sy) (x) (xv) (h) (ha) (hz) (sb) (sz) (R) ((wrL y cz).length) (wrL y cz) (show LR (wrL y cz) u_640 from hu9) (show SR (wrL y cz) sz from hSz) (show ((wrL y cz).length) = (wrL y cz).length from rfl)) hx hb hml hown hts (va_cwS 3 hts gL_law_L_isLine rfl rfl rfl (by decide +kernel) ⟨(Nat.le_of_ble_eq_true rfl), (Nat.le_of_ble_eq_true rfl)⟩) hK hP hD hS hA hX rfl hl.1 rfl (Nat.le_of_ble_eq_true rfl) dL_law_645 ⟨(by show (cc + 18) + 0 ≤ room_1.cells; omega), (by show (ss + 1260) + 0 ≤ room_1.slots; omega)⟩ (fun r_645 _ H locs hr_645 hP hD hS => ?_)
  subst hr_645
  have hP : va_P D vwCl (YW ct a y (KR a b rs (BW ct a d bz (IW ct i (xE g) iv (LW ct lb u_640 (YW ct sa sy (XO x a sa h b d i lb xv (HW ct h ha hz (SW ct sb sz R))))))))) H := hP
  have hD : va_D A (YW ct a y (KR a b rs (BW ct a d bz (IW ct i (xE g) iv (LW ct lb u_640 (YW ct sa sy (XO x a sa h b d i lb xv (HW ct h ha hz (SW ct sb sz R))))))))) := hD
  refine lv_if_eq (tgt := 919) hx hb dL_law_648 (by decide) (fun c9 => absurd c9 (by decide)) (fun c9 => ?_)
  have hP : va_P D vwCl (SW ct sb sz (YW ct a y (KR a b rs (BW ct a d bz (IW ct i (xE g) iv (LW ct lb u_640 (YW ct sa sy (XO x a sa h b d i lb xv (HW ct h ha hz R))))))))) H := zPp (zF8 (YW ct a y []) (KR a b rs []) (BW ct a d bz []) (IW ct i (xE g) iv []) (LW ct lb u_640 []) (YW ct sa sy []) (XO x a sa h b d i lb xv []) (HWl ct h ha hz) (SW ct sb sz []) (R)) hP
  have hD : va_D A (SW ct sb sz (YW ct a y (KR a b rs (BW ct a d bz (IW ct i (xE g) iv (LW ct lb u_640 (YW ct sa sy (XO x a sa h b d i lb xv (HW ct h ha hz R))))))))) := zDp (zF8 (YW ct a y []) (KR a b rs []) (BW ct a d bz []) (IW ct i (xE g) iv []) (LW ct lb u_640 []) (YW ct sa sy []) (XO x a sa h b d i lb xv []) (HWl ct h ha hz) (SW ct sb sz []) (R)) hD
  have hP : va_P D vwCl (YW ct a y (KR a b rs (BW ct a d bz (IW ct i (xE g) iv (LW ct lb u_640 (YW ct sa sy (XO x a sa h b d i lb xv (HW ct h ha hz R)))))))) H := zPdr (A := []) (B := SW ct sb sz []) (R := YW ct a y (KR a b rs (BW ct a d bz (IW ct i (xE g) iv (LW ct lb u_640 (YW ct sa sy (XO x a sa h b d i lb xv (HW ct h ha hz R)))))))) hP
  have hD : va_D A (YW ct a y (KR a b rs (BW ct a d bz (IW ct i (xE g) iv (LW ct lb u_640 (YW ct sa sy (XO x a sa h b d i lb xv (HW ct h ha hz R)))))))) := zDdr (A := []) (B := SW ct sb sz []) (R := YW ct a y (KR a b rs (BW ct a d bz (IW ct i (xE g) iv (LW ct lb u_640 (YW ct sa sy (XO x a sa h b d i lb xv (HW ct h ha hz R)))))))) hD
  refine lv_aload_n hx hb dL_law_651 rfl (lv_at hl 0 rfl) ?_
  refine lv_iload hx hb dL_law_652 (lv_at hl 12 rfl) ?_
  refine zSIX [.ref (x 0), .int (nI (cz))] [] (kL_top (a) (y) (b) (rs) (d) (bz) (i) (iv) (lb) (u_640) (sa) (sy) (x) (xv) (h) (ha) (hz) (R) (cz) (show yI y from hy) (show yF y from hf) (show (cz) < y_cn y from hc)) hx hb hml hown hts (va_cwS 2 hts gL_law_L_top rfl rfl rfl (by decide +kernel) ⟨(Nat.le_of_ble_eq_true rfl), (Nat.le_of_ble_eq_true rfl)⟩) hK hP hD hS hA hX rfl hl.1 rfl (Nat.le_of_ble_eq_true rfl) dL_law_654 ⟨(by show (cc + 18) + 0 ≤ room_1.cells; omega), (by show (ss + 1260) + 0 ≤ room_1.slots; omega)⟩ (fun r_654 _ H locs hr_654 hP hD hS => ?_)
  subst hr_654
  have hP : va_P D vwCl (YW ct a y (KR a b rs (BW ct a d bz (IW ct i (xE g) iv (LW ct lb u_640 (YW ct sa sy (XO x a sa h b d i lb xv (HW ct h ha hz R)))))))) H := hP
  have hD : va_D A (YW ct a y (KR a b rs (BW ct a d bz (IW ct i (xE g) iv (LW ct lb u_640 (YW ct sa sy (XO x a sa h b d i lb xv (HW ct h ha hz R)))))))) := hD
  refine lv_iload hx hb dL_law_657 (lv_at hl 16 rfl) ?_
  refine lv_icmp_gt (tgt := 919) hx hb dL_law_659 (by decide) (fun c659_2 => ?_) (fun c659_2 => ?_)
  · skip
    exact absurd c659_2 (by rw [tp_wo hy hD4 hc]; exact pC_lt (yJ_A hJ4).2.2.2.1 hc)
  · skip
    refine lv_aload_n hx hb dL_law_662 rfl (lv_at hl 0 rfl) ?_
    refine lv_iload hx hb dL_law_663 (lv_at hl 12 rfl) ?_
    refine lv_iconst (v := nI (1)) hx hb dL_law_665 (by decide) ?_
    refine zVIX [.int (nI (cz)), .int (nI (1))] [] (kX10_cartOf (a) (y) (b) (rs) (d) (bz) (i) (iv) (lb) (u_640) (sa) (sy) (x) (xv) (h) (ha) (hz) (R) (nI (cz)) (nI (1)) (show yI y from hy) (show yF y from hf)) hx hb hml hown hts (cwV 2 hts gL_law_X10_cartOf rfl rfl rfl (by decide +kernel) ⟨(Nat.le_of_ble_eq_true rfl), (Nat.le_of_ble_eq_true rfl)⟩) hK hP hD hS hA hX (va_recv hK hP (ci := 9) (q0 := 38) rfl rfl) rfl hl.1 rfl (Nat.le_of_ble_eq_true rfl) dL_law_666 ⟨(by show (cc + 18) + 0 ≤ room_1.cells; omega), (by show (ss + 1260) + 0 ≤ room_1.slots; omega)⟩ (fun r_666 _ H locs hr_666 hP hD hS => ?_)
    subst hr_666
    have hP : va_P D vwCl (YW ct a y (KR a b rs (BW ct a d bz (IW ct i (xE g) iv (LW ct lb u_640 (YW ct sa sy (XO x a sa h b d i lb xv (HW ct h ha hz R)))))))) H := hP
    have hD : va_D A (YW ct a y (KR a b rs (BW ct a d bz (IW ct i (xE g) iv (LW ct lb u_640 (YW ct sa sy (XO x a sa h b d i lb xv (HW ct h ha hz R)))))))) := hD
    refine zTop (y := nI ((ixp y (nI cz) 6).length)) ((a_ct hc hcn).2.1.trans ((prC_pn hy hD4 hc).symm.trans (prC_len 6))) ?_
    refine lv_iload hx hb dL_law_669 (lv_at hl 15 rfl) ?_
    refine lv_icmp_ne (tgt := 919) hx hb dL_law_671 (by decide) (fun c9 => absurd rfl c9) (fun c9 => ?_)
    refine lv_aload_n hx hb dL_law_674 rfl (lv_at hl 0 rfl) ?_
    refine lv_iload hx hb dL_law_675 (lv_at hl 12 rfl) ?_
    refine lv_iconst (v := nI (2)) hx hb dL_law_677 (by decide) ?_
    refine zVIX [.int (nI (cz)), .int (nI (2))] [] (kX10_cartOf (a) (y) (b) (rs) (d) (bz) (i) (iv) (lb) (u_640) (sa) (sy) (x) (xv) (h) (ha) (hz) (R) (nI (cz)) (nI (2)) (show yI y from hy) (show yF y from hf)) hx hb hml hown hts (cwV 2 hts gL_law_X10_cartOf rfl rfl rfl (by decide +kernel) ⟨(Nat.le_of_ble_eq_true rfl), (Nat.le_of_ble_eq_true rfl)⟩) hK hP hD hS hA hX (va_recv hK hP (ci := 9) (q0 := 38) rfl rfl) rfl hl.1 rfl (Nat.le_of_ble_eq_true rfl) dL_law_678 ⟨(by show (cc + 18) + 0 ≤ room_1.cells; omega), (by show (ss + 1260) + 0 ≤ room_1.slots; omega)⟩ (fun r_678 _ H locs hr_678 hP hD hS => ?_)
    subst hr_678
    have hP : va_P D vwCl (YW ct a y (KR a b rs (BW ct a d bz (IW ct i (xE g) iv (LW ct lb u_640 (YW ct sa sy (XO x a sa h b d i lb xv (HW ct h ha hz R)))))))) H := hP
    have hD : va_D A (YW ct a y (KR a b rs (BW ct a d bz (IW ct i (xE g) iv (LW ct lb u_640 (YW ct sa sy (XO x a sa h b d i lb xv (HW ct h ha hz R)))))))) := hD
    refine zTop (y := (t_wo y (nI cz) (nI 0))) (a_ct hc hcn).2.2.1 ?_
    refine lv_iload hx hb dL_law_681 (lv_at hl 16 rfl) ?_
    refine lv_icmp_ne (tgt := 919) hx hb dL_law_683 (by decide) (fun c9 => absurd rfl c9) (fun c9 => ?_)
    refine lv_aload_n hx hb dL_law_686 rfl (lv_at hl 0 rfl) ?_
    refine lv_iload hx hb dL_law_687 (lv_at hl 12 rfl) ?_
    refine lv_iconst (v := nI (3)) hx hb dL_law_689 (by decide) ?_
    refine zVIX [.int (nI (cz)), .int (nI (3))] [] (kX10_cartOf (a) (y) (b) (rs) (d) (bz) (i) (iv) (lb) (u_640) (sa) (sy) (x) (xv) (h) (ha) (hz) (R) (nI (cz)) (nI (3)) (show yI y from hy) (show yF y from hf)) hx hb hml hown hts (cwV 2 hts gL_law_X10_cartOf rfl rfl rfl (by decide +kernel) ⟨(Nat.le_of_ble_eq_true rfl), (Nat.le_of_ble_eq_true rfl)⟩) hK hP hD hS hA hX (va_recv hK hP (ci := 9) (q0 := 38) rfl rfl) rfl hl.1 rfl (Nat.le_of_ble_eq_true rfl) dL_law_690 ⟨(by show (cc + 18) + 0 ≤ room_1.cells; omega), (by show (ss + 1260) + 0 ≤ room_1.slots; omega)⟩ (fun r_690 _ H locs hr_690 hP hD hS => ?_)
    subst hr_690
    have hP : va_P D vwCl (YW ct a y (KR a b rs (BW ct a d bz (IW ct i (xE g) iv (LW ct lb u_640 (YW ct sa sy (XO x a sa h b d i lb xv (HW ct h ha hz R)))))))) H := hP
    have hD : va_D A (YW ct a y (KR a b rs (BW ct a d bz (IW ct i (xE g) iv (LW ct lb u_640 (YW ct sa sy (XO x a sa h b d i lb xv (HW ct h ha hz R)))))))) := hD
    refine zTop (y := (t_at y (nI cz) (nI 6))) (a_ct hc hcn).2.2.2.1 ?_
    refine lv_aload_n hx hb dL_law_693 rfl (lv_at hl 0 rfl) ?_
    refine lv_iload hx hb dL_law_694 (lv_at hl 12 rfl) ?_
    refine lv_bipush (v := nI (6)) hx hb dL_law_696 (by decide) ?_
    refine zVIX [.int (nI (cz)), .int (nI (6))] [.int ((t_at y (nI cz) (nI 6)))] (kX10_at (a) (y) (b) (rs) (d) (bz) (i) (iv) (lb) (u_640) (sa) (sy) (x) (xv) (h) (ha) (hz) (R) (nI (cz)) (nI (6)) (show yI y from hy) (show yF y from hf)) hx hb hml hown hts (cwV 2 hts gL_law_X10_at rfl rfl rfl (by decide +kernel) ⟨(Nat.le_of_ble_eq_true rfl), (Nat.le_of_ble_eq_true rfl)⟩) hK hP hD hS hA hX (va_recv hK hP (ci := 9) (q0 := 38) rfl rfl) rfl hl.1 rfl (Nat.le_of_ble_eq_true rfl) dL_law_698 ⟨(by show (cc + 18) + 0 ≤ room_1.cells; omega), (by show (ss + 1260) + 0 ≤ room_1.slots; omega)⟩ (fun r_698 _ H locs hr_698 hP hD hS => ?_)
    subst hr_698
    have hP : va_P D vwCl (YW ct a y (KR a b rs (BW ct a d bz (IW ct i (xE g) iv (LW ct lb u_640 (YW ct sa sy (XO x a sa h b d i lb xv (HW ct h ha hz R)))))))) H := hP
    have hD : va_D A (YW ct a y (KR a b rs (BW ct a d bz (IW ct i (xE g) iv (LW ct lb u_640 (YW ct sa sy (XO x a sa h b d i lb xv (HW ct h ha hz R)))))))) := hD
    refine zTop (y := (t_at y (nI cz) (nI 6))) (a_at_in hc hcn (by omega)) ?_
    refine lv_icmp_ne (tgt := 919) hx hb dL_law_701 (by decide) (fun c9 => absurd rfl c9) (fun c9 => ?_)
    refine lv_aload_n hx hb dL_law_704 rfl (lv_at hl 0 rfl) ?_
    refine lv_iload hx hb dL_law_705 (lv_at hl 12 rfl) ?_
    refine lv_iconst (v := nI (4)) hx hb dL_law_707 (by decide) ?_
    refine zVIX [.int (nI (cz)), .int (nI (4))] [] (kX10_cartOf (a) (y) (b) (rs) (d) (bz) (i) (iv) (lb) (u_640) (sa) (sy) (x) (xv) (h) (ha) (hz) (R) (nI (cz)) (nI (4)) (show yI y from hy) (show yF y from hf)) hx hb hml hown hts (cwV 2 hts gL_law_X10_cartOf rfl rfl rfl (by decide +kernel) ⟨(Nat.le_of_ble_eq_true rfl), (Nat.le_of_ble_eq_true rfl)⟩) hK hP hD hS hA hX (va_recv hK hP (ci := 9) (q0 := 38) rfl rfl) rfl hl.1 rfl (Nat.le_of_ble_eq_true rfl) dL_law_708 ⟨(by show (cc + 18) + 0 ≤ room_1.cells; omega), (by show (ss + 1260) + 0 ≤ room_1.slots; omega)⟩ (fun r_708 _ H locs hr_708 hP hD hS => ?_)
    subst hr_708
    have hP : va_P D vwCl (YW ct a y (KR a b rs (BW ct a d bz (IW ct i (xE g) iv (LW ct lb u_640 (YW ct sa sy (XO x a sa h b d i lb xv (HW ct h ha hz R)))))))) H := hP
    have hD : va_D A (YW ct a y (KR a b rs (BW ct a d bz (IW ct i (xE g) iv (LW ct lb u_640 (YW ct sa sy (XO x a sa h b d i lb xv (HW ct h ha hz R)))))))) := hD
    refine zTop (y := (t_all y (nI cz))) (a_ct hc hcn).2.2.2.2.1 ?_
    refine lv_iload hx hb dL_law_711 (lv_at hl 20 rfl) ?_
    refine lv_icmp_ne (tgt := 919) hx hb dL_law_713 (by decide) (fun c9 => absurd rfl c9) (fun c9 => ?_)
    refine lv_aload_n hx hb dL_law_716 rfl (lv_at hl 0 rfl) ?_
    refine lv_iload hx hb dL_law_717 (lv_at hl 12 rfl) ?_
    refine lv_bipush (v := nI (6)) hx hb dL_law_719 (by decide) ?_
    refine zVIX [.int (nI (cz)), .int (nI (6))] [] (kX10_cartOf (a) (y) (b) (rs) (d) (bz) (i) (iv) (lb) (u_640) (sa) (sy) (x) (xv) (h) (ha) (hz) (R) (nI (cz)) (nI (6)) (show yI y from hy) (show yF y from hf)) hx hb hml hown hts (cwV 2 hts gL_law_X10_cartOf rfl rfl rfl (by decide +kernel) ⟨(Nat.le_of_ble_eq_true rfl), (Nat.le_of_ble_eq_true rfl)⟩) hK hP hD hS hA hX (va_recv hK hP (ci := 9) (q0 := 38) rfl rfl) rfl hl.1 rfl (Nat.le_of_ble_eq_true rfl) dL_law_721 ⟨(by show (cc + 18) + 0 ≤ room_1.cells; omega), (by show (ss + 1260) + 0 ≤ room_1.slots; omega)⟩ (fun r_721 _ H locs hr_721 hP hD hS => ?_)
    subst hr_721
    have hP : va_P D vwCl (YW ct a y (KR a b rs (BW ct a d bz (IW ct i (xE g) iv (LW ct lb u_640 (YW ct sa sy (XO x a sa h b d i lb xv (HW ct h ha hz R)))))))) H := hP
    have hD : va_D A (YW ct a y (KR a b rs (BW ct a d bz (IW ct i (xE g) iv (LW ct lb u_640 (YW ct sa sy (XO x a sa h b d i lb xv (HW ct h ha hz R)))))))) := hD
    refine zTop (y := (t_im y (nI cz))) (a_ct hc hcn).2.2.2.2.2.2.1 ?_
    refine lv_iload hx hb dL_law_724 (lv_at hl 13 rfl) ?_
    refine lv_iload hx hb dL_law_726 (lv_at hl 14 rfl) ?_
    refine lv_isub hx hb dL_law_728 ?_
    refine va_mabs hx hb (hml.trans hl.1.symm) hown (hts (.methodLink RL 62 Lib.Math.abs.name) (by decide +kernel)) (hts (.static Lib.Math.abs.name) (by decide +kernel)) (hts (.initialized "java/lang/Math") (by decide +kernel)) (hts (.code Lib.Math.abs.name Lib.Math.abs.code 1 (some .int)) (by decide +kernel)) (Nat.le_of_ble_eq_true rfl) (Nat.le_of_ble_eq_true rfl) (by show (cc + 18) ≤ room_1.cells; omega) (by show (ss + 1260) ≤ room_1.slots; omega) dL_law_729 ?_
    refine zTop (y := (t_im y (nI cz))) rfl ?_
    refine lv_icmp_ne (tgt := 919) hx hb dL_law_732 (by decide) (fun c9 => absurd rfl c9) (fun c9 => ?_)
    refine lv_aload_n hx hb dL_law_735 rfl (lv_at hl 0 rfl) ?_
    refine lv_iload hx hb dL_law_736 (lv_at hl 12 rfl) ?_
    refine lv_bipush (v := nI (7)) hx hb dL_law_738 (by decide) ?_
    refine zVIX [.int (nI (cz)), .int (nI (7))] [] (kX10_cartOf (a) (y) (b) (rs) (d) (bz) (i) (iv) (lb) (u_640) (sa) (sy) (x) (xv) (h) (ha) (hz) (R) (nI (cz)) (nI (7)) (show yI y from hy) (show yF y from hf)) hx hb hml hown hts (cwV 2 hts gL_law_X10_cartOf rfl rfl rfl (by decide +kernel) ⟨(Nat.le_of_ble_eq_true rfl), (Nat.le_of_ble_eq_true rfl)⟩) hK hP hD hS hA hX (va_recv hK hP (ci := 9) (q0 := 38) rfl rfl) rfl hl.1 rfl (Nat.le_of_ble_eq_true rfl) dL_law_740 ⟨(by show (cc + 18) + 0 ≤ room_1.cells; omega), (by show (ss + 1260) + 0 ≤ room_1.slots; omega)⟩ (fun r_740 _ H locs hr_740 hP hD hS => ?_)
    subst hr_740
    have hP : va_P D vwCl (YW ct a y (KR a b rs (BW ct a d bz (IW ct i (xE g) iv (LW ct lb u_640 (YW ct sa sy (XO x a sa h b d i lb xv (HW ct h ha hz R)))))))) H := hP
    have hD : va_D A (YW ct a y (KR a b rs (BW ct a d bz (IW ct i (xE g) iv (LW ct lb u_640 (YW ct sa sy (XO x a sa h b d i lb xv (HW ct h ha hz R)))))))) := hD
    refine zTop (y := nI (t_cr y cz)) (a_ct hc hcn).2.2.2.2.2.2.2 ?_
    refine lv_iload hx hb dL_law_743 (lv_at hl 18 rfl) ?_
    refine zN_if_eq (tgt := 752) hx hb (by omega) dL_law_745 (by decide) (fun c745_3 => ?_) (fun c745_3 => ?_)
    · skip
      refine lv_iconst (v := nI (0)) hx hb dL_law_752 (by decide) ?_
      refine lv_iload hx hb dL_law_753 (lv_at hl 19 rfl) ?_
      refine zN_if_eq (tgt := 762) hx hb (by omega) dL_law_755 (by decide) (fun c755_4 => ?_) (fun c755_4 => ?_)
      · skip
        refine lv_iconst (v := nI (0)) hx hb dL_law_762 (by decide) ?_
        refine zNadd hx hb dL_law_763 ?_
        refine zTop (y := nI (t_cr y cz)) (congrArg nI (by omega)) ?_
        refine lv_icmp_ne (tgt := 919) hx hb dL_law_764 (by decide) (fun c9 => absurd rfl c9) (fun c9 => ?_)
        refine W.widen (k := cc + 18) (n := ss + 1260) (by show (cc + 18) ≤ _; omega) (by show (ss + 1260) ≤ _; omega) ?_
        exact go767 u_640 H locs ls hu9 hP hD hS (lv_sub hl [0, 1, 2, 3, 4, 5, 6, 7, 8, 9, 10, 11, 12, 13, 14, 20, 21, 22, 23] rfl)
      · skip
        refine lv_iconst (v := nI (1)) hx hb dL_law_758 (by decide) ?_
        refine lv_goto (tgt := 763) hx hb dL_law_759 (by decide) ?_
        refine zNadd hx hb dL_law_763 ?_
        refine zTop (y := nI (t_cr y cz)) (congrArg nI (by omega)) ?_
        refine lv_icmp_ne (tgt := 919) hx hb dL_law_764 (by decide) (fun c9 => absurd rfl c9) (fun c9 => ?_)
        refine W.widen (k := cc + 18) (n := ss + 1260) (by show (cc + 18) ≤ _; omega) (by show (ss + 1260) ≤ _; omega) ?_
        exact go767 u_640 H locs ls hu9 hP hD hS (lv_sub hl [0, 1, 2, 3, 4, 5, 6, 7, 8, 9, 10, 11, 12, 13, 14, 20, 21, 22, 23] rfl)
    · skip
      refine lv_iconst (v := nI (1)) hx hb dL_law_748 (by decide) ?_
      refine lv_goto (tgt := 753) hx hb dL_law_749 (by decide) ?_
      refine lv_iload hx hb dL_law_753 (lv_at hl 19 rfl) ?_
      refine zN_if_eq (tgt := 762) hx hb (by omega) dL_law_755 (by decide) (fun c755_5 => ?_) (fun c755_5 => ?_)
      · skip
        refine lv_iconst (v := nI (0)) hx hb dL_law_762 (by decide) ?_
        refine zNadd hx hb dL_law_763 ?_
        refine zTop (y := nI (t_cr y cz)) (congrArg nI (by omega)) ?_
        refine lv_icmp_ne (tgt := 919) hx hb dL_law_764 (by decide) (fun c9 => absurd rfl c9) (fun c9 => ?_)
        refine W.widen (k := cc + 18) (n := ss + 1260) (by show (cc + 18) ≤ _; omega) (by show (ss + 1260) ≤ _; omega) ?_
        exact go767 u_640 H locs ls hu9 hP hD hS (lv_sub hl [0, 1, 2, 3, 4, 5, 6, 7, 8, 9, 10, 11, 12, 13, 14, 20, 21, 22, 23] rfl)
      · skip
        refine lv_iconst (v := nI (1)) hx hb dL_law_758 (by decide) ?_
        refine lv_goto (tgt := 763) hx hb dL_law_759 (by decide) ?_
        refine zNadd hx hb dL_law_763 ?_
        refine zTop (y := nI (t_cr y cz)) (congrArg nI (by omega)) ?_
        refine lv_icmp_ne (tgt := 919) hx hb dL_law_764 (by decide) (fun c9 => absurd rfl c9) (fun c9 => ?_)
        refine W.widen (k := cc + 18) (n := ss + 1260) (by show (cc + 18) ≤ _; omega) (by show (ss + 1260) ≤ _; omega) ?_
        exact go767 u_640 H locs ls hu9 hP hD hS (lv_sub hl [0, 1, 2, 3, 4, 5, 6, 7, 8, 9, 10, 11, 12, 13, 14, 20, 21, 22, 23] rfl)
set_option maxHeartbeats 4000000 in
set_option maxRecDepth 100000 in
theorem law_k9 {D : va_G} {ct : Nat → ClassId} {g : XG} {p : Program} {l : Launch} {e : Env} {s : State} {m : MethodId} {args : Array Value} {below : List Frame} {meth : Method} {c : Code} {A : Nat → Prop} {Q : State → Prop} (hx : p.tables.exec = Jvm.exec) (hb : c.code = cL_law) (hml : c.maxLocals = 27) (hown : s.vm.findClass RL = some m.cls) (hts : ∀ w ∈ wsL_law, w.before args s = true) (hK : zK D ct s) (hA : ∀ q, s.heap.size ≤ q → A q) (hX : zX g A s s.heap) (a : Nat → Nat) (y : YS) (b : Nat → Nat) (rs : RS) (d : Nat → Nat) (bz : BS) (i : Nat → Nat) (iv : IS) (lb : Nat → Nat) (lz : LST) (sa : Nat → Nat) (sy : YS) (x : Nat → Nat) (xv : Int32 × Int32) (h : Nat → Nat) (ha : Nat → Nat → Nat) (hz : HS) (R : va_W) (t cz cr wo : Nat) (we tr : Int32) (tx0 : List Nat) (ch le : Int32) (wf : Nat → Int32) (hK4 : K43 y) (hZ : zT9 g s) (hL0 : LR tx0 lz) (hc : cz < y_cn y) (hch : ch = (if t_at y (nI cz) (nI 6) = -4 then -4 else foI (chL y cz (y_rn y)))) (hwf : ∀ j, j < (ixp y (nI cz) 6).length → wf j = y_w y ((ixp y (nI cz) 6).getD j 0)) (hle : le = lsC wf (ixp y (nI cz) 6).length 0 (nI 0) (nI 0)) (cc ss : Nat) (hcc : cc + 0 ≤ room_1.cells) (hss : ss + 0 ≤ room_1.slots) (go921 : ∀ (bz1 : BS) (H : Heap) (locs : List Loc) (ls : Array Slot), va_P D vwCl (YW ct a y (KR a b rs (BW ct a d bz1 (IW ct i (xE g) iv (LW ct lb lz (YW ct sa sy (XO x a sa h b d i lb xv (HW ct h ha hz R)))))))) H → va_D A (YW ct a y (KR a b rs (BW ct a d bz1 (IW ct i (xE g) iv (LW ct lb lz (YW ct sa sy (XO x a sa h b d i lb xv (HW ct h ha hz R)))))))) → va_S A s.heap H locs → lv_has ls 27 [(1, .ref (x 0)), (0, .ref (xB g)), (2, .int (nI (t))), (3, .int (nI (y_n y))), (4, .int (nI (y_cn y))), (5, .int (nI (t_tk y (nI 0)))), (6, .int (nI (t_tc y))), (7, .int (we)), (8, .int ((t_sw y))), (9, .int (nI (cr))), (10, .int (nI (wo))), (11, .int (tr)), (12, .int (nI (cz))), (17, .int ((t_all y (nI cz))))] → W p l e room_1 s m args below meth c H locs cc ss Q (F0 m 921 ls [])) (H : Heap) (locs : List Loc) (ls : Array Slot) (hP : va_P D vwCl (YW ct a y (KR a b rs (BW ct a d bz (IW ct i (xE g) iv (LW ct lb lz (YW ct sa sy (XO x a sa h b d i lb xv (HW ct h ha hz R)))))))) H) (hD : va_D A (YW ct a y (KR a b rs (BW ct a d bz (IW ct i (xE g) iv (LW ct lb lz (YW ct sa sy (XO x a sa h b d i lb xv (HW ct h ha hz R))))))))) (hS : va_S A s.heap H locs) (hl : lv_has ls 27 [(1, .ref (x 0)), (0, .ref (xB g)), (2, .int (nI (t))), (3, .int (nI (y_n y))), (4, .int (nI (y_cn y))), (5, .int (nI (t_tk y (nI 0)))), (6, .int (nI (t_tc y))), (7, .int (we)), (8, .int ((t_sw y))), (9, .int (nI (cr))), (10, .int (nI (wo))), (11, .int (tr)), (12, .int (nI (cz))), (13, .int ((t_te y (nI cz) (nI 0)))), (14, .int ((t_te y (nI cz) (nI 1)))), (17, .int ((t_all y (nI cz)))), (18, .int ((tkF y (nI cz) 2))), (19, .int (ch)), (25, .int (le))]) : W p l e room_1 s m args below meth c H locs cc ss Q (F0 m 767 ls []) := by
  have hJ4 := hK4.1
  obtain ⟨hy, hf⟩ := yJ_i hJ4
  have hD4 : yD y := yJ_D hJ4
  have hrn2 : y_rn y = 2 := hK4.2.2.2.2
  have hix := ixp_len (y := y) (x := nI cz) 6
  have hkd : ∀ j9, j9 < y_n y → y_kd y j9 = nI 0 ∨ y_kd y j9 = nI 1 := fun j9 hj9 => (hy.2.2.2.1 j9 hj9).1
  have hn : y_n y ≤ 12 := hy.1
  have hcn : y_cn y ≤ 4 := hy.2.1
  have hrn : y_rn y ≤ 5 := hy.2.2.1
  have fl0 : (fmL 0).length = 1 := rfl
  have fl1 : (fmL 1).length = 1 := rfl
  have fl2 : (fmL 2).length = 0 := rfl
  have fl3 : (fmL 3).length = 1 := rfl
  have fl4 : (fmL 4).length = 1 := rfl
  have fl5 : (fmL 5).length = 1 := rfl
  have fl6 : (fmL 6).length = 1 := rfl
  have fl7 : (fmL 7).length = 1 := rfl
  have fl8 : (fmL 8).length = 1 := rfl
  refine lv_aload_n hx hb dL_law_767 rfl (lv_at hl 0 rfl) ?_
  refine lv_iload hx hb dL_law_768 (lv_at hl 12 rfl) ?_
  refine lv_iconst (v := nI (0)) hx hb dL_law_770 (by decide) ?_
  refine zVIX [.int (nI (cz)), .int (nI (0))] [] (kX10_tenths (a) (y) (b) (rs) (d) (bz) (i) (iv) (lb) (lz) (sa) (sy) (x) (xv) (h) (ha) (hz) (R) (nI (cz)) (nI (0)) (show yI y from hy) (show yF y from hf)) hx hb hml hown hts (cwV 2 hts gL_law_X10_tenths rfl rfl rfl (by decide +kernel) ⟨(Nat.le_of_ble_eq_true rfl), (Nat.le_of_ble_eq_true rfl)⟩) hK hP hD hS hA hX (va_recv hK hP (ci := 9) (q0 := 38) rfl rfl) rfl hl.1 rfl (Nat.le_of_ble_eq_true rfl) dL_law_771 ⟨(by show cc + 0 ≤ room_1.cells; omega), (by show ss + 0 ≤ room_1.slots; omega)⟩ (fun r_771 _ H locs hr_771 hP hD hS => ?_)
  subst hr_771
  have hP : va_P D vwCl (YW ct a y (KR a b rs (BW ct a d bz (IW ct i (xE g) iv (LW ct lb lz (YW ct sa sy (XO x a sa h b d i lb xv (HW ct h ha hz R)))))))) H := hP
  have hD : va_D A (YW ct a y (KR a b rs (BW ct a d bz (IW ct i (xE g) iv (LW ct lb lz (YW ct sa sy (XO x a sa h b d i lb xv (HW ct h ha hz R)))))))) := hD
  refine zTop (y := (t_te y (nI cz) (nI 0))) (ten_in hc hcn) ?_
  refine lv_iload hx hb dL_law_774 (lv_at hl 13 rfl) ?_
  refine lv_icmp_ne (tgt := 919) hx hb dL_law_776 (by decide) (fun c9 => absurd rfl c9) (fun c9 => ?_)
  refine lv_aload_n hx hb dL_law_779 rfl (lv_at hl 0 rfl) ?_
  refine lv_iload hx hb dL_law_780 (lv_at hl 12 rfl) ?_
  refine lv_iconst (v := nI (1)) hx hb dL_law_782 (by decide) ?_
  refine zVIX [.int (nI (cz)), .int (nI (1))] [] (kX10_tenths (a) (y) (b) (rs) (d) (bz) (i) (iv) (lb) (lz) (sa) (sy) (x) (xv) (h) (ha) (hz) (R) (nI (cz)) (nI (1)) (show yI y from hy) (show yF y from hf)) hx hb hml hown hts (cwV 2 hts gL_law_X10_tenths rfl rfl rfl (by decide +kernel) ⟨(Nat.le_of_ble_eq_true rfl), (Nat.le_of_ble_eq_true rfl)⟩) hK hP hD hS hA hX (va_recv hK hP (ci := 9) (q0 := 38) rfl rfl) rfl hl.1 rfl (Nat.le_of_ble_eq_true rfl) dL_law_783 ⟨(by show cc + 0 ≤ room_1.cells; omega), (by show ss + 0 ≤ room_1.slots; omega)⟩ (fun r_783 _ H locs hr_783 hP hD hS => ?_)
  subst hr_783
  have hP : va_P D vwCl (YW ct a y (KR a b rs (BW ct a d bz (IW ct i (xE g) iv (LW ct lb lz (YW ct sa sy (XO x a sa h b d i lb xv (HW ct h ha hz R)))))))) H := hP
  have hD : va_D A (YW ct a y (KR a b rs (BW ct a d bz (IW ct i (xE g) iv (LW ct lb lz (YW ct sa sy (XO x a sa h b d i lb xv (HW ct h ha hz R)))))))) := hD
  refine zTop (y := (t_te y (nI cz) (nI 1))) (ten_in hc hcn) ?_
  refine lv_iload hx hb dL_law_786 (lv_at hl 14 rfl) ?_
  refine lv_icmp_ne (tgt := 919) hx hb dL_law_788 (by decide) (fun c9 => absurd rfl c9) (fun c9 => ?_)
  refine lv_aload_n hx hb dL_law_791 rfl (lv_at hl 0 rfl) ?_
  refine lv_iload hx hb dL_law_792 (lv_at hl 12 rfl) ?_
  refine lv_iconst (v := nI (0)) hx hb dL_law_794 (by decide) ?_
  refine zVIX [.int (nI (cz)), .int (nI (0))] [] (kX10_tenthsAgain (a) (y) (b) (rs) (d) (bz) (i) (iv) (lb) (lz) (sa) (sy) (x) (xv) (h) (ha) (hz) (R) (nI (cz)) (nI (0)) (show yI y from hy) (show yF y from hf)) hx hb hml hown hts (cwV 2 hts gL_law_X10_tenthsAgain rfl rfl rfl (by decide +kernel) ⟨(Nat.le_of_ble_eq_true rfl), (Nat.le_of_ble_eq_true rfl)⟩) hK hP hD hS hA hX (va_recv hK hP (ci := 9) (q0 := 38) rfl rfl) rfl hl.1 rfl (Nat.le_of_ble_eq_true rfl) dL_law_795 ⟨(by show cc + 0 ≤ room_1.cells; omega), (by show ss + 0 ≤ room_1.slots; omega)⟩ (fun r_795 _ H locs hr_795 hP hD hS => ?_)
  subst hr_795
  have hP : va_P D vwCl (YW ct a y (KR a b rs (BW ct a d bz (IW ct i (xE g) iv (LW ct lb lz (YW ct sa sy (XO x a sa h b d i lb xv (HW ct h ha hz R)))))))) H := hP
  have hD : va_D A (YW ct a y (KR a b rs (BW ct a d bz (IW ct i (xE g) iv (LW ct lb lz (YW ct sa sy (XO x a sa h b d i lb xv (HW ct h ha hz R)))))))) := hD
  refine zTop (y := (t_te y (nI cz) (nI 0))) ((tenG_in hc hcn).trans (to_te0 hy hc)) ?_
  refine lv_iload hx hb dL_law_798 (lv_at hl 13 rfl) ?_
  refine lv_icmp_ne (tgt := 919) hx hb dL_law_800 (by decide) (fun c9 => absurd rfl c9) (fun c9 => ?_)
  refine lv_aload_n hx hb dL_law_803 rfl (lv_at hl 0 rfl) ?_
  refine lv_iload hx hb dL_law_804 (lv_at hl 12 rfl) ?_
  refine lv_iconst (v := nI (1)) hx hb dL_law_806 (by decide) ?_
  refine zVIX [.int (nI (cz)), .int (nI (1))] [] (kX10_tenthsAgain (a) (y) (b) (rs) (d) (bz) (i) (iv) (lb) (lz) (sa) (sy) (x) (xv) (h) (ha) (hz) (R) (nI (cz)) (nI (1)) (show yI y from hy) (show yF y from hf)) hx hb hml hown hts (cwV 2 hts gL_law_X10_tenthsAgain rfl rfl rfl (by decide +kernel) ⟨(Nat.le_of_ble_eq_true rfl), (Nat.le_of_ble_eq_true rfl)⟩) hK hP hD hS hA hX (va_recv hK hP (ci := 9) (q0 := 38) rfl rfl) rfl hl.1 rfl (Nat.le_of_ble_eq_true rfl) dL_law_807 ⟨(by show cc + 0 ≤ room_1.cells; omega), (by show ss + 0 ≤ room_1.slots; omega)⟩ (fun r_807 _ H locs hr_807 hP hD hS => ?_)
  subst hr_807
  have hP : va_P D vwCl (YW ct a y (KR a b rs (BW ct a d bz (IW ct i (xE g) iv (LW ct lb lz (YW ct sa sy (XO x a sa h b d i lb xv (HW ct h ha hz R)))))))) H := hP
  have hD : va_D A (YW ct a y (KR a b rs (BW ct a d bz (IW ct i (xE g) iv (LW ct lb lz (YW ct sa sy (XO x a sa h b d i lb xv (HW ct h ha hz R)))))))) := hD
  refine zTop (y := (t_te y (nI cz) (nI 1))) ((tenG_in hc hcn).trans (to_te1 hy hc)) ?_
  refine lv_iload hx hb dL_law_810 (lv_at hl 14 rfl) ?_
  refine lv_icmp_ne (tgt := 919) hx hb dL_law_812 (by decide) (fun c9 => absurd rfl c9) (fun c9 => ?_)
  refine lv_iload hx hb dL_law_815 (lv_at hl 13 rfl) ?_
  refine lv_iload hx hb dL_law_817 (lv_at hl 14 rfl) ?_
  refine lv_iadd hx hb dL_law_819 ?_
  refine lv_bipush (v := nI (10)) hx hb dL_law_820 (by decide) ?_
  refine lv_iload hx hb dL_law_822 (lv_at hl 15 rfl) ?_
  refine lv_imul hx hb dL_law_824 ?_
  refine zTop (y := ((t_te y (nI cz) (nI 0)) + (t_te y (nI cz) (nI 1)))) (te_all hy hc) ?_
  refine lv_icmp_ne (tgt := 919) hx hb dL_law_825 (by decide) (fun c9 => absurd rfl c9) (fun c9 => ?_)
  refine lv_aload_n hx hb dL_law_828 rfl (lv_at hl 0 rfl) ?_
  refine lv_iload hx hb dL_law_829 (lv_at hl 12 rfl) ?_
  refine lv_iconst (v := nI (0)) hx hb dL_law_831 (by decide) ?_
  refine zVFX [.int (nI (cz)), .int (nI (0))] [] (kX10_axle (a) (y) (b) (rs) (d) (bz) (i) (iv) (lb) (lz) (sa) (sy) (x) (xv) (h) (ha) (hz) (R) (nI (cz)) (nI (0)) (show yI y from hy) (show yF y from hf)) hx hb hml hown hts (cwV 2 hts gL_law_X10_axle rfl rfl rfl (by decide +kernel) ⟨(Nat.le_of_ble_eq_true rfl), (Nat.le_of_ble_eq_true rfl)⟩) hK hP hD hS hA hX (va_recv hK hP (ci := 9) (q0 := 38) rfl rfl) rfl hl.1 rfl (Nat.le_of_ble_eq_true rfl) dL_law_832 ⟨(by show cc + 0 ≤ room_1.cells; omega), (by show ss + 0 ≤ room_1.slots; omega)⟩ (fun r_832 _ H locs hr_832 hP hD hS => ?_)
  subst hr_832
  have hP : va_P D vwCl (YW ct a y (KR a b rs (BW ct a d bz (IW ct i (xE g) iv (LW ct lb lz (YW ct sa sy (XO x a sa h b d i lb xv (HW ct h ha hz R)))))))) H := hP
  have hD : va_D A (YW ct a y (KR a b rs (BW ct a d bz (IW ct i (xE g) iv (LW ct lb lz (YW ct sa sy (XO x a sa h b d i lb xv (HW ct h ha hz R)))))))) := hD
  rw [axle_in (z := nI 0) hc hcn]
  refine lv_iload hx hb dL_law_835 (lv_at hl 13 rfl) ?_
  refine lv_i2f hx hb dL_law_837 ?_
  refine lv_ldcf (v := 1092616192) hx hb hown (hts (.constantFloat RL 130 (1092616192)) (by decide +kernel)) dL_law_838 ?_
  refine lv_fdiv hx hb dL_law_840 (nF_n32 (ld_nF (z := nI 0) hy hc)) ?_
  refine lv_fcmp hx hb dL_law_841 ?_
  refine zTop (y := nI (0)) (cmpF_self (ld_nF (z := nI 0) hy hc) _) ?_
  refine lv_if_ne (tgt := 919) hx hb dL_law_842 (by decide) (fun c9 => absurd (by decide) c9) (fun c9 => ?_)
  refine lv_aload_n hx hb dL_law_845 rfl (lv_at hl 0 rfl) ?_
  refine lv_iload hx hb dL_law_846 (lv_at hl 12 rfl) ?_
  refine lv_iconst (v := nI (1)) hx hb dL_law_848 (by decide) ?_
  refine zVFX [.int (nI (cz)), .int (nI (1))] [] (kX10_axle (a) (y) (b) (rs) (d) (bz) (i) (iv) (lb) (lz) (sa) (sy) (x) (xv) (h) (ha) (hz) (R) (nI (cz)) (nI (1)) (show yI y from hy) (show yF y from hf)) hx hb hml hown hts (cwV 2 hts gL_law_X10_axle rfl rfl rfl (by decide +kernel) ⟨(Nat.le_of_ble_eq_true rfl), (Nat.le_of_ble_eq_true rfl)⟩) hK hP hD hS hA hX (va_recv hK hP (ci := 9) (q0 := 38) rfl rfl) rfl hl.1 rfl (Nat.le_of_ble_eq_true rfl) dL_law_849 ⟨(by show cc + 0 ≤ room_1.cells; omega), (by show ss + 0 ≤ room_1.slots; omega)⟩ (fun r_849 _ H locs hr_849 hP hD hS => ?_)
  subst hr_849
  have hP : va_P D vwCl (YW ct a y (KR a b rs (BW ct a d bz (IW ct i (xE g) iv (LW ct lb lz (YW ct sa sy (XO x a sa h b d i lb xv (HW ct h ha hz R)))))))) H := hP
  have hD : va_D A (YW ct a y (KR a b rs (BW ct a d bz (IW ct i (xE g) iv (LW ct lb lz (YW ct sa sy (XO x a sa h b d i lb xv (HW ct h ha hz R)))))))) := hD
  rw [axle_in (z := nI 1) hc hcn]
  refine lv_iload hx hb dL_law_852 (lv_at hl 14 rfl) ?_
  refine lv_i2f hx hb dL_law_854 ?_
  refine lv_ldcf (v := 1092616192) hx hb hown (hts (.constantFloat RL 130 (1092616192)) (by decide +kernel)) dL_law_855 ?_
  refine lv_fdiv hx hb dL_law_857 (nF_n32 (ld_nF (z := nI 1) hy hc)) ?_
  refine lv_fcmp hx hb dL_law_858 ?_
  refine zTop (y := nI (0)) (cmpF_self (ld_nF (z := nI 1) hy hc) _) ?_
  refine lv_if_ne (tgt := 919) hx hb dL_law_859 (by decide) (fun c9 => absurd (by decide) c9) (fun c9 => ?_)
  refine lv_aload_n hx hb dL_law_862 rfl (lv_at hl 0 rfl) ?_
  refine lv_iload hx hb dL_law_863 (lv_at hl 12 rfl) ?_
  refine zVIX [.int (nI (cz))] [] (kX10_best (a) (y) (b) (rs) (d) (bz) (i) (iv) (lb) (lz) (sa) (sy) (x) (xv) (h) (ha) (hz) (R) (nI (cz)) (show yI y from hy) (show yF y from hf)) hx hb hml hown hts (cwV 1 hts gL_law_X10_best rfl rfl rfl (by decide +kernel) ⟨(Nat.le_of_ble_eq_true rfl), (Nat.le_of_ble_eq_true rfl)⟩) hK hP hD hS hA hX (va_recv hK hP (ci := 9) (q0 := 38) rfl rfl) rfl hl.1 rfl (Nat.le_of_ble_eq_true rfl) dL_law_865 ⟨(by show cc + 0 ≤ room_1.cells; omega), (by show ss + 0 ≤ room_1.slots; omega)⟩ (fun r_865 _ H locs hr_865 hP hD hS => ?_)
  subst hr_865
  have hP : va_P D vwCl (YW ct a y (KR a b rs (BW ct a d ((F_bstC y bz (nI (cz))).2) (IW ct i (xE g) iv (LW ct lb lz (YW ct sa sy (XO x a sa h b d i lb xv (HW ct h ha hz R)))))))) H := hP
  have hD : va_D A (YW ct a y (KR a b rs (BW ct a d ((F_bstC y bz (nI (cz))).2) (IW ct i (xE g) iv (LW ct lb lz (YW ct sa sy (XO x a sa h b d i lb xv (HW ct h ha hz R)))))))) := hD
  refine zTop (y := le) ((bst_in (yJ_A hJ4) hc hwf).trans hle.symm) ?_
  refine lv_iload hx hb dL_law_868 (lv_at hl 18 rfl) ?_
  refine lv_icmp_ne (tgt := 919) hx hb dL_law_870 (by decide) (fun c9 => absurd rfl c9) (fun c9 => ?_)
  refine lv_aload_n hx hb dL_law_873 rfl (lv_at hl 0 rfl) ?_
  refine lv_iload hx hb dL_law_874 (lv_at hl 12 rfl) ?_
  refine zVIX [.int (nI (cz))] [] (kX10_bestAgain (a) (y) (b) (rs) (d) (((F_bstC y bz (nI (cz))).2)) (i) (iv) (lb) (lz) (sa) (sy) (x) (xv) (h) (ha) (hz) (R) (nI (cz)) (show yI y from hy) (show yF y from hf) (show p_in (nI (cz)) (y_cn y) → wB (gatB y (nI (cz)) ((F_bstC y bz (nI (cz))).2)) from (fun _ => wB_gat (yJ_A hJ4).2.2.1))) hx hb hml hown hts (cwV 1 hts gL_law_X10_bestAgain rfl rfl rfl (by decide +kernel) ⟨(Nat.le_of_ble_eq_true rfl), (Nat.le_of_ble_eq_true rfl)⟩) hK hP hD hS hA hX (va_recv hK hP (ci := 9) (q0 := 38) rfl rfl) rfl hl.1 rfl (Nat.le_of_ble_eq_true rfl) dL_law_876 ⟨(by show cc + 0 ≤ room_1.cells; omega), (by show ss + 0 ≤ room_1.slots; omega)⟩ (fun r_876 _ H locs hr_876 hP hD hS => ?_)
  subst hr_876
  have hP : va_P D vwCl (YW ct a y (KR a b rs (BW ct a d ((F_bsgC y ((F_bstC y bz (nI (cz))).2) (nI (cz))).2) (IW ct i (xE g) iv (LW ct lb lz (YW ct sa sy (XO x a sa h b d i lb xv (HW ct h ha hz R)))))))) H := hP
  have hD : va_D A (YW ct a y (KR a b rs (BW ct a d ((F_bsgC y ((F_bstC y bz (nI (cz))).2) (nI (cz))).2) (IW ct i (xE g) iv (LW ct lb lz (YW ct sa sy (XO x a sa h b d i lb xv (HW ct h ha hz R)))))))) := hD
  refine zTop (y := le) ((bsg_in (yJ_A hJ4) hc hwf).trans hle.symm) ?_
  refine lv_iload hx hb dL_law_879 (lv_at hl 18 rfl) ?_
  refine lv_icmp_ne (tgt := 919) hx hb dL_law_881 (by decide) (fun c9 => absurd rfl c9) (fun c9 => ?_)
  refine lv_iload hx hb dL_law_884 (lv_at hl 18 rfl) ?_
  refine lv_aload_n hx hb dL_law_886 rfl (lv_at hl 0 rfl) ?_
  refine lv_iload hx hb dL_law_887 (lv_at hl 12 rfl) ?_
  refine lv_bipush (v := nI (6)) hx hb dL_law_889 (by decide) ?_
  refine zVIX [.int (nI (cz)), .int (nI (6))] [.int (le)] (kX10_cartOf (a) (y) (b) (rs) (d) (((F_bsgC y ((F_bstC y bz (nI (cz))).2) (nI (cz))).2)) (i) (iv) (lb) (lz) (sa) (sy) (x) (xv) (h) (ha) (hz) (R) (nI (cz)) (nI (6)) (show yI y from hy) (show yF y from hf)) hx hb hml hown hts (cwV 2 hts gL_law_X10_cartOf rfl rfl rfl (by decide +kernel) ⟨(Nat.le_of_ble_eq_true rfl), (Nat.le_of_ble_eq_true rfl)⟩) hK hP hD hS hA hX (va_recv hK hP (ci := 9) (q0 := 38) rfl rfl) rfl hl.1 rfl (Nat.le_of_ble_eq_true rfl) dL_law_891 ⟨(by show cc + 0 ≤ room_1.cells; omega), (by show ss + 0 ≤ room_1.slots; omega)⟩ (fun r_891 _ H locs hr_891 hP hD hS => ?_)
  subst hr_891
  have hP : va_P D vwCl (YW ct a y (KR a b rs (BW ct a d ((F_bsgC y ((F_bstC y bz (nI (cz))).2) (nI (cz))).2) (IW ct i (xE g) iv (LW ct lb lz (YW ct sa sy (XO x a sa h b d i lb xv (HW ct h ha hz R)))))))) H := hP
  have hD : va_D A (YW ct a y (KR a b rs (BW ct a d ((F_bsgC y ((F_bstC y bz (nI (cz))).2) (nI (cz))).2) (IW ct i (xE g) iv (LW ct lb lz (YW ct sa sy (XO x a sa h b d i lb xv (HW ct h ha hz R)))))))) := hD
  refine zTop (y := (t_im y (nI cz))) (a_ct hc hcn).2.2.2.2.2.2.1 ?_
  refine lv_icmp_gt (tgt := 919) hx hb dL_law_894 (by decide) (fun c894_3 => ?_) (fun c894_3 => ?_)
  · skip
    exact absurd c894_3 (Int32.not_lt.mpr (by rw [hle]; exact best_le (yJ_A hJ4) hc hwf))
  · skip
    refine lv_aload_n hx hb dL_law_897 rfl (lv_at hl 0 rfl) ?_
    refine lv_iload hx hb dL_law_898 (lv_at hl 12 rfl) ?_
    refine zVIX [.int (nI (cz))] [] (kX10_takes (a) (y) (b) (rs) (d) (((F_bsgC y ((F_bstC y bz (nI (cz))).2) (nI (cz))).2)) (i) (iv) (lb) (lz) (sa) (sy) (x) (xv) (h) (ha) (hz) (R) (nI (cz)) (show yI y from hy) (show yF y from hf)) hx hb hml hown hts (cwV 1 hts gL_law_X10_takes rfl rfl rfl (by decide +kernel) ⟨(Nat.le_of_ble_eq_true rfl), (Nat.le_of_ble_eq_true rfl)⟩) hK hP hD hS hA hX (va_recv hK hP (ci := 9) (q0 := 38) rfl rfl) rfl hl.1 rfl (Nat.le_of_ble_eq_true rfl) dL_law_900 ⟨(by show cc + 0 ≤ room_1.cells; omega), (by show ss + 0 ≤ room_1.slots; omega)⟩ (fun r_900 _ H locs hr_900 hP hD hS => ?_)
    subst hr_900
    have hP : va_P D vwCl (YW ct a y (KR a b rs (BW ct a d ((F_bsgC y ((F_bstC y bz (nI (cz))).2) (nI (cz))).2) (IW ct i (xE g) iv (LW ct lb lz (YW ct sa sy (XO x a sa h b d i lb xv (HW ct h ha hz R)))))))) H := hP
    have hD : va_D A (YW ct a y (KR a b rs (BW ct a d ((F_bsgC y ((F_bstC y bz (nI (cz))).2) (nI (cz))).2) (IW ct i (xE g) iv (LW ct lb lz (YW ct sa sy (XO x a sa h b d i lb xv (HW ct h ha hz R)))))))) := hD
    refine zTop (y := (tkF y (nI cz) 2)) (tk_in hc hcn hrn2) ?_
    refine lv_iload hx hb dL_law_903 (lv_at hl 16 rfl) ?_
    refine lv_icmp_ne (tgt := 919) hx hb dL_law_905 (by decide) (fun c9 => absurd rfl c9) (fun c9 => ?_)
    refine lv_aload_n hx hb dL_law_908 rfl (lv_at hl 0 rfl) ?_
    refine lv_iload hx hb dL_law_909 (lv_at hl 12 rfl) ?_
    refine zVIX [.int (nI (cz))] [] (kX10_cheapest (a) (y) (b) (rs) (d) (((F_bsgC y ((F_bstC y bz (nI (cz))).2) (nI (cz))).2)) (i) (iv) (lb) (lz) (sa) (sy) (x) (xv) (h) (ha) (hz) (R) (nI (cz)) (show yI y from hy) (show yF y from hf)) hx hb hml hown hts (cwV 1 hts gL_law_X10_cheapest rfl rfl rfl (by decide +kernel) ⟨(Nat.le_of_ble_eq_true rfl), (Nat.le_of_ble_eq_true rfl)⟩) hK hP hD hS hA hX (va_recv hK hP (ci := 9) (q0 := 38) rfl rfl) rfl hl.1 rfl (Nat.le_of_ble_eq_true rfl) dL_law_911 ⟨(by show cc + 0 ≤ room_1.cells; omega), (by show ss + 0 ≤ room_1.slots; omega)⟩ (fun r_911 _ H locs hr_911 hP hD hS => ?_)
    subst hr_911
    have hP : va_P D vwCl (YW ct a y (KR a b rs (BW ct a d ((F_bsgC y ((F_bstC y bz (nI (cz))).2) (nI (cz))).2) (IW ct i (xE g) iv (LW ct lb lz (YW ct sa sy (XO x a sa h b d i lb xv (HW ct h ha hz R)))))))) H := hP
    have hD : va_D A (YW ct a y (KR a b rs (BW ct a d ((F_bsgC y ((F_bstC y bz (nI (cz))).2) (nI (cz))).2) (IW ct i (xE g) iv (LW ct lb lz (YW ct sa sy (XO x a sa h b d i lb xv (HW ct h ha hz R)))))))) := hD
    refine zTop (y := ch) ((ch_in (yJ_A hJ4) hc).trans hch.symm) ?_
    refine lv_iload hx hb dL_law_914 (lv_at hl 17 rfl) ?_
    refine lv_icmp_eq (tgt := 921) hx hb dL_law_916 (by decide) (fun c9 => ?_) (fun c9 => absurd rfl c9)
    exact go921 ((F_bsgC y ((F_bstC y bz (nI (cz))).2) (nI (cz))).2) H locs ls hP hD hS (lv_sub hl [0, 1, 2, 3, 4, 5, 6, 7, 8, 9, 10, 11, 12, 15] rfl)
