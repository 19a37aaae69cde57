/-! THE LAW'S BODY: the roads that take a cart -/
theorem chL_lt {y : YS} {c f : Nat} : ∀ k, chL y c k = some f → f < k
  | 0, h => by cases h
  | k + 1, h => by
    rw [chL] at h
    by_cases q : p_wi y (nI c) k
    · rw [if_pos q] at h
      cases e : chL y c k with
      | none => rw [e] at h; cases h; exact Nat.lt_succ_self _
      | some f' =>
        rw [e] at h
        have := chL_lt k e
        have h : (if raN y k < raN y f' ∨ (raN y k = raN y f' ∧ miN y k < miN y f') then some k else some f') = some f := h
        by_cases q2 : raN y k < raN y f' ∨ (raN y k = raN y f' ∧ miN y k < miN y f')
        · rw [if_pos q2] at h; cases h; exact Nat.lt_succ_self _
        · rw [if_neg q2] at h; cases h; omega
    · rw [if_neg q] at h
      have := chL_lt k h; omega
set_option maxHeartbeats 4000000 in
set_option maxRecDepth 100000 in
theorem law_k5 {D : va_G} {ct : Nat → ClassId} {g : XG} {p : Program} {l : Launch} {e : Env} {s : State} {m : MethodId} {args : Array Value} {below : List Frame} {meth : Method} {c : Code} {A : Nat → Prop} {Q : State → Prop} (hx : p.tables.exec = Jvm.exec) (hb : c.code = cL_law) (hml : c.maxLocals = 27) (hown : s.vm.findClass RL = some m.cls) (hts : ∀ w ∈ wsL_law, w.before args s = true) (hK : zK D ct s) (hA : ∀ q, s.heap.size ≤ q → A q) (hX : zX g A s s.heap) (a : Nat → Nat) (y : YS) (b : Nat → Nat) (rs : RS) (d : Nat → Nat) (bz : BS) (i : Nat → Nat) (iv : IS) (lb : Nat → Nat) (lz : LST) (sa : Nat → Nat) (sy : YS) (x : Nat → Nat) (xv : Int32 × Int32) (h : Nat → Nat) (ha : Nat → Nat → Nat) (hz : HS) (R : va_W) (t cz cr wo : Nat) (we tr : Int32) (tx0 : List Nat) (sb : Nat → Nat) (sz : SST) (wv : Nat → Nat) (wf : Nat → Int32) (f1 f2 : Nat) (hK4 : K43 y) (hZ : zT9 g s) (hL0 : LR tx0 lz) (hc : cz < y_cn y) (cc ss : Nat) (hcc : cc + 0 ≤ room_1.cells) (hss : ss + 0 ≤ room_1.slots) (go626 : ∀ (ch : Int32) (H : Heap) (locs : List Loc) (ls : Array Slot), ch = (if t_at y (nI cz) (nI 6) = -4 then -4 else foI (chL y cz (y_rn y))) → va_P D vwCl (YW ct a y (KR a b rs (BW ct a d bz (IW ct i (xE g) iv (LW ct lb lz (YW ct sa sy (XO x a sa h b d i lb xv (HW ct h ha hz (SW ct sb sz (WV ct wv ((ixp y (nI cz) 6).length, wf) R)))))))))) H → va_D A (YW ct a y (KR a b rs (BW ct a d bz (IW ct i (xE g) iv (LW ct lb lz (YW ct sa sy (XO x a sa h b d i lb xv (HW ct h ha hz (SW ct sb sz (WV ct wv ((ixp y (nI cz) 6).length, wf) R)))))))))) → va_S A s.heap H locs → lv_has ls 27 [(1, .ref (x 0)), (0, .ref (xB g)), (2, .int (nI (t))), (3, .int (nI (y_n y))), (4, .int (nI (y_cn y))), (5, .int (nI (t_tk y (nI 0)))), (6, .int (nI (t_tc y))), (7, .int (we)), (8, .int ((t_sw y))), (9, .int (nI (cr))), (10, .int (nI (wo))), (11, .int (tr)), (12, .int (nI (cz))), (13, .int ((t_te y (nI cz) (nI 0)))), (14, .int ((t_te y (nI cz) (nI 1)))), (15, .int (nI ((ixp y (nI cz) 6).length))), (16, .int ((t_wo y (nI cz) (nI 0)))), (20, .ref (wv 0)), (21, .ref (sb 0)), (23, .int (nI (f1))), (24, .int (nI (f2))), (17, .int ((t_all y (nI cz)))), (18, .int ((tkF y (nI cz) 2))), (19, .int (ch))] → W p l e room_1 s m args below meth c H locs cc ss Q (F0 m 626 ls [])) (H : Heap) (locs : List Loc) (ls : Array Slot) (hP : va_P D vwCl (YW ct a y (KR a b rs (BW ct a d bz (IW ct i (xE g) iv (LW ct lb lz (YW ct sa sy (XO x a sa h b d i lb xv (HW ct h ha hz (SW ct sb sz (WV ct wv ((ixp y (nI cz) 6).length, wf) R)))))))))) H) (hD : va_D A (YW ct a y (KR a b rs (BW ct a d bz (IW ct i (xE g) iv (LW ct lb lz (YW ct sa sy (XO x a sa h b d i lb xv (HW ct h ha hz (SW ct sb sz (WV ct wv ((ixp y (nI cz) 6).length, wf) R))))))))))) (hS : va_S A s.heap H locs) (hl : lv_has ls 27 [(1, .ref (x 0)), (0, .ref (xB g)), (2, .int (nI (t))), (3, .int (nI (y_n y))), (4, .int (nI (y_cn y))), (5, .int (nI (t_tk y (nI 0)))), (6, .int (nI (t_tc y))), (7, .int (we)), (8, .int ((t_sw y))), (9, .int (nI (cr))), (10, .int (nI (wo))), (11, .int (tr)), (12, .int (nI (cz))), (13, .int ((t_te y (nI cz) (nI 0)))), (14, .int ((t_te y (nI cz) (nI 1)))), (15, .int (nI ((ixp y (nI cz) 6).length))), (16, .int ((t_wo y (nI cz) (nI 0)))), (17, .int (((t_wo y (nI cz) (nI 0)) + (t_tp y (nI cz))))), (18, .int (nI (0))), (19, .int ((-4))), (20, .ref (wv 0)), (21, .ref (sb 0)), (23, .int (nI (f1))), (24, .int (nI (f2))), (25, .int (nI (0)))]) : W p l e room_1 s m args below meth c H locs cc ss Q (F0 m 515 ls []) := by
  have hJ4 := hK4.1
  obtain ⟨hy, hf⟩ := yJ_i hJ4
  have hD4 : yD y := yJ_D hJ4
  have hrn2 : y_rn y = 2 := hK4.2.2.2.2
  have hix := ixp_len (y := y) (x := nI cz) 6
  have hkd : ∀ j9, j9 < y_n y → y_kd y j9 = nI 0 ∨ y_kd y j9 = nI 1 := fun j9 hj9 => (hy.2.2.2.1 j9 hj9).1
  have hn : y_n y ≤ 12 := hy.1
  have hcn : y_cn y ≤ 4 := hy.2.1
  have hrn : y_rn y ≤ 5 := hy.2.2.1
  have fl0 : (fmL 0).length = 1 := rfl
  have fl1 : (fmL 1).length = 1 := rfl
  have fl2 : (fmL 2).length = 0 := rfl
  have fl3 : (fmL 3).length = 1 := rfl
  have fl4 : (fmL 4).length = 1 := rfl
  have fl5 : (fmL 5).length = 1 := rfl
  have fl6 : (fmL 6).length = 1 := rfl
  have fl7 : (fmL 7).length = 1 := rfl
  have fl8 : (fmL 8).length = 1 := rfl
  have htp := tp_wo hy hD4 hc
  rw [htp] at hl
  have lp515 : ∀ (fu : Nat) (r : Nat) (tk : Int32) (oo : Option Nat) (H : Heap) (locs : List Loc) (ls : Array Slot), (r ≤ y_rn y) → (tk = tkF y (nI cz) r) → (oo = (if t_at y (nI cz) (nI 6) = -4 then none else chL y cz r)) → y_rn y - r < fu → va_P D vwCl (YW ct a y (KR a b rs (BW ct a d bz (IW ct i (xE g) iv (LW ct lb lz (YW ct sa sy (XO x a sa h b d i lb xv (HW ct h ha hz (SW ct sb sz (WV ct wv ((ixp y (nI cz) 6).length, wf) R)))))))))) H → va_D A (YW ct a y (KR a b rs (BW ct a d bz (IW ct i (xE g) iv (LW ct lb lz (YW ct sa sy (XO x a sa h b d i lb xv (HW ct h ha hz (SW ct sb sz (WV ct wv ((ixp y (nI cz) 6).length, wf) R)))))))))) → va_S A s.heap H locs → lv_has ls 27 [(0, .ref (xB g)), (1, .ref (x 0)), (2, .int (nI (t))), (3, .int (nI (y_n y))), (4, .int (nI (y_cn y))), (5, .int (nI (t_tk y (nI 0)))), (6, .int (nI (t_tc y))), (7, .int (we)), (8, .int ((t_sw y))), (9, .int (nI (cr))), (10, .int (nI (wo))), (11, .int (tr)), (12, .int (nI (cz))), (13, .int ((t_te y (nI cz) (nI 0)))), (14, .int ((t_te y (nI cz) (nI 1)))), (15, .int (nI ((ixp y (nI cz) 6).length))), (16, .int ((t_wo y (nI cz) (nI 0)))), (17, .int (((t_wo y (nI cz) (nI 0)) + (t_wo y (nI cz) (nI 1))))), (18, .int (tk)), (19, .int ((foI oo))), (20, .ref (wv 0)), (21, .ref (sb 0)), (23, .int (nI (f1))), (24, .int (nI (f2))), (25, .int (nI (r)))] → W p l e room_1 s m args below meth c H locs cc ss Q (F0 m 515 ls []) := by
    intro fu
    induction fu with
    | zero => intro r tk oo H locs ls hr htk hch hfu; exact absurd hfu (Nat.not_lt_zero _)
    | succ fu ih515 =>
      intro r tk oo H locs ls hr htk hch hfu hP hD hS hl
      refine lv_iload hx hb dL_law_515 (lv_at hl 24 rfl) ?_
      refine lv_aload_n hx hb dL_law_517 rfl (lv_at hl 1 rfl) ?_
      refine lv_iconst (v := nI (5)) hx hb dL_law_518 (by decide) ?_
      refine zVIX [.int (nI (5))] [.int (nI (r))] (kX10_account (a) (y) (b) (rs) (d) (bz) (i) (iv) (lb) (lz) (sa) (sy) (x) (xv) (h) (ha) (hz) (SW ct sb sz (WV ct wv ((ixp y (nI cz) 6).length, wf) R)) (nI (5)) (show yI y from hy) (show yF y from hf)) hx hb hml hown hts (cwV 1 hts gL_law_X10_account rfl rfl rfl (by decide +kernel) ⟨(Nat.le_of_ble_eq_true rfl), (Nat.le_of_ble_eq_true rfl)⟩) hK hP hD hS hA hX (va_recv hK hP (ci := 9) (q0 := 38) rfl rfl) rfl hl.1 rfl (Nat.le_of_ble_eq_true rfl) dL_law_519 ⟨(by show cc + 0 ≤ room_1.cells; omega), (by show ss + 0 ≤ room_1.slots; omega)⟩ (fun r_519 _ H locs hr_519 hP hD hS => ?_)
      subst hr_519
      have hP : va_P D vwCl (YW ct a y (KR a b rs (BW ct a d bz (IW ct i (xE g) iv (LW ct lb lz (YW ct sa sy (XO x a sa h b d i lb xv (HW ct h ha hz (SW ct sb sz (WV ct wv ((ixp y (nI cz) 6).length, wf) R)))))))))) H := hP
      have hD : va_D A (YW ct a y (KR a b rs (BW ct a d bz (IW ct i (xE g) iv (LW ct lb lz (YW ct sa sy (XO x a sa h b d i lb xv (HW ct h ha hz (SW ct sb sz (WV ct wv ((ixp y (nI cz) 6).length, wf) R)))))))))) := hD
      refine zTop (y := nI (y_rn y)) acc_5 ?_
      refine zN_icmp_ge (tgt := 626) hx hb (by omega) (by omega) dL_law_522 (by decide) (fun c522_1 => ?_) (fun c522_1 => ?_)
      · skip
        obtain rfl : r = y_rn y := by omega
        have htk2 : tk = tkF y (nI cz) 2 := by rw [htk, hrn2]
        subst htk2
        exact go626 (foI oo) H locs ls (by rw [hch]; split <;> rfl) hP hD hS (lv_sub hl [1, 0, 2, 3, 4, 5, 6, 7, 8, 9, 10, 11, 12, 13, 14, 15, 16, 20, 21, 22, 23, 17, 18, 19] rfl)
      · skip
        refine lv_iload hx hb dL_law_525 (lv_at hl 17 rfl) ?_
        refine lv_aload_n hx hb dL_law_527 rfl (lv_at hl 1 rfl) ?_
        refine lv_iload hx hb dL_law_528 (lv_at hl 24 rfl) ?_
        refine lv_iconst (v := nI (0)) hx hb dL_law_530 (by decide) ?_
        refine zVIX [.int (nI (r)), .int (nI (0))] [.int (((t_wo y (nI cz) (nI 0)) + (t_wo y (nI cz) (nI 1))))] (kX10_roadOf (a) (y) (b) (rs) (d) (bz) (i) (iv) (lb) (lz) (sa) (sy) (x) (xv) (h) (ha) (hz) (SW ct sb sz (WV ct wv ((ixp y (nI cz) 6).length, wf) R)) (nI (r)) (nI (0)) (show yI y from hy) (show yF y from hf)) hx hb hml hown hts (cwV 2 hts gL_law_X10_roadOf rfl rfl rfl (by decide +kernel) ⟨(Nat.le_of_ble_eq_true rfl), (Nat.le_of_ble_eq_true rfl)⟩) hK hP hD hS hA hX (va_recv hK hP (ci := 9) (q0 := 38) rfl rfl) rfl hl.1 rfl (Nat.le_of_ble_eq_true rfl) dL_law_531 ⟨(by show cc + 0 ≤ room_1.cells; omega), (by show ss + 0 ≤ room_1.slots; omega)⟩ (fun r_531 _ H locs hr_531 hP hD hS => ?_)
        subst hr_531
        have hP : va_P D vwCl (YW ct a y (KR a b rs (BW ct a d bz (IW ct i (xE g) iv (LW ct lb lz (YW ct sa sy (XO x a sa h b d i lb xv (HW ct h ha hz (SW ct sb sz (WV ct wv ((ixp y (nI cz) 6).length, wf) R)))))))))) H := hP
        have hD : va_D A (YW ct a y (KR a b rs (BW ct a d bz (IW ct i (xE g) iv (LW ct lb lz (YW ct sa sy (XO x a sa h b d i lb xv (HW ct h ha hz (SW ct sb sz (WV ct wv ((ixp y (nI cz) 6).length, wf) R)))))))))) := hD
        refine zTop (y := (y_li y r)) (a_rd (y := y) (r := r) (by omega) hrn).1 ?_
        refine lv_icmp_le (tgt := 540) hx hb dL_law_534 (by decide) (fun c534_2 => ?_) (fun c534_2 => ?_)
        · skip
          have hw9 : p_wi y (nI cz) r := Int32.not_lt.mpr c534_2
          refine lv_iload hx hb dL_law_540 (lv_at hl 18 rfl) ?_
          refine lv_iconst (v := nI (1)) hx hb dL_law_542 (by decide) ?_
          refine lv_iload hx hb dL_law_543 (lv_at hl 24 rfl) ?_
          refine lv_ishl hx hb dL_law_545 ?_
          refine lv_ior hx hb dL_law_546 ?_
          refine lv_istore (lv' := [(18, .int ((tk ||| (nI (1) <<< (nI (r) &&& 31))))), (0, .ref (xB g)), (1, .ref (x 0)), (2, .int (nI (t))), (3, .int (nI (y_n y))), (4, .int (nI (y_cn y))), (5, .int (nI (t_tk y (nI 0)))), (6, .int (nI (t_tc y))), (7, .int (we)), (8, .int ((t_sw y))), (9, .int (nI (cr))), (10, .int (nI (wo))), (11, .int (tr)), (12, .int (nI (cz))), (13, .int ((t_te y (nI cz) (nI 0)))), (14, .int ((t_te y (nI cz) (nI 1)))), (15, .int (nI ((ixp y (nI cz) 6).length))), (16, .int ((t_wo y (nI cz) (nI 0)))), (17, .int (((t_wo y (nI cz) (nI 0)) + (t_wo y (nI cz) (nI 1))))), (19, .int ((foI oo))), (20, .ref (wv 0)), (21, .ref (sb 0)), (23, .int (nI (f1))), (24, .int (nI (f2))), (25, .int (nI (r)))]) hx hb dL_law_547 hl (by decide) rfl (fun ls hl => ?_)
          refine lv_aload_n hx hb dL_law_549 rfl (lv_at hl 2 rfl) ?_
          refine lv_iload hx hb dL_law_550 (lv_at hl 13 rfl) ?_
          refine lv_bipush (v := nI (6)) hx hb dL_law_552 (by decide) ?_
          refine zVIX [.int (nI (cz)), .int (nI (6))] [] (kX10_at (a) (y) (b) (rs) (d) (bz) (i) (iv) (lb) (lz) (sa) (sy) (x) (xv) (h) (ha) (hz) (SW ct sb sz (WV ct wv ((ixp y (nI cz) 6).length, wf) R)) (nI (cz)) (nI (6)) (show yI y from hy) (show yF y from hf)) hx hb hml hown hts (cwV 2 hts gL_law_X10_at rfl rfl rfl (by decide +kernel) ⟨(Nat.le_of_ble_eq_true rfl), (Nat.le_of_ble_eq_true rfl)⟩) hK hP hD hS hA hX (va_recv hK hP (ci := 9) (q0 := 38) rfl rfl) rfl hl.1 rfl (Nat.le_of_ble_eq_true rfl) dL_law_554 ⟨(by show cc + 0 ≤ room_1.cells; omega), (by show ss + 0 ≤ room_1.slots; omega)⟩ (fun r_554 _ H locs hr_554 hP hD hS => ?_)
          subst hr_554
          have hP : va_P D vwCl (YW ct a y (KR a b rs (BW ct a d bz (IW ct i (xE g) iv (LW ct lb lz (YW ct sa sy (XO x a sa h b d i lb xv (HW ct h ha hz (SW ct sb sz (WV ct wv ((ixp y (nI cz) 6).length, wf) R)))))))))) H := hP
          have hD : va_D A (YW ct a y (KR a b rs (BW ct a d bz (IW ct i (xE g) iv (LW ct lb lz (YW ct sa sy (XO x a sa h b d i lb xv (HW ct h ha hz (SW ct sb sz (WV ct wv ((ixp y (nI cz) 6).length, wf) R)))))))))) := hD
          rcases at_ex y (nI (cz)) (nI (6)) with e557 | ⟨k557, hk557, e557⟩
          · skip
            refine zTop (y := (-4)) ((a_at_in (by omega) hcn (by omega)).trans e557) ?_
            refine lv_if_ge (tgt := 563) hx hb dL_law_557 (by decide) (fun c9 => absurd c9 (by decide)) (fun c9 => ?_)
            refine lv_goto (tgt := 620) hx hb dL_law_560 (by decide) ?_
            refine lv_iinc (v := nI ((r + 1))) (lv' := [(25, .int (nI ((r + 1)))), (18, .int ((tk ||| (nI (1) <<< (nI (r) &&& 31))))), (0, .ref (xB g)), (1, .ref (x 0)), (2, .int (nI (t))), (3, .int (nI (y_n y))), (4, .int (nI (y_cn y))), (5, .int (nI (t_tk y (nI 0)))), (6, .int (nI (t_tc y))), (7, .int (we)), (8, .int ((t_sw y))), (9, .int (nI (cr))), (10, .int (nI (wo))), (11, .int (tr)), (12, .int (nI (cz))), (13, .int ((t_te y (nI cz) (nI 0)))), (14, .int ((t_te y (nI cz) (nI 1)))), (15, .int (nI ((ixp y (nI cz) 6).length))), (16, .int ((t_wo y (nI cz) (nI 0)))), (17, .int (((t_wo y (nI cz) (nI 0)) + (t_wo y (nI cz) (nI 1))))), (19, .int ((foI oo))), (20, .ref (wv 0)), (21, .ref (sb 0)), (23, .int (nI (f1))), (24, .int (nI (f2)))]) hx hb dL_law_620 hl (k := 24) rfl (zInc _) (by decide) rfl (fun ls hl => ?_)
            refine lv_goto (tgt := 515) hx hb dL_law_623 (by decide) ?_
            exact ih515 ((r + 1)) ((tk ||| (nI (1) <<< (nI (r) &&& 31)))) (oo) H locs ls (by omega) (by rw [tkW, if_pos hw9, htk]) (by rw [if_pos e557] at hch ⊢; exact hch) (by omega) hP hD hS (lv_sub hl [2, 3, 4, 5, 6, 7, 8, 9, 10, 11, 12, 13, 14, 15, 16, 17, 18, 19, 1, 20, 21, 22, 23, 24, 0] rfl)
          · skip
            refine zTop (y := nI (k557)) ((a_at_in (by omega) hcn (by omega)).trans e557) ?_
            refine zN_if_ge (tgt := 563) hx hb (by omega) dL_law_557 (by decide) ?_
            refine lv_iload hx hb dL_law_563 (lv_at hl 19 rfl) ?_
            rcases oo with _ | f9
            · skip
              refine zTop (y := (-4)) rfl ?_
              have hl : lv_has ls 27 [(18, .int ((tk ||| (nI (1) <<< (nI (r) &&& 31))))), (0, .ref (xB g)), (1, .ref (x 0)), (2, .int (nI (t))), (3, .int (nI (y_n y))), (4, .int (nI (y_cn y))), (5, .int (nI (t_tk y (nI 0)))), (6, .int (nI (t_tc y))), (7, .int (we)), (8, .int ((t_sw y))), (9, .int (nI (cr))), (10, .int (nI (wo))), (11, .int (tr)), (12, .int (nI (cz))), (13, .int ((t_te y (nI cz) (nI 0)))), (14, .int ((t_te y (nI cz) (nI 1)))), (15, .int (nI ((ixp y (nI cz) 6).length))), (16, .int ((t_wo y (nI cz) (nI 0)))), (17, .int (((t_wo y (nI cz) (nI 0)) + (t_wo y (nI cz) (nI 1))))), (19, .int ((-4))), (20, .ref (wv 0)), (21, .ref (sb 0)), (23, .int (nI (f1))), (24, .int (nI (f2))), (25, .int (nI (r)))] := hl
              rw [if_neg (by rw [e557]; exact nI_ne4 (by omega))] at hch
              refine lv_if_ge (tgt := 572) hx hb dL_law_565 (by decide) (fun c9 => absurd c9 (by decide)) (fun c9 => ?_)
              refine lv_iconst (v := (-1)) hx hb dL_law_568 (by decide) ?_
              refine lv_goto (tgt := 587) hx hb dL_law_569 (by decide) ?_
              refine lv_istore (lv' := [(26, .int ((-1))), (18, .int ((tk ||| (nI (1) <<< (nI (r) &&& 31))))), (0, .ref (xB g)), (1, .ref (x 0)), (2, .int (nI (t))), (3, .int (nI (y_n y))), (4, .int (nI (y_cn y))), (5, .int (nI (t_tk y (nI 0)))), (6, .int (nI (t_tc y))), (7, .int (we)), (8, .int ((t_sw y))), (9, .int (nI (cr))), (10, .int (nI (wo))), (11, .int (tr)), (12, .int (nI (cz))), (13, .int ((t_te y (nI cz) (nI 0)))), (14, .int ((t_te y (nI cz) (nI 1)))), (15, .int (nI ((ixp y (nI cz) 6).length))), (16, .int ((t_wo y (nI cz) (nI 0)))), (17, .int (((t_wo y (nI cz) (nI 0)) + (t_wo y (nI cz) (nI 1))))), (19, .int ((-4))), (20, .ref (wv 0)), (21, .ref (sb 0)), (23, .int (nI (f1))), (24, .int (nI (f2))), (25, .int (nI (r)))]) hx hb dL_law_587 hl (by decide) rfl (fun ls hl => ?_)
              refine lv_iload hx hb dL_law_589 (lv_at hl 0 rfl) ?_
              refine lv_if_lt (tgt := 616) hx hb dL_law_591 (by decide) (fun c9 => ?_) (fun c9 => absurd (by decide) c9)
              refine lv_iload hx hb dL_law_616 (lv_at hl 25 rfl) ?_
              refine lv_istore (lv' := [(19, .int (nI (r))), (26, .int ((-1))), (18, .int ((tk ||| (nI (1) <<< (nI (r) &&& 31))))), (0, .ref (xB g)), (1, .ref (x 0)), (2, .int (nI (t))), (3, .int (nI (y_n y))), (4, .int (nI (y_cn y))), (5, .int (nI (t_tk y (nI 0)))), (6, .int (nI (t_tc y))), (7, .int (we)), (8, .int ((t_sw y))), (9, .int (nI (cr))), (10, .int (nI (wo))), (11, .int (tr)), (12, .int (nI (cz))), (13, .int ((t_te y (nI cz) (nI 0)))), (14, .int ((t_te y (nI cz) (nI 1)))), (15, .int (nI ((ixp y (nI cz) 6).length))), (16, .int ((t_wo y (nI cz) (nI 0)))), (17, .int (((t_wo y (nI cz) (nI 0)) + (t_wo y (nI cz) (nI 1))))), (20, .ref (wv 0)), (21, .ref (sb 0)), (23, .int (nI (f1))), (24, .int (nI (f2))), (25, .int (nI (r)))]) hx hb dL_law_618 hl (by decide) rfl (fun ls hl => ?_)
              refine lv_iinc (v := nI ((r + 1))) (lv' := [(25, .int (nI ((r + 1)))), (19, .int (nI (r))), (26, .int ((-1))), (18, .int ((tk ||| (nI (1) <<< (nI (r) &&& 31))))), (0, .ref (xB g)), (1, .ref (x 0)), (2, .int (nI (t))), (3, .int (nI (y_n y))), (4, .int (nI (y_cn y))), (5, .int (nI (t_tk y (nI 0)))), (6, .int (nI (t_tc y))), (7, .int (we)), (8, .int ((t_sw y))), (9, .int (nI (cr))), (10, .int (nI (wo))), (11, .int (tr)), (12, .int (nI (cz))), (13, .int ((t_te y (nI cz) (nI 0)))), (14, .int ((t_te y (nI cz) (nI 1)))), (15, .int (nI ((ixp y (nI cz) 6).length))), (16, .int ((t_wo y (nI cz) (nI 0)))), (17, .int (((t_wo y (nI cz) (nI 0)) + (t_wo y (nI cz) (nI 1))))), (20, .ref (wv 0)), (21, .ref (sb 0)), (23, .int (nI (f1))), (24, .int (nI (f2)))]) hx hb dL_law_620 hl (k := 25) rfl (zInc _) (by decide) rfl (fun ls hl => ?_)
              refine lv_goto (tgt := 515) hx hb dL_law_623 (by decide) ?_
              exact ih515 ((r + 1)) ((tk ||| (nI (1) <<< (nI (r) &&& 31)))) ((some r)) H locs ls (by omega) (by rw [tkW, if_pos hw9, htk]) (by rw [if_neg (by rw [e557]; exact nI_ne4 (by omega)), chL, if_pos hw9, ← hch]) (by omega) hP hD hS (lv_sub hl [4, 5, 6, 7, 8, 9, 10, 11, 12, 13, 14, 15, 16, 17, 18, 19, 20, 21, 3, 1, 22, 23, 24, 25, 0] rfl)
            · skip
              refine zTop (y := nI (f9)) rfl ?_
              have hl : lv_has ls 27 [(18, .int ((tk ||| (nI (1) <<< (nI (r) &&& 31))))), (0, .ref (xB g)), (1, .ref (x 0)), (2, .int (nI (t))), (3, .int (nI (y_n y))), (4, .int (nI (y_cn y))), (5, .int (nI (t_tk y (nI 0)))), (6, .int (nI (t_tc y))), (7, .int (we)), (8, .int ((t_sw y))), (9, .int (nI (cr))), (10, .int (nI (wo))), (11, .int (tr)), (12, .int (nI (cz))), (13, .int ((t_te y (nI cz) (nI 0)))), (14, .int ((t_te y (nI cz) (nI 1)))), (15, .int (nI ((ixp y (nI cz) 6).length))), (16, .int ((t_wo y (nI cz) (nI 0)))), (17, .int (((t_wo y (nI cz) (nI 0)) + (t_wo y (nI cz) (nI 1))))), (19, .int (nI (f9))), (20, .ref (wv 0)), (21, .ref (sb 0)), (23, .int (nI (f1))), (24, .int (nI (f2))), (25, .int (nI (r)))] := hl
              rw [if_neg (by rw [e557]; exact nI_ne4 (by omega))] at hch
              have hf9 : f9 < r := chL_lt r hch.symm
              obtain ⟨ra1, ra2, mi1, mi2, mi3⟩ := rd_is hy (r := r) (by omega)
              obtain ⟨rb1, rb2, mj1, mj2, mj3⟩ := rd_is hy (r := f9) (by omega)
              refine zN_if_ge (tgt := 572) hx hb (by omega) dL_law_565 (by decide) ?_
              refine lv_aload_n hx hb dL_law_572 rfl (lv_at hl 2 rfl) ?_
              refine lv_iload hx hb dL_law_573 (lv_at hl 24 rfl) ?_
              refine lv_iconst (v := nI (2)) hx hb dL_law_575 (by decide) ?_
              refine zVIX [.int (nI (r)), .int (nI (2))] [] (kX10_roadOf (a) (y) (b) (rs) (d) (bz) (i) (iv) (lb) (lz) (sa) (sy) (x) (xv) (h) (ha) (hz) (SW ct sb sz (WV ct wv ((ixp y (nI cz) 6).length, wf) R)) (nI (r)) (nI (2)) (show yI y from hy) (show yF y from hf)) hx hb hml hown hts (cwV 2 hts gL_law_X10_roadOf rfl rfl rfl (by decide +kernel) ⟨(Nat.le_of_ble_eq_true rfl), (Nat.le_of_ble_eq_true rfl)⟩) hK hP hD hS hA hX (va_recv hK hP (ci := 9) (q0 := 38) rfl rfl) rfl hl.1 rfl (Nat.le_of_ble_eq_true rfl) dL_law_576 ⟨(by show cc + 0 ≤ room_1.cells; omega), (by show ss + 0 ≤ room_1.slots; omega)⟩ (fun r_576 _ H locs hr_576 hP hD hS => ?_)
              subst hr_576
              have hP : va_P D vwCl (YW ct a y (KR a b rs (BW ct a d bz (IW ct i (xE g) iv (LW ct lb lz (YW ct sa sy (XO x a sa h b d i lb xv (HW ct h ha hz (SW ct sb sz (WV ct wv ((ixp y (nI cz) 6).length, wf) R)))))))))) H := hP
              have hD : va_D A (YW ct a y (KR a b rs (BW ct a d bz (IW ct i (xE g) iv (LW ct lb lz (YW ct sa sy (XO x a sa h b d i lb xv (HW ct h ha hz (SW ct sb sz (WV ct wv ((ixp y (nI cz) 6).length, wf) R)))))))))) := hD
              refine zTop (y := nI (raN y r)) ((a_rd (y := y) (r := r) (by omega) hrn).2.2.1.trans ra1) ?_
              refine lv_aload_n hx hb dL_law_579 rfl (lv_at hl 2 rfl) ?_
              refine lv_iload hx hb dL_law_580 (lv_at hl 19 rfl) ?_
              refine lv_iconst (v := nI (2)) hx hb dL_law_582 (by decide) ?_
              refine zVIX [.int (nI (f9)), .int (nI (2))] [.int (nI (raN y r))] (kX10_roadOf (a) (y) (b) (rs) (d) (bz) (i) (iv) (lb) (lz) (sa) (sy) (x) (xv) (h) (ha) (hz) (SW ct sb sz (WV ct wv ((ixp y (nI cz) 6).length, wf) R)) (nI (f9)) (nI (2)) (show yI y from hy) (show yF y from hf)) hx hb hml hown hts (cwV 2 hts gL_law_X10_roadOf rfl rfl rfl (by decide +kernel) ⟨(Nat.le_of_ble_eq_true rfl), (Nat.le_of_ble_eq_true rfl)⟩) hK hP hD hS hA hX (va_recv hK hP (ci := 9) (q0 := 38) rfl rfl) rfl hl.1 rfl (Nat.le_of_ble_eq_true rfl) dL_law_583 ⟨(by show cc + 0 ≤ room_1.cells; omega), (by show ss + 0 ≤ room_1.slots; omega)⟩ (fun r_583 _ H locs hr_583 hP hD hS => ?_)
              subst hr_583
              have hP : va_P D vwCl (YW ct a y (KR a b rs (BW ct a d bz (IW ct i (xE g) iv (LW ct lb lz (YW ct sa sy (XO x a sa h b d i lb xv (HW ct h ha hz (SW ct sb sz (WV ct wv ((ixp y (nI cz) 6).length, wf) R)))))))))) H := hP
              have hD : va_D A (YW ct a y (KR a b rs (BW ct a d bz (IW ct i (xE g) iv (LW ct lb lz (YW ct sa sy (XO x a sa h b d i lb xv (HW ct h ha hz (SW ct sb sz (WV ct wv ((ixp y (nI cz) 6).length, wf) R)))))))))) := hD
              refine zTop (y := nI (raN y f9)) ((a_rd (y := y) (r := f9) (by omega) hrn).2.2.1.trans rb1) ?_
              refine lv_isub hx hb dL_law_586 ?_
              refine lv_istore (lv' := [(26, .int ((nI (raN y r) - nI (raN y f9)))), (18, .int ((tk ||| (nI (1) <<< (nI (r) &&& 31))))), (0, .ref (xB g)), (1, .ref (x 0)), (2, .int (nI (t))), (3, .int (nI (y_n y))), (4, .int (nI (y_cn y))), (5, .int (nI (t_tk y (nI 0)))), (6, .int (nI (t_tc y))), (7, .int (we)), (8, .int ((t_sw y))), (9, .int (nI (cr))), (10, .int (nI (wo))), (11, .int (tr)), (12, .int (nI (cz))), (13, .int ((t_te y (nI cz) (nI 0)))), (14, .int ((t_te y (nI cz) (nI 1)))), (15, .int (nI ((ixp y (nI cz) 6).length))), (16, .int ((t_wo y (nI cz) (nI 0)))), (17, .int (((t_wo y (nI cz) (nI 0)) + (t_wo y (nI cz) (nI 1))))), (19, .int (nI (f9))), (20, .ref (wv 0)), (21, .ref (sb 0)), (23, .int (nI (f1))), (24, .int (nI (f2))), (25, .int (nI (r)))]) hx hb dL_law_587 hl (by decide) rfl (fun ls hl => ?_)
              refine lv_iload hx hb dL_law_589 (lv_at hl 0 rfl) ?_
              refine lv_if_lt (tgt := 616) hx hb dL_law_591 (by decide) (fun c591_8 => ?_) (fun c591_8 => ?_)
              · skip
                refine lv_iload hx hb dL_law_616 (lv_at hl 25 rfl) ?_
                refine lv_istore (lv' := [(19, .int (nI (r))), (26, .int ((nI (raN y r) - nI (raN y f9)))), (18, .int ((tk ||| (nI (1) <<< (nI (r) &&& 31))))), (0, .ref (xB g)), (1, .ref (x 0)), (2, .int (nI (t))), (3, .int (nI (y_n y))), (4, .int (nI (y_cn y))), (5, .int (nI (t_tk y (nI 0)))), (6, .int (nI (t_tc y))), (7, .int (we)), (8, .int ((t_sw y))), (9, .int (nI (cr))), (10, .int (nI (wo))), (11, .int (tr)), (12, .int (nI (cz))), (13, .int ((t_te y (nI cz) (nI 0)))), (14, .int ((t_te y (nI cz) (nI 1)))), (15, .int (nI ((ixp y (nI cz) 6).length))), (16, .int ((t_wo y (nI cz) (nI 0)))), (17, .int (((t_wo y (nI cz) (nI 0)) + (t_wo y (nI cz) (nI 1))))), (20, .ref (wv 0)), (21, .ref (sb 0)), (23, .int (nI (f1))), (24, .int (nI (f2))), (25, .int (nI (r)))]) hx hb dL_law_618 hl (by decide) rfl (fun ls hl => ?_)
                refine lv_iinc (v := nI ((r + 1))) (lv' := [(25, .int (nI ((r + 1)))), (19, .int (nI (r))), (26, .int ((nI (raN y r) - nI (raN y f9)))), (18, .int ((tk ||| (nI (1) <<< (nI (r) &&& 31))))), (0, .ref (xB g)), (1, .ref (x 0)), (2, .int (nI (t))), (3, .int (nI (y_n y))), (4, .int (nI (y_cn y))), (5, .int (nI (t_tk y (nI 0)))), (6, .int (nI (t_tc y))), (7, .int (we)), (8, .int ((t_sw y))), (9, .int (nI (cr))), (10, .int (nI (wo))), (11, .int (tr)), (12, .int (nI (cz))), (13, .int ((t_te y (nI cz) (nI 0)))), (14, .int ((t_te y (nI cz) (nI 1)))), (15, .int (nI ((ixp y (nI cz) 6).length))), (16, .int ((t_wo y (nI cz) (nI 0)))), (17, .int (((t_wo y (nI cz) (nI 0)) + (t_wo y (nI cz) (nI 1))))), (20, .ref (wv 0)), (21, .ref (sb 0)), (23, .int (nI (f1))), (24, .int (nI (f2)))]) hx hb dL_law_620 hl (k := 25) rfl (zInc _) (by decide) rfl (fun ls hl => ?_)
                refine lv_goto (tgt := 515) hx hb dL_law_623 (by decide) ?_
                have n591 : raN y r < raN y f9 := (neg_sub (a := raN y r) (b := raN y f9) (by omega) (by omega)).mp c591_8
                exact ih515 ((r + 1)) ((tk ||| (nI (1) <<< (nI (r) &&& 31)))) ((some r)) H locs ls (by omega) (by rw [tkW, if_pos hw9, htk]) (by rw [if_neg (by rw [e557]; exact nI_ne4 (by omega)), chL, if_pos hw9, ← hch]; show some r = (if raN y r < raN y f9 ∨ (raN y r = raN y f9 ∧ miN y r < miN y f9) then some r else some f9); rw [if_pos (by omega)]) (by omega) hP hD hS (lv_sub hl [4, 5, 6, 7, 8, 9, 10, 11, 12, 13, 14, 15, 16, 17, 18, 19, 20, 21, 3, 1, 22, 23, 24, 25, 0] rfl)
              · skip
                refine lv_iload hx hb dL_law_594 (lv_at hl 0 rfl) ?_
                refine lv_if_ne (tgt := 620) hx hb dL_law_596 (by decide) (fun c596_9 => ?_) (fun c596_9 => ?_)
                · skip
                  refine lv_iinc (v := nI ((r + 1))) (lv' := [(25, .int (nI ((r + 1)))), (26, .int ((nI (raN y r) - nI (raN y f9)))), (18, .int ((tk ||| (nI (1) <<< (nI (r) &&& 31))))), (0, .ref (xB g)), (1, .ref (x 0)), (2, .int (nI (t))), (3, .int (nI (y_n y))), (4, .int (nI (y_cn y))), (5, .int (nI (t_tk y (nI 0)))), (6, .int (nI (t_tc y))), (7, .int (we)), (8, .int ((t_sw y))), (9, .int (nI (cr))), (10, .int (nI (wo))), (11, .int (tr)), (12, .int (nI (cz))), (13, .int ((t_te y (nI cz) (nI 0)))), (14, .int ((t_te y (nI cz) (nI 1)))), (15, .int (nI ((ixp y (nI cz) 6).length))), (16, .int ((t_wo y (nI cz) (nI 0)))), (17, .int (((t_wo y (nI cz) (nI 0)) + (t_wo y (nI cz) (nI 1))))), (19, .int (nI (f9))), (20, .ref (wv 0)), (21, .ref (sb 0)), (23, .int (nI (f1))), (24, .int (nI (f2)))]) hx hb dL_law_620 hl (k := 25) rfl (zInc _) (by decide) rfl (fun ls hl => ?_)
                  refine lv_goto (tgt := 515) hx hb dL_law_623 (by decide) ?_
                  have n591 : ¬ raN y r < raN y f9 := fun q => c591_8 ((neg_sub (a := raN y r) (b := raN y f9) (by omega) (by omega)).mpr q)
                  have n596 : ¬ raN y r = raN y f9 := fun q => c596_9 ((sub_eq0 (a := raN y r) (b := raN y f9) (by omega) (by omega)).mpr q)
                  exact ih515 ((r + 1)) ((tk ||| (nI (1) <<< (nI (r) &&& 31)))) ((some f9)) H locs ls (by omega) (by rw [tkW, if_pos hw9, htk]) (by rw [if_neg (by rw [e557]; exact nI_ne4 (by omega)), chL, if_pos hw9, ← hch]; show some f9 = (if raN y r < raN y f9 ∨ (raN y r = raN y f9 ∧ miN y r < miN y f9) then some r else some f9); rw [if_neg (by omega)]) (by omega) hP hD hS (lv_sub hl [3, 4, 5, 6, 7, 8, 9, 10, 11, 12, 13, 14, 15, 16, 17, 18, 19, 20, 2, 21, 22, 23, 24, 25, 0] rfl)
                · skip
                  refine lv_aload_n hx hb dL_law_599 rfl (lv_at hl 3 rfl) ?_
                  refine lv_iload hx hb dL_law_600 (lv_at hl 25 rfl) ?_
                  refine lv_iconst (v := nI (1)) hx hb dL_law_602 (by decide) ?_
                  refine zVIX [.int (nI (r)), .int (nI (1))] [] (kX10_roadOf (a) (y) (b) (rs) (d) (bz) (i) (iv) (lb) (lz) (sa) (sy) (x) (xv) (h) (ha) (hz) (SW ct sb sz (WV ct wv ((ixp y (nI cz) 6).length, wf) R)) (nI (r)) (nI (1)) (show yI y from hy) (show yF y from hf)) hx hb hml hown hts (cwV 2 hts gL_law_X10_roadOf rfl rfl rfl (by decide +kernel) ⟨(Nat.le_of_ble_eq_true rfl), (Nat.le_of_ble_eq_true rfl)⟩) hK hP hD hS hA hX (va_recv hK hP (ci := 9) (q0 := 38) rfl rfl) rfl hl.1 rfl (Nat.le_of_ble_eq_true rfl) dL_law_603 ⟨(by show cc + 0 ≤ room_1.cells; omega), (by show ss + 0 ≤ room_1.slots; omega)⟩ (fun r_603 _ H locs hr_603 hP hD hS => ?_)
                  subst hr_603
                  have hP : va_P D vwCl (YW ct a y (KR a b rs (BW ct a d bz (IW ct i (xE g) iv (LW ct lb lz (YW ct sa sy (XO x a sa h b d i lb xv (HW ct h ha hz (SW ct sb sz (WV ct wv ((ixp y (nI cz) 6).length, wf) R)))))))))) H := hP
                  have hD : va_D A (YW ct a y (KR a b rs (BW ct a d bz (IW ct i (xE g) iv (LW ct lb lz (YW ct sa sy (XO x a sa h b d i lb xv (HW ct h ha hz (SW ct sb sz (WV ct wv ((ixp y (nI cz) 6).length, wf) R)))))))))) := hD
                  refine zTop (y := nI (miN y r)) ((a_rd (y := y) (r := r) (by omega) hrn).2.1.trans mi1) ?_
                  refine lv_aload_n hx hb dL_law_606 rfl (lv_at hl 3 rfl) ?_
                  refine lv_iload hx hb dL_law_607 (lv_at hl 20 rfl) ?_
                  refine lv_iconst (v := nI (1)) hx hb dL_law_609 (by decide) ?_
                  refine zVIX [.int (nI (f9)), .int (nI (1))] [.int (nI (miN y r))] (kX10_roadOf (a) (y) (b) (rs) (d) (bz) (i) (iv) (lb) (lz) (sa) (sy) (x) (xv) (h) (ha) (hz) (SW ct sb sz (WV ct wv ((ixp y (nI cz) 6).length, wf) R)) (nI (f9)) (nI (1)) (show yI y from hy) (show yF y from hf)) hx hb hml hown hts (cwV 2 hts gL_law_X10_roadOf rfl rfl rfl (by decide +kernel) ⟨(Nat.le_of_ble_eq_true rfl), (Nat.le_of_ble_eq_true rfl)⟩) hK hP hD hS hA hX (va_recv hK hP (ci := 9) (q0 := 38) rfl rfl) rfl hl.1 rfl (Nat.le_of_ble_eq_true rfl) dL_law_610 ⟨(by show cc + 0 ≤ room_1.cells; omega), (by show ss + 0 ≤ room_1.slots; omega)⟩ (fun r_610 _ H locs hr_610 hP hD hS => ?_)
                  subst hr_610
                  have hP : va_P D vwCl (YW ct a y (KR a b rs (BW ct a d bz (IW ct i (xE g) iv (LW ct lb lz (YW ct sa sy (XO x a sa h b d i lb xv (HW ct h ha hz (SW ct sb sz (WV ct wv ((ixp y (nI cz) 6).length, wf) R)))))))))) H := hP
                  have hD : va_D A (YW ct a y (KR a b rs (BW ct a d bz (IW ct i (xE g) iv (LW ct lb lz (YW ct sa sy (XO x a sa h b d i lb xv (HW ct h ha hz (SW ct sb sz (WV ct wv ((ixp y (nI cz) 6).length, wf) R)))))))))) := hD
                  refine zTop (y := nI (miN y f9)) ((a_rd (y := y) (r := f9) (by omega) hrn).2.1.trans mj1) ?_
                  refine zN_icmp_ge (tgt := 620) hx hb (by omega) (by omega) dL_law_613 (by decide) (fun c613_10 => ?_) (fun c613_10 => ?_)
                  · skip
                    refine lv_iinc (v := nI ((r + 1))) (lv' := [(25, .int (nI ((r + 1)))), (26, .int ((nI (raN y r) - nI (raN y f9)))), (18, .int ((tk ||| (nI (1) <<< (nI (r) &&& 31))))), (0, .ref (xB g)), (1, .ref (x 0)), (2, .int (nI (t))), (3, .int (nI (y_n y))), (4, .int (nI (y_cn y))), (5, .int (nI (t_tk y (nI 0)))), (6, .int (nI (t_tc y))), (7, .int (we)), (8, .int ((t_sw y))), (9, .int (nI (cr))), (10, .int (nI (wo))), (11, .int (tr)), (12, .int (nI (cz))), (13, .int ((t_te y (nI cz) (nI 0)))), (14, .int ((t_te y (nI cz) (nI 1)))), (15, .int (nI ((ixp y (nI cz) 6).length))), (16, .int ((t_wo y (nI cz) (nI 0)))), (17, .int (((t_wo y (nI cz) (nI 0)) + (t_wo y (nI cz) (nI 1))))), (19, .int (nI (f9))), (20, .ref (wv 0)), (21, .ref (sb 0)), (23, .int (nI (f1))), (24, .int (nI (f2)))]) hx hb dL_law_620 hl (k := 25) rfl (zInc _) (by decide) rfl (fun ls hl => ?_)
                    refine lv_goto (tgt := 515) hx hb dL_law_623 (by decide) ?_
                    have n591 : ¬ raN y r < raN y f9 := fun q => c591_8 ((neg_sub (a := raN y r) (b := raN y f9) (by omega) (by omega)).mpr q)
                    have n596 : raN y r = raN y f9 := (sub_eq0 (a := raN y r) (b := raN y f9) (by omega) (by omega)).mp c596_9
                    exact ih515 ((r + 1)) ((tk ||| (nI (1) <<< (nI (r) &&& 31)))) ((some f9)) H locs ls (by omega) (by rw [tkW, if_pos hw9, htk]) (by rw [if_neg (by rw [e557]; exact nI_ne4 (by omega)), chL, if_pos hw9, ← hch]; show some f9 = (if raN y r < raN y f9 ∨ (raN y r = raN y f9 ∧ miN y r < miN y f9) then some r else some f9); rw [if_neg (by omega)]) (by omega) hP hD hS (lv_sub hl [3, 4, 5, 6, 7, 8, 9, 10, 11, 12, 13, 14, 15, 16, 17, 18, 19, 20, 2, 21, 22, 23, 24, 25, 0] rfl)
                  · skip
                    refine lv_iload hx hb dL_law_616 (lv_at hl 25 rfl) ?_
                    refine lv_istore (lv' := [(19, .int (nI (r))), (26, .int ((nI (raN y r) - nI (raN y f9)))), (18, .int ((tk ||| (nI (1) <<< (nI (r) &&& 31))))), (0, .ref (xB g)), (1, .ref (x 0)), (2, .int (nI (t))), (3, .int (nI (y_n y))), (4, .int (nI (y_cn y))), (5, .int (nI (t_tk y (nI 0)))), (6, .int (nI (t_tc y))), (7, .int (we)), (8, .int ((t_sw y))), (9, .int (nI (cr))), (10, .int (nI (wo))), (11, .int (tr)), (12, .int (nI (cz))), (13, .int ((t_te y (nI cz) (nI 0)))), (14, .int ((t_te y (nI cz) (nI 1)))), (15, .int (nI ((ixp y (nI cz) 6).length))), (16, .int ((t_wo y (nI cz) (nI 0)))), (17, .int (((t_wo y (nI cz) (nI 0)) + (t_wo y (nI cz) (nI 1))))), (20, .ref (wv 0)), (21, .ref (sb 0)), (23, .int (nI (f1))), (24, .int (nI (f2))), (25, .int (nI (r)))]) hx hb dL_law_618 hl (by decide) rfl (fun ls hl => ?_)
                    refine lv_iinc (v := nI ((r + 1))) (lv' := [(25, .int (nI ((r + 1)))), (19, .int (nI (r))), (26, .int ((nI (raN y r) - nI (raN y f9)))), (18, .int ((tk ||| (nI (1) <<< (nI (r) &&& 31))))), (0, .ref (xB g)), (1, .ref (x 0)), (2, .int (nI (t))), (3, .int (nI (y_n y))), (4, .int (nI (y_cn y))), (5, .int (nI (t_tk y (nI 0)))), (6, .int (nI (t_tc y))), (7, .int (we)), (8, .int ((t_sw y))), (9, .int (nI (cr))), (10, .int (nI (wo))), (11, .int (tr)), (12, .int (nI (cz))), (13, .int ((t_te y (nI cz) (nI 0)))), (14, .int ((t_te y (nI cz) (nI 1)))), (15, .int (nI ((ixp y (nI cz) 6).length))), (16, .int ((t_wo y (nI cz) (nI 0)))), (17, .int (((t_wo y (nI cz) (nI 0)) + (t_wo y (nI cz) (nI 1))))), (20, .ref (wv 0)), (21, .ref (sb 0)), (23, .int (nI (f1))), (24, .int (nI (f2)))]) hx hb dL_law_620 hl (k := 25) rfl (zInc _) (by decide) rfl (fun ls hl => ?_)
                    refine lv_goto (tgt := 515) hx hb dL_law_623 (by decide) ?_
                    have n591 : ¬ raN y r < raN y f9 := fun q => c591_8 ((neg_sub (a := raN y r) (b := raN y f9) (by omega) (by omega)).mpr q)
                    have n596 : raN y r = raN y f9 := (sub_eq0 (a := raN y r) (b := raN y f9) (by omega) (by omega)).mp c596_9
                    exact ih515 ((r + 1)) ((tk ||| (nI (1) <<< (nI (r) &&& 31)))) ((some r)) H locs ls (by omega) (by rw [tkW, if_pos hw9, htk]) (by rw [if_neg (by rw [e557]; exact nI_ne4 (by omega)), chL, if_pos hw9, ← hch]; show some r = (if raN y r < raN y f9 ∨ (raN y r = raN y f9 ∧ miN y r < miN y f9) then some r else some f9); rw [if_pos (by omega)]) (by omega) hP hD hS (lv_sub hl [4, 5, 6, 7, 8, 9, 10, 11, 12, 13, 14, 15, 16, 17, 18, 19, 20, 21, 3, 1, 22, 23, 24, 25, 0] rfl)
        · skip
          have hw9 : ¬ p_wi y (nI cz) r := fun q => c534_2 (Int32.not_lt.mp q)
          refine lv_goto (tgt := 620) hx hb dL_law_537 (by decide) ?_
          refine lv_iinc (v := nI ((r + 1))) (lv' := [(25, .int (nI ((r + 1)))), (0, .ref (xB g)), (1, .ref (x 0)), (2, .int (nI (t))), (3, .int (nI (y_n y))), (4, .int (nI (y_cn y))), (5, .int (nI (t_tk y (nI 0)))), (6, .int (nI (t_tc y))), (7, .int (we)), (8, .int ((t_sw y))), (9, .int (nI (cr))), (10, .int (nI (wo))), (11, .int (tr)), (12, .int (nI (cz))), (13, .int ((t_te y (nI cz) (nI 0)))), (14, .int ((t_te y (nI cz) (nI 1)))), (15, .int (nI ((ixp y (nI cz) 6).length))), (16, .int ((t_wo y (nI cz) (nI 0)))), (17, .int (((t_wo y (nI cz) (nI 0)) + (t_wo y (nI cz) (nI 1))))), (18, .int (tk)), (19, .int ((foI oo))), (20, .ref (wv 0)), (21, .ref (sb 0)), (23, .int (nI (f1))), (24, .int (nI (f2)))]) hx hb dL_law_620 hl (k := 24) rfl (zInc _) (by decide) rfl (fun ls hl => ?_)
          refine lv_goto (tgt := 515) hx hb dL_law_623 (by decide) ?_
          exact ih515 ((r + 1)) (tk) (oo) H locs ls (by omega) (by rw [tkW, if_neg hw9, htk]) (by rw [chL, if_neg hw9]; exact hch) (by omega) hP hD hS (lv_sub hl [1, 2, 3, 4, 5, 6, 7, 8, 9, 10, 11, 12, 13, 14, 15, 16, 17, 18, 19, 20, 21, 22, 23, 24, 0] rfl)
  exact lp515 ((y_rn y - (0)) + 1) (0) (nI 0) (none) H locs ls (by omega) rfl (by split <;> rfl) (Nat.lt_succ_self _) hP hD hS (lv_sub hl [1, 0, 2, 3, 4, 5, 6, 7, 8, 9, 10, 11, 12, 13, 14, 15, 16, 17, 18, 19, 20, 21, 22, 23, 24] rfl)
