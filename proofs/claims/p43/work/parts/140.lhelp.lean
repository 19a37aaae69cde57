/-! THE LAW'S OWN HELPERS -/
abbrev rmL_cell : Room := { frames := 0, cells := 0, slots := 0, locals := 0 }
set_option maxHeartbeats 4000000 in
set_option maxRecDepth 100000 in
theorem kL_cell {D : va_G} {g : XG} {ct : Nat → ClassId} {l : Launch}  (R : va_W) (k : Nat) (hs9 : xL g ≤ 260) (hk9 : k ≤ 200) : MX D ct g l yL_cell wsL_cell rmL_cell (R) [.ref (xB g), .int (nI (k))] (QI D ct (fun r0 (_ : Unit) => r0 = cl g k) (fun _ : Unit => R)) := by
  refine MXof (cc := cL_cell) (maxL := 2) (ret := (some .int)) (by decide) rfl (Nat.le_of_ble_eq_true rfl) ?_
  intro p e s m args below meth c A H locs F hP hK hD hS hA hX ls hl
  obtain ⟨hx, hb, hr, hlocks, hml, hown, hts, hin⟩ := F
  have hl : lv_has ls 2 [(0, .ref (xB g)), (1, .int (nI (k)))] := hl
  refine lv_iload_n hx hb dL_cell_0 rfl (lv_at hl 1 rfl) ?_
  refine lv_aload_n hx hb dL_cell_1 rfl (lv_at hl 0 rfl) ?_
  refine va_tlen (v := nI (xL g)) hx hb hX.g14 hS rfl dL_cell_2 ?_
  refine zN_icmp_ge (tgt := 12) hx hb (by omega) (by omega) dL_cell_3 (by decide) (fun c3_1 => ?_) (fun c3_1 => ?_)
  · skip
    refine lv_sipush (v := nI (7919)) hx hb dL_cell_12 (by decide) ?_
    refine lv_iload_n hx hb dL_cell_15 rfl (lv_at hl 1 rfl) ?_
    refine zNmul hx hb dL_cell_16 ?_
    refine lv_bipush (v := nI (12)) hx hb dL_cell_17 (by decide) ?_
    refine zNadd hx hb dL_cell_19 ?_
    exact zIret () hx hb hr hlocks hK hP hD hS dL_cell_20 (show nI (((7919 * k) + 12)) = cl g k from (by simp only [cl, c3_1, p_in, p_worn, p_wi, p_creak, p_le0, p_lt1, p_rng, not_true_eq_false, not_false_eq_true, if_true, if_false, and_true, true_and, and_false, false_and, or_true, true_or, or_false, false_or, and_self, or_self, iff_true, true_iff, iff_false, false_iff, decide_eq_true_eq, decide_true, decide_false, Int32.add_zero, Nat.add_zero, ne_eq, Bool.false_eq_true, eq_self]))
  · skip
    refine lv_aload_n hx hb dL_cell_6 rfl (lv_at hl 0 rfl) ?_
    refine lv_iload_n hx hb dL_cell_7 rfl (lv_at hl 1 rfl) ?_
    refine va_ti (v := .int (xX g k)) hx hb hX.g14 hS (vp_in_nI (n := k) (N := xL g) (by omega) (by omega)) (by show Value.int (xX g (nI k).toNatClampNeg) = _; rw [nI_clamp (by omega)]) dL_cell_8 ?_
    refine lv_goto (tgt := 20) hx hb dL_cell_9 (by decide) ?_
    exact zIret () hx hb hr hlocks hK hP hD hS dL_cell_20 (show (xX g k) = cl g k from (by simp only [cl, c3_1, p_in, p_worn, p_wi, p_creak, p_le0, p_lt1, p_rng, not_true_eq_false, not_false_eq_true, if_true, if_false, and_true, true_and, and_false, false_and, or_true, true_or, or_false, false_or, and_self, or_self, iff_true, true_iff, iff_false, false_iff, decide_eq_true_eq, decide_true, decide_false, Int32.add_zero, Nat.add_zero, ne_eq, Bool.false_eq_true, eq_self]))
abbrev rmL_some : Room := { frames := 1, cells := 0, slots := 0, locals := 21 }
set_option maxHeartbeats 4000000 in
set_option maxRecDepth 100000 in
theorem kL_some {D : va_G} {g : XG} {ct : Nat → ClassId} {l : Launch}  (R : va_W) (k : Nat) (n : Nat) (hs9 : xL g ≤ 260) (hk9 : k ≤ 200) (hn1 : 1 ≤ n) (hn2 : n ≤ 100) : MX D ct g l yL_some wsL_some rmL_some (R) [.ref (xB g), .int (nI (k)), .int (nI (n))] (QI D ct (fun r0 (_ : Unit) => r0 = nI (sm g k n)) (fun _ : Unit => R)) := by
  refine MXof (cc := cL_some) (maxL := 3) (ret := (some .int)) (by decide) rfl (Nat.le_of_ble_eq_true rfl) ?_
  intro p e s m args below meth c A H locs F hP hK hD hS hA hX ls hl
  obtain ⟨hx, hb, hr, hlocks, hml, hown, hts, hin⟩ := F
  have hl : lv_has ls 3 [(0, .ref (xB g)), (1, .int (nI (k))), (2, .int (nI (n)))] := hl
  have hu := ush_lt (cl g k)
  refine lv_aload_n hx hb dL_some_0 rfl (lv_at hl 0 rfl) ?_
  refine lv_iload_n hx hb dL_some_1 rfl (lv_at hl 1 rfl) ?_
  refine zSIX [.ref (xB g), .int (nI (k))] [] (kL_cell (R) (k) (show xL g ≤ 260 from hs9) (show (k) ≤ 200 from hk9)) hx hb hml hown hts (va_cwS 2 hts gL_some_L_cell rfl rfl rfl (by decide +kernel) ⟨(Nat.le_of_ble_eq_true rfl), (Nat.le_of_ble_eq_true rfl)⟩) hK hP hD hS hA hX rfl hl.1 rfl (Nat.le_of_ble_eq_true rfl) dL_some_2 ⟨(Nat.le_of_ble_eq_true rfl), (Nat.le_of_ble_eq_true rfl)⟩ (fun r_2 _ H locs hr_2 hP hD hS => ?_)
  subst hr_2
  have hP : va_P D vwCl (R) H := hP
  have hD : va_D A (R) := hD
  refine lv_iconst (v := nI (3)) hx hb dL_some_5 (by decide) ?_
  refine lv_iushr (v := nI (ush (cl g (k)))) hx hb dL_some_6 (ush_n _) ?_
  refine lv_iload_n hx hb dL_some_7 rfl (lv_at hl 2 rfl) ?_
  refine lv_irem hx hb dL_some_8 (fun q => absurd ((nI_eq (a := n) (b := 0) (by omega) (by decide)).mp (q.trans (by decide))) (by omega)) ?_
  refine zTop (y := nI ((ush (cl g (k))) % n)) (remN (by omega) (by omega) (by omega)) ?_
  exact zIret () hx hb hr hlocks hK hP hD hS dL_some_9 (show nI (((ush (cl g (k))) % n)) = nI (sm g k n) from rfl)
abbrev rmL_top : Room := { frames := 2, cells := 0, slots := 0, locals := 45 }
set_option maxHeartbeats 4000000 in
set_option maxRecDepth 100000 in
theorem kL_top {D : va_G} {g : XG} {ct : Nat → ClassId} {l : Launch} (a : Nat → Nat) (y : YS) (b : Nat → Nat) (rs : RS) (d : Nat → Nat) (bz : BS) (i : Nat → Nat) (iv : IS) (lb : Nat → Nat) (lz : LST) (sa : Nat → Nat) (sy : YS) (x : Nat → Nat) (xv : Int32 × Int32) (h : Nat → Nat) (ha : Nat → Nat → Nat) (hz : HS) (R : va_W) (cz : Nat) (hy : yI y) (hf : yF y) (hcz : cz < y_cn y) : MX D ct g l yL_top wsL_top rmL_top (YW ct a y (KR a b rs (BW ct a d bz (IW ct i (xE g) iv (LW ct lb lz (YW ct sa sy (XO x a sa h b d i lb xv (HW ct h ha hz R)))))))) [.ref (x 0), .int (nI (cz))] (QI D ct (fun r0 (_ : Unit) => r0 = t_tp y (nI cz)) (fun _ : Unit => YW ct a y (KR a b rs (BW ct a d bz (IW ct i (xE g) iv (LW ct lb lz (YW ct sa sy (XO x a sa h b d i lb xv (HW ct h ha hz R))))))))) := by
  refine MXof (cc := cL_top) (maxL := 2) (ret := (some .int)) (by decide) rfl (Nat.le_of_ble_eq_true rfl) ?_
  intro p e s m args below meth c A H locs F hP hK hD hS hA hX ls hl
  obtain ⟨hx, hb, hr, hlocks, hml, hown, hts, hin⟩ := F
  have hl : lv_has ls 2 [(0, .ref (x 0)), (1, .int (nI (cz)))] := hl
  have hkd : ∀ j9, j9 < y_n y → y_kd y j9 = nI 0 ∨ y_kd y j9 = nI 1 := fun j9 hj9 => (hy.2.2.2.1 j9 hj9).1
  have hn : y_n y ≤ 12 := hy.1
  have hcn : y_cn y ≤ 4 := hy.2.1
  have hrn : y_rn y ≤ 5 := hy.2.2.1
  refine lv_aload_n hx hb dL_top_0 rfl (lv_at hl 0 rfl) ?_
  refine lv_iload_n hx hb dL_top_1 rfl (lv_at hl 1 rfl) ?_
  refine lv_bipush (v := nI (6)) hx hb dL_top_2 (by decide) ?_
  refine zVIX [.int (nI (cz)), .int (nI (6))] [] (kX10_at (a) (y) (b) (rs) (d) (bz) (i) (iv) (lb) (lz) (sa) (sy) (x) (xv) (h) (ha) (hz) (R) (nI (cz)) (nI (6)) (show yI y from hy) (show yF y from hf)) hx hb hml hown hts (cwV 2 hts gL_top_X10_at rfl rfl rfl (by decide +kernel) ⟨(Nat.le_of_ble_eq_true rfl), (Nat.le_of_ble_eq_true rfl)⟩) hK hP hD hS hA hX (va_recv hK hP (ci := 9) (q0 := 38) rfl rfl) rfl hl.1 rfl (Nat.le_of_ble_eq_true rfl) dL_top_4 ⟨(Nat.le_of_ble_eq_true rfl), (Nat.le_of_ble_eq_true rfl)⟩ (fun r_4 _ H locs hr_4 hP hD hS => ?_)
  subst hr_4
  have hP : va_P D vwCl (YW ct a y (KR a b rs (BW ct a d bz (IW ct i (xE g) iv (LW ct lb lz (YW ct sa sy (XO x a sa h b d i lb xv (HW ct h ha hz R)))))))) H := hP
  have hD : va_D A (YW ct a y (KR a b rs (BW ct a d bz (IW ct i (xE g) iv (LW ct lb lz (YW ct sa sy (XO x a sa h b d i lb xv (HW ct h ha hz R)))))))) := hD
  rcases at_ex y (nI (cz)) (nI (6)) with e7 | ⟨k7, hk7, e7⟩
  · skip
    refine zTop (y := (-4)) ((a_at_in (by omega) hcn (by omega)).trans e7) ?_
    refine lv_if_ge (tgt := 14) hx hb dL_top_7 (by decide) (fun c9 => absurd c9 (by decide)) (fun c9 => ?_)
    refine lv_iconst (v := nI (0)) hx hb dL_top_10 (by decide) ?_
    refine lv_goto (tgt := 26) hx hb dL_top_11 (by decide) ?_
    exact zIret () hx hb hr hlocks hK hP hD hS dL_top_26 (show nI (0) = t_tp y (nI cz) from (by rw [t_tp, if_pos e7]))
  · skip
    refine zTop (y := nI (k7)) ((a_at_in (by omega) hcn (by omega)).trans e7) ?_
    refine zN_if_ge (tgt := 14) hx hb (by omega) dL_top_7 (by decide) ?_
    refine lv_aload_n hx hb dL_top_14 rfl (lv_at hl 0 rfl) ?_
    refine lv_aload_n hx hb dL_top_15 rfl (lv_at hl 0 rfl) ?_
    refine lv_iload_n hx hb dL_top_16 rfl (lv_at hl 1 rfl) ?_
    refine lv_bipush (v := nI (6)) hx hb dL_top_17 (by decide) ?_
    refine zVIX [.int (nI (cz)), .int (nI (6))] [.ref (x 0)] (kX10_at (a) (y) (b) (rs) (d) (bz) (i) (iv) (lb) (lz) (sa) (sy) (x) (xv) (h) (ha) (hz) (R) (nI (cz)) (nI (6)) (show yI y from hy) (show yF y from hf)) hx hb hml hown hts (cwV 2 hts gL_top_X10_at rfl rfl rfl (by decide +kernel) ⟨(Nat.le_of_ble_eq_true rfl), (Nat.le_of_ble_eq_true rfl)⟩) hK hP hD hS hA hX (va_recv hK hP (ci := 9) (q0 := 38) rfl rfl) rfl hl.1 rfl (Nat.le_of_ble_eq_true rfl) dL_top_19 ⟨(Nat.le_of_ble_eq_true rfl), (Nat.le_of_ble_eq_true rfl)⟩ (fun r_19 _ H locs hr_19 hP hD hS => ?_)
    subst hr_19
    have hP : va_P D vwCl (YW ct a y (KR a b rs (BW ct a d bz (IW ct i (xE g) iv (LW ct lb lz (YW ct sa sy (XO x a sa h b d i lb xv (HW ct h ha hz R)))))))) H := hP
    have hD : va_D A (YW ct a y (KR a b rs (BW ct a d bz (IW ct i (xE g) iv (LW ct lb lz (YW ct sa sy (XO x a sa h b d i lb xv (HW ct h ha hz R)))))))) := hD
    refine zTop (y := nI (k7)) ((a_at_in (by omega) hcn (by omega)).trans e7) ?_
    refine lv_iconst (v := nI (1)) hx hb dL_top_22 (by decide) ?_
    refine zVIX [.int (nI (k7)), .int (nI (1))] [] (kX10_thingOf (a) (y) (b) (rs) (d) (bz) (i) (iv) (lb) (lz) (sa) (sy) (x) (xv) (h) (ha) (hz) (R) (nI (k7)) (nI (1)) (show yI y from hy) (show yF y from hf)) hx hb hml hown hts (cwV 2 hts gL_top_X10_thingOf rfl rfl rfl (by decide +kernel) ⟨(Nat.le_of_ble_eq_true rfl), (Nat.le_of_ble_eq_true rfl)⟩) hK hP hD hS hA hX (va_recv hK hP (ci := 9) (q0 := 38) rfl rfl) rfl hl.1 rfl (Nat.le_of_ble_eq_true rfl) dL_top_23 ⟨(Nat.le_of_ble_eq_true rfl), (Nat.le_of_ble_eq_true rfl)⟩ (fun r_23 _ H locs hr_23 hP hD hS => ?_)
    subst hr_23
    have hP : va_P D vwCl (YW ct a y (KR a b rs (BW ct a d bz (IW ct i (xE g) iv (LW ct lb lz (YW ct sa sy (XO x a sa h b d i lb xv (HW ct h ha hz R)))))))) H := hP
    have hD : va_D A (YW ct a y (KR a b rs (BW ct a d bz (IW ct i (xE g) iv (LW ct lb lz (YW ct sa sy (XO x a sa h b d i lb xv (HW ct h ha hz R)))))))) := hD
    refine zTop (y := (y_w y k7)) (a_th (by omega) hn).2.1 ?_
    exact zIret () hx hb hr hlocks hK hP hD hS dL_top_26 (show (y_w y k7) = t_tp y (nI cz) from (by rw [t_tp, if_neg (by rw [e7]; exact nI_ne4 (by omega)), e7]; show _ = y_w y (nI k7).toNatClampNeg; rw [nI_clamp (by omega)]))
abbrev rmL_premises_c : Room := { frames := 2, cells := 0, slots := 0, locals := 45 }
set_option maxHeartbeats 4000000 in
set_option maxRecDepth 100000 in
theorem kL_premises_c {D : va_G} {g : XG} {ct : Nat → ClassId} {l : Launch} (a : Nat → Nat) (y : YS) (b : Nat → Nat) (rs : RS) (d : Nat → Nat) (bz : BS) (i : Nat → Nat) (iv : IS) (lb : Nat → Nat) (lz : LST) (sa : Nat → Nat) (sy : YS) (x : Nat → Nat) (xv : Int32 × Int32) (h : Nat → Nat) (ha : Nat → Nat → Nat) (hz : HS) (R : va_W) (cz : Nat) (hy : yI y) (hf : yF y) (hcz : cz < y_cn y) : MX D ct g l yL_premises wsL_premises rmL_premises_c (YW ct a y (KR a b rs (BW ct a d bz (IW ct i (xE g) iv (LW ct lb lz (YW ct sa sy (XO x a sa h b d i lb xv (HW ct h ha hz R)))))))) [.ref (x 0), .int (nI (cz)), .int (nI (0))] (QI D ct (fun r0 (_ : Unit) => r0 = prC y (nI cz) 6) (fun _ : Unit => YW ct a y (KR a b rs (BW ct a d bz (IW ct i (xE g) iv (LW ct lb lz (YW ct sa sy (XO x a sa h b d i lb xv (HW ct h ha hz R))))))))) := by
  refine MXof (cc := cL_premises) (maxL := 5) (ret := (some .int)) (by decide) rfl (Nat.le_of_ble_eq_true rfl) ?_
  intro p e s m args below meth c A H locs F hP hK hD hS hA hX ls hl
  obtain ⟨hx, hb, hr, hlocks, hml, hown, hts, hin⟩ := F
  have hl : lv_has ls 5 [(0, .ref (x 0)), (1, .int (nI (cz))), (2, .int (nI (0)))] := hl
  have hkd : ∀ j9, j9 < y_n y → y_kd y j9 = nI 0 ∨ y_kd y j9 = nI 1 := fun j9 hj9 => (hy.2.2.2.1 j9 hj9).1
  have hn : y_n y ≤ 12 := hy.1
  have hcn : y_cn y ≤ 4 := hy.2.1
  have hrn : y_rn y ≤ 5 := hy.2.2.1
  refine lv_iconst (v := nI (0)) hx hb dL_premises_0 (by decide) ?_
  refine lv_istore_n (lv' := [(3, .int (nI (0))), (0, .ref (x 0)), (1, .int (nI (cz))), (2, .int (nI (0)))]) hx hb dL_premises_1 rfl hl (by decide) rfl (fun ls hl => ?_)
  refine lv_iconst (v := nI (0)) hx hb dL_premises_2 (by decide) ?_
  refine lv_istore (lv' := [(4, .int (nI (0))), (3, .int (nI (0))), (0, .ref (x 0)), (1, .int (nI (cz))), (2, .int (nI (0)))]) hx hb dL_premises_3 hl (by decide) rfl (fun ls hl => ?_)
  have lp5 : ∀ (fu : Nat) (pz : Nat) (acc : Int32) (H : Heap) (locs : List Loc) (ls : Array Slot), (pz ≤ 6) → (acc = prC y (nI cz) pz) → 6 - pz < fu → va_P D vwCl (YW ct a y (KR a b rs (BW ct a d bz (IW ct i (xE g) iv (LW ct lb lz (YW ct sa sy (XO x a sa h b d i lb xv (HW ct h ha hz R)))))))) H → va_D A (YW ct a y (KR a b rs (BW ct a d bz (IW ct i (xE g) iv (LW ct lb lz (YW ct sa sy (XO x a sa h b d i lb xv (HW ct h ha hz R)))))))) → va_S A s.heap H locs → lv_has ls 5 [(0, .ref (x 0)), (1, .int (nI (cz))), (2, .int (nI (0))), (3, .int (acc)), (4, .int (nI (pz)))] → W p l e rmL_premises_c s m args below meth c H locs 0 0 (MQ below (va_Qi (fun r0 (_ : Unit) => r0 = prC y (nI cz) 6) (zB D ct A (fun _ : Unit => YW ct a y (KR a b rs (BW ct a d bz (IW ct i (xE g) iv (LW ct lb lz (YW ct sa sy (XO x a sa h b d i lb xv (HW ct h ha hz R))))))))) A) args s rmL_premises_c.cells rmL_premises_c.slots A) (F0 m 5 ls []) := by
    intro fu
    induction fu with
    | zero => intro pz acc H locs ls hp hacc hfu; exact absurd hfu (Nat.not_lt_zero _)
    | succ fu ih5 =>
      intro pz acc H locs ls hp hacc hfu hP hD hS hl
      refine lv_iload hx hb dL_premises_5 (lv_at hl 4 rfl) ?_
      refine lv_bipush (v := nI (6)) hx hb dL_premises_7 (by decide) ?_
      refine zN_icmp_ge (tgt := 55) hx hb (by omega) (by omega) dL_premises_9 (by decide) (fun c9_1 => ?_) (fun c9_1 => ?_)
      · skip
        refine lv_iload_n hx hb dL_premises_55 rfl (lv_at hl 3 rfl) ?_
        exact zIret () hx hb hr hlocks hK hP hD hS dL_premises_56 (show acc = prC y (nI cz) 6 from (by rw [hacc, show pz = 6 by omega]))
      · skip
        refine lv_iload_n hx hb dL_premises_12 rfl (lv_at hl 3 rfl) ?_
        refine lv_aload_n hx hb dL_premises_13 rfl (lv_at hl 0 rfl) ?_
        refine lv_iload_n hx hb dL_premises_14 rfl (lv_at hl 1 rfl) ?_
        refine lv_iload hx hb dL_premises_15 (lv_at hl 4 rfl) ?_
        refine zVIX [.int (nI (cz)), .int (nI (pz))] [.int (acc)] (kX10_at (a) (y) (b) (rs) (d) (bz) (i) (iv) (lb) (lz) (sa) (sy) (x) (xv) (h) (ha) (hz) (R) (nI (cz)) (nI (pz)) (show yI y from hy) (show yF y from hf)) hx hb hml hown hts (cwV 2 hts gL_premises_X10_at rfl rfl rfl (by decide +kernel) ⟨(Nat.le_of_ble_eq_true rfl), (Nat.le_of_ble_eq_true rfl)⟩) hK hP hD hS hA hX (va_recv hK hP (ci := 9) (q0 := 38) rfl rfl) rfl hl.1 rfl (Nat.le_of_ble_eq_true rfl) dL_premises_17 ⟨(Nat.le_of_ble_eq_true rfl), (Nat.le_of_ble_eq_true rfl)⟩ (fun r_17 _ H locs hr_17 hP hD hS => ?_)
        subst hr_17
        have hP : va_P D vwCl (YW ct a y (KR a b rs (BW ct a d bz (IW ct i (xE g) iv (LW ct lb lz (YW ct sa sy (XO x a sa h b d i lb xv (HW ct h ha hz R)))))))) H := hP
        have hD : va_D A (YW ct a y (KR a b rs (BW ct a d bz (IW ct i (xE g) iv (LW ct lb lz (YW ct sa sy (XO x a sa h b d i lb xv (HW ct h ha hz R)))))))) := hD
        rcases at_ex y (nI (cz)) (nI (pz)) with e20 | ⟨k20, hk20, e20⟩
        · skip
          refine zTop (y := (-4)) ((a_at_in (by omega) hcn (by omega)).trans e20) ?_
          refine lv_if_ge (tgt := 27) hx hb dL_premises_20 (by decide) (fun c9 => absurd c9 (by decide)) (fun c9 => ?_)
          refine lv_iconst (v := nI (0)) hx hb dL_premises_23 (by decide) ?_
          refine lv_goto (tgt := 47) hx hb dL_premises_24 (by decide) ?_
          refine lv_iadd hx hb dL_premises_47 ?_
          refine lv_istore_n (lv' := [(3, .int ((acc + nI (0)))), (0, .ref (x 0)), (1, .int (nI (cz))), (2, .int (nI (0))), (4, .int (nI (pz)))]) hx hb dL_premises_48 rfl hl (by decide) rfl (fun ls hl => ?_)
          refine lv_iinc (v := nI ((pz + 1))) (lv' := [(4, .int (nI ((pz + 1)))), (3, .int ((acc + nI (0)))), (0, .ref (x 0)), (1, .int (nI (cz))), (2, .int (nI (0)))]) hx hb dL_premises_49 hl (k := 4) rfl (zInc _) (by decide) rfl (fun ls hl => ?_)
          refine lv_goto (tgt := 5) hx hb dL_premises_52 (by decide) ?_
          exact ih5 ((pz + 1)) ((acc + nI (0))) H locs ls (by omega) (by rw [prC, ← hacc, if_pos e20]) (by omega) hP hD hS (lv_sub hl [2, 3, 4, 1, 0] rfl)
        · skip
          refine zTop (y := nI (k20)) ((a_at_in (by omega) hcn (by omega)).trans e20) ?_
          refine zN_if_ge (tgt := 27) hx hb (by omega) dL_premises_20 (by decide) ?_
          refine lv_iload_n hx hb dL_premises_27 rfl (lv_at hl 2 rfl) ?_
          refine lv_if_eq (tgt := 46) hx hb dL_premises_28 (by decide) (fun c9 => ?_) (fun c9 => absurd (by decide) c9)
          refine lv_iconst (v := nI (1)) hx hb dL_premises_46 (by decide) ?_
          refine lv_iadd hx hb dL_premises_47 ?_
          refine lv_istore_n (lv' := [(3, .int ((acc + nI (1)))), (0, .ref (x 0)), (1, .int (nI (cz))), (2, .int (nI (0))), (4, .int (nI (pz)))]) hx hb dL_premises_48 rfl hl (by decide) rfl (fun ls hl => ?_)
          refine lv_iinc (v := nI ((pz + 1))) (lv' := [(4, .int (nI ((pz + 1)))), (3, .int ((acc + nI (1)))), (0, .ref (x 0)), (1, .int (nI (cz))), (2, .int (nI (0)))]) hx hb dL_premises_49 hl (k := 4) rfl (zInc _) (by decide) rfl (fun ls hl => ?_)
          refine lv_goto (tgt := 5) hx hb dL_premises_52 (by decide) ?_
          exact ih5 ((pz + 1)) ((acc + nI (1))) H locs ls (by omega) (by rw [prC, ← hacc, if_neg (by rw [e20]; exact nI_ne4 (by omega))]) (by omega) hP hD hS (lv_sub hl [2, 3, 4, 1, 0] rfl)
  exact lp5 ((6 - (0)) + 1) (0) (nI 0) H locs ls (by omega) rfl (Nat.lt_succ_self _) hP hD hS (lv_sub hl [2, 3, 4, 1, 0] rfl)
abbrev rmL_premises_w : Room := { frames := 2, cells := 0, slots := 0, locals := 45 }
set_option maxHeartbeats 4000000 in
set_option maxRecDepth 100000 in
theorem kL_premises_w {D : va_G} {g : XG} {ct : Nat → ClassId} {l : Launch} (a : Nat → Nat) (y : YS) (b : Nat → Nat) (rs : RS) (d : Nat → Nat) (bz : BS) (i : Nat → Nat) (iv : IS) (lb : Nat → Nat) (lz : LST) (sa : Nat → Nat) (sy : YS) (x : Nat → Nat) (xv : Int32 × Int32) (h : Nat → Nat) (ha : Nat → Nat → Nat) (hz : HS) (R : va_W) (cz : Nat) (hy : yI y) (hf : yF y) (hcz : cz < y_cn y) : MX D ct g l yL_premises wsL_premises rmL_premises_w (YW ct a y (KR a b rs (BW ct a d bz (IW ct i (xE g) iv (LW ct lb lz (YW ct sa sy (XO x a sa h b d i lb xv (HW ct h ha hz R)))))))) [.ref (x 0), .int (nI (cz)), .int (nI (1))] (QI D ct (fun r0 (_ : Unit) => r0 = prW y (nI cz) 6) (fun _ : Unit => YW ct a y (KR a b rs (BW ct a d bz (IW ct i (xE g) iv (LW ct lb lz (YW ct sa sy (XO x a sa h b d i lb xv (HW ct h ha hz R))))))))) := by
  refine MXof (cc := cL_premises) (maxL := 5) (ret := (some .int)) (by decide) rfl (Nat.le_of_ble_eq_true rfl) ?_
  intro p e s m args below meth c A H locs F hP hK hD hS hA hX ls hl
  obtain ⟨hx, hb, hr, hlocks, hml, hown, hts, hin⟩ := F
  have hl : lv_has ls 5 [(0, .ref (x 0)), (1, .int (nI (cz))), (2, .int (nI (1)))] := hl
  have hkd : ∀ j9, j9 < y_n y → y_kd y j9 = nI 0 ∨ y_kd y j9 = nI 1 := fun j9 hj9 => (hy.2.2.2.1 j9 hj9).1
  have hn : y_n y ≤ 12 := hy.1
  have hcn : y_cn y ≤ 4 := hy.2.1
  have hrn : y_rn y ≤ 5 := hy.2.2.1
  refine lv_iconst (v := nI (0)) hx hb dL_premises_0 (by decide) ?_
  refine lv_istore_n (lv' := [(3, .int (nI (0))), (0, .ref (x 0)), (1, .int (nI (cz))), (2, .int (nI (1)))]) hx hb dL_premises_1 rfl hl (by decide) rfl (fun ls hl => ?_)
  refine lv_iconst (v := nI (0)) hx hb dL_premises_2 (by decide) ?_
  refine lv_istore (lv' := [(4, .int (nI (0))), (3, .int (nI (0))), (0, .ref (x 0)), (1, .int (nI (cz))), (2, .int (nI (1)))]) hx hb dL_premises_3 hl (by decide) rfl (fun ls hl => ?_)
  have lp5 : ∀ (fu : Nat) (pz : Nat) (acc : Int32) (H : Heap) (locs : List Loc) (ls : Array Slot), (pz ≤ 6) → (acc = prW y (nI cz) pz) → 6 - pz < fu → va_P D vwCl (YW ct a y (KR a b rs (BW ct a d bz (IW ct i (xE g) iv (LW ct lb lz (YW ct sa sy (XO x a sa h b d i lb xv (HW ct h ha hz R)))))))) H → va_D A (YW ct a y (KR a b rs (BW ct a d bz (IW ct i (xE g) iv (LW ct lb lz (YW ct sa sy (XO x a sa h b d i lb xv (HW ct h ha hz R)))))))) → va_S A s.heap H locs → lv_has ls 5 [(0, .ref (x 0)), (1, .int (nI (cz))), (2, .int (nI (1))), (3, .int (acc)), (4, .int (nI (pz)))] → W p l e rmL_premises_w s m args below meth c H locs 0 0 (MQ below (va_Qi (fun r0 (_ : Unit) => r0 = prW y (nI cz) 6) (zB D ct A (fun _ : Unit => YW ct a y (KR a b rs (BW ct a d bz (IW ct i (xE g) iv (LW ct lb lz (YW ct sa sy (XO x a sa h b d i lb xv (HW ct h ha hz R))))))))) A) args s rmL_premises_w.cells rmL_premises_w.slots A) (F0 m 5 ls []) := by
    intro fu
    induction fu with
    | zero => intro pz acc H locs ls hp hacc hfu; exact absurd hfu (Nat.not_lt_zero _)
    | succ fu ih5 =>
      intro pz acc H locs ls hp hacc hfu hP hD hS hl
      refine lv_iload hx hb dL_premises_5 (lv_at hl 4 rfl) ?_
      refine lv_bipush (v := nI (6)) hx hb dL_premises_7 (by decide) ?_
      refine zN_icmp_ge (tgt := 55) hx hb (by omega) (by omega) dL_premises_9 (by decide) (fun c9_1 => ?_) (fun c9_1 => ?_)
      · skip
        refine lv_iload_n hx hb dL_premises_55 rfl (lv_at hl 3 rfl) ?_
        exact zIret () hx hb hr hlocks hK hP hD hS dL_premises_56 (show acc = prW y (nI cz) 6 from (by rw [hacc, show pz = 6 by omega]))
      · skip
        refine lv_iload_n hx hb dL_premises_12 rfl (lv_at hl 3 rfl) ?_
        refine lv_aload_n hx hb dL_premises_13 rfl (lv_at hl 0 rfl) ?_
        refine lv_iload_n hx hb dL_premises_14 rfl (lv_at hl 1 rfl) ?_
        refine lv_iload hx hb dL_premises_15 (lv_at hl 4 rfl) ?_
        refine zVIX [.int (nI (cz)), .int (nI (pz))] [.int (acc)] (kX10_at (a) (y) (b) (rs) (d) (bz) (i) (iv) (lb) (lz) (sa) (sy) (x) (xv) (h) (ha) (hz) (R) (nI (cz)) (nI (pz)) (show yI y from hy) (show yF y from hf)) hx hb hml hown hts (cwV 2 hts gL_premises_X10_at rfl rfl rfl (by decide +kernel) ⟨(Nat.le_of_ble_eq_true rfl), (Nat.le_of_ble_eq_true rfl)⟩) hK hP hD hS hA hX (va_recv hK hP (ci := 9) (q0 := 38) rfl rfl) rfl hl.1 rfl (Nat.le_of_ble_eq_true rfl) dL_premises_17 ⟨(Nat.le_of_ble_eq_true rfl), (Nat.le_of_ble_eq_true rfl)⟩ (fun r_17 _ H locs hr_17 hP hD hS => ?_)
        subst hr_17
        have hP : va_P D vwCl (YW ct a y (KR a b rs (BW ct a d bz (IW ct i (xE g) iv (LW ct lb lz (YW ct sa sy (XO x a sa h b d i lb xv (HW ct h ha hz R)))))))) H := hP
        have hD : va_D A (YW ct a y (KR a b rs (BW ct a d bz (IW ct i (xE g) iv (LW ct lb lz (YW ct sa sy (XO x a sa h b d i lb xv (HW ct h ha hz R)))))))) := hD
        rcases at_ex y (nI (cz)) (nI (pz)) with e20 | ⟨k20, hk20, e20⟩
        · skip
          refine zTop (y := (-4)) ((a_at_in (by omega) hcn (by omega)).trans e20) ?_
          refine lv_if_ge (tgt := 27) hx hb dL_premises_20 (by decide) (fun c9 => absurd c9 (by decide)) (fun c9 => ?_)
          refine lv_iconst (v := nI (0)) hx hb dL_premises_23 (by decide) ?_
          refine lv_goto (tgt := 47) hx hb dL_premises_24 (by decide) ?_
          refine lv_iadd hx hb dL_premises_47 ?_
          refine lv_istore_n (lv' := [(3, .int ((acc + nI (0)))), (0, .ref (x 0)), (1, .int (nI (cz))), (2, .int (nI (1))), (4, .int (nI (pz)))]) hx hb dL_premises_48 rfl hl (by decide) rfl (fun ls hl => ?_)
          refine lv_iinc (v := nI ((pz + 1))) (lv' := [(4, .int (nI ((pz + 1)))), (3, .int ((acc + nI (0)))), (0, .ref (x 0)), (1, .int (nI (cz))), (2, .int (nI (1)))]) hx hb dL_premises_49 hl (k := 4) rfl (zInc _) (by decide) rfl (fun ls hl => ?_)
          refine lv_goto (tgt := 5) hx hb dL_premises_52 (by decide) ?_
          exact ih5 ((pz + 1)) ((acc + nI (0))) H locs ls (by omega) (by rw [prW, ← hacc, if_pos e20]) (by omega) hP hD hS (lv_sub hl [2, 3, 4, 1, 0] rfl)
        · skip
          refine zTop (y := nI (k20)) ((a_at_in (by omega) hcn (by omega)).trans e20) ?_
          refine zN_if_ge (tgt := 27) hx hb (by omega) dL_premises_20 (by decide) ?_
          refine lv_iload_n hx hb dL_premises_27 rfl (lv_at hl 2 rfl) ?_
          refine lv_if_eq (tgt := 46) hx hb dL_premises_28 (by decide) (fun c9 => absurd c9 (by decide)) (fun c9 => ?_)
          refine lv_aload_n hx hb dL_premises_31 rfl (lv_at hl 0 rfl) ?_
          refine lv_aload_n hx hb dL_premises_32 rfl (lv_at hl 0 rfl) ?_
          refine lv_iload_n hx hb dL_premises_33 rfl (lv_at hl 1 rfl) ?_
          refine lv_iload hx hb dL_premises_34 (lv_at hl 4 rfl) ?_
          refine zVIX [.int (nI (cz)), .int (nI (pz))] [.ref (x 0), .int (acc)] (kX10_at (a) (y) (b) (rs) (d) (bz) (i) (iv) (lb) (lz) (sa) (sy) (x) (xv) (h) (ha) (hz) (R) (nI (cz)) (nI (pz)) (show yI y from hy) (show yF y from hf)) hx hb hml hown hts (cwV 2 hts gL_premises_X10_at rfl rfl rfl (by decide +kernel) ⟨(Nat.le_of_ble_eq_true rfl), (Nat.le_of_ble_eq_true rfl)⟩) hK hP hD hS hA hX (va_recv hK hP (ci := 9) (q0 := 38) rfl rfl) rfl hl.1 rfl (Nat.le_of_ble_eq_true rfl) dL_premises_36 ⟨(Nat.le_of_ble_eq_true rfl), (Nat.le_of_ble_eq_true rfl)⟩ (fun r_36 _ H locs hr_36 hP hD hS => ?_)
          subst hr_36
          have hP : va_P D vwCl (YW ct a y (KR a b rs (BW ct a d bz (IW ct i (xE g) iv (LW ct lb lz (YW ct sa sy (XO x a sa h b d i lb xv (HW ct h ha hz R)))))))) H := hP
          have hD : va_D A (YW ct a y (KR a b rs (BW ct a d bz (IW ct i (xE g) iv (LW ct lb lz (YW ct sa sy (XO x a sa h b d i lb xv (HW ct h ha hz R)))))))) := hD
          refine zTop (y := nI (k20)) ((a_at_in (by omega) hcn (by omega)).trans e20) ?_
          refine lv_iconst (v := nI (1)) hx hb dL_premises_39 (by decide) ?_
          refine zVIX [.int (nI (k20)), .int (nI (1))] [.int (acc)] (kX10_thingOf (a) (y) (b) (rs) (d) (bz) (i) (iv) (lb) (lz) (sa) (sy) (x) (xv) (h) (ha) (hz) (R) (nI (k20)) (nI (1)) (show yI y from hy) (show yF y from hf)) hx hb hml hown hts (cwV 2 hts gL_premises_X10_thingOf rfl rfl rfl (by decide +kernel) ⟨(Nat.le_of_ble_eq_true rfl), (Nat.le_of_ble_eq_true rfl)⟩) hK hP hD hS hA hX (va_recv hK hP (ci := 9) (q0 := 38) rfl rfl) rfl hl.1 rfl (Nat.le_of_ble_eq_true rfl) dL_premises_40 ⟨(Nat.le_of_ble_eq_true rfl), (Nat.le_of_ble_eq_true rfl)⟩ (fun r_40 _ H locs hr_40 hP hD hS => ?_)
          subst hr_40
          have hP : va_P D vwCl (YW ct a y (KR a b rs (BW ct a d bz (IW ct i (xE g) iv (LW ct lb lz (YW ct sa sy (XO x a sa h b d i lb xv (HW ct h ha hz R)))))))) H := hP
          have hD : va_D A (YW ct a y (KR a b rs (BW ct a d bz (IW ct i (xE g) iv (LW ct lb lz (YW ct sa sy (XO x a sa h b d i lb xv (HW ct h ha hz R)))))))) := hD
          refine zTop (y := (y_w y k20)) (a_th (by omega) hn).2.1 ?_
          refine lv_goto (tgt := 47) hx hb dL_premises_43 (by decide) ?_
          refine lv_iadd hx hb dL_premises_47 ?_
          refine lv_istore_n (lv' := [(3, .int ((acc + (y_w y k20)))), (0, .ref (x 0)), (1, .int (nI (cz))), (2, .int (nI (1))), (4, .int (nI (pz)))]) hx hb dL_premises_48 rfl hl (by decide) rfl (fun ls hl => ?_)
          refine lv_iinc (v := nI ((pz + 1))) (lv' := [(4, .int (nI ((pz + 1)))), (3, .int ((acc + (y_w y k20)))), (0, .ref (x 0)), (1, .int (nI (cz))), (2, .int (nI (1)))]) hx hb dL_premises_49 hl (k := 4) rfl (zInc _) (by decide) rfl (fun ls hl => ?_)
          refine lv_goto (tgt := 5) hx hb dL_premises_52 (by decide) ?_
          exact ih5 ((pz + 1)) ((acc + (y_w y k20))) H locs ls (by omega) (by rw [prW, ← hacc, if_neg (by rw [e20]; exact nI_ne4 (by omega)), e20]; show _ = _ + y_w y (nI k20).toNatClampNeg; rw [nI_clamp (by omega)]) (by omega) hP hD hS (lv_sub hl [2, 3, 4, 1, 0] rfl)
  exact lp5 ((6 - (0)) + 1) (0) (nI 0) H locs ls (by omega) rfl (Nat.lt_succ_self _) hP hD hS (lv_sub hl [2, 3, 4, 1, 0] rfl)
abbrev rmL_tenths : Room := { frames := 6, cells := 0, slots := 0, locals := 129 }
set_option maxHeartbeats 4000000 in
set_option maxRecDepth 100000 in
theorem kL_tenths {D : va_G} {g : XG} {ct : Nat → ClassId} {l : Launch} (a : Nat → Nat) (y : YS) (b : Nat → Nat) (rs : RS) (d : Nat → Nat) (bz : BS) (i : Nat → Nat) (iv : IS) (lb : Nat → Nat) (lz : LST) (sa : Nat → Nat) (sy : YS) (x : Nat → Nat) (xv : Int32 × Int32) (h : Nat → Nat) (ha : Nat → Nat → Nat) (hz : HS) (R : va_W) (cz : Nat) (x2 : Int32) (hy : yI y) (hf : yF y) (hcz : cz < y_cn y) : MX D ct g l yL_tenths wsL_tenths rmL_tenths (YW ct a y (KR a b rs (BW ct a d bz (IW ct i (xE g) iv (LW ct lb lz (YW ct sa sy (XO x a sa h b d i lb xv (HW ct h ha hz R)))))))) [.ref (x 0), .int (nI (cz)), .int (x2)] (QI D ct (fun r0 (_ : Unit) => r0 = t_te y (nI cz) x2) (fun _ : Unit => YW ct a y (KR a b rs (BW ct a d bz (IW ct i (xE g) iv (LW ct lb lz (YW ct sa sy (XO x a sa h b d i lb xv (HW ct h ha hz R))))))))) := by
  refine MXof (cc := cL_tenths) (maxL := 6) (ret := (some .int)) (by decide) rfl (Nat.le_of_ble_eq_true rfl) ?_
  intro p e s m args below meth c A H locs F hP hK hD hS hA hX ls hl
  obtain ⟨hx, hb, hr, hlocks, hml, hown, hts, hin⟩ := F
  have hl : lv_has ls 6 [(0, .ref (x 0)), (1, .int (nI (cz))), (2, .int (x2))] := hl
  have hkd : ∀ j9, j9 < y_n y → y_kd y j9 = nI 0 ∨ y_kd y j9 = nI 1 := fun j9 hj9 => (hy.2.2.2.1 j9 hj9).1
  have hn : y_n y ≤ 12 := hy.1
  have hcn : y_cn y ≤ 4 := hy.2.1
  have hrn : y_rn y ≤ 5 := hy.2.2.1
  refine lv_iconst (v := nI (0)) hx hb dL_tenths_0 (by decide) ?_
  refine lv_istore_n (lv' := [(3, .int (nI (0))), (0, .ref (x 0)), (1, .int (nI (cz))), (2, .int (x2))]) hx hb dL_tenths_1 rfl hl (by decide) rfl (fun ls hl => ?_)
  refine lv_iconst (v := nI (0)) hx hb dL_tenths_2 (by decide) ?_
  refine lv_istore (lv' := [(4, .int (nI (0))), (3, .int (nI (0))), (0, .ref (x 0)), (1, .int (nI (cz))), (2, .int (x2))]) hx hb dL_tenths_3 hl (by decide) rfl (fun ls hl => ?_)
  have lp5 : ∀ (fu : Nat) (k : Nat) (acc : Int32) (H : Heap) (locs : List Loc) (ls : Array Slot), (k ≤ y_n y) → (acc = sI (fun k => if y_cu y k = nI cz then t_tt y k x2 else 0) k) → y_n y - k < fu → va_P D vwCl (YW ct a y (KR a b rs (BW ct a d bz (IW ct i (xE g) iv (LW ct lb lz (YW ct sa sy (XO x a sa h b d i lb xv (HW ct h ha hz R)))))))) H → va_D A (YW ct a y (KR a b rs (BW ct a d bz (IW ct i (xE g) iv (LW ct lb lz (YW ct sa sy (XO x a sa h b d i lb xv (HW ct h ha hz R)))))))) → va_S A s.heap H locs → lv_has ls 6 [(0, .ref (x 0)), (1, .int (nI (cz))), (2, .int (x2)), (3, .int (acc)), (4, .int (nI (k)))] → W p l e rmL_tenths s m args below meth c H locs 0 0 (MQ below (va_Qi (fun r0 (_ : Unit) => r0 = t_te y (nI cz) x2) (zB D ct A (fun _ : Unit => YW ct a y (KR a b rs (BW ct a d bz (IW ct i (xE g) iv (LW ct lb lz (YW ct sa sy (XO x a sa h b d i lb xv (HW ct h ha hz R))))))))) A) args s rmL_tenths.cells rmL_tenths.slots A) (F0 m 5 ls []) := by
    intro fu
    induction fu with
    | zero => intro k acc H locs ls hk hacc hfu; exact absurd hfu (Nat.not_lt_zero _)
    | succ fu ih5 =>
      intro k acc H locs ls hk hacc hfu hP hD hS hl
      refine lv_iload hx hb dL_tenths_5 (lv_at hl 4 rfl) ?_
      refine lv_aload_n hx hb dL_tenths_7 rfl (lv_at hl 0 rfl) ?_
      refine lv_iconst (v := nI (0)) hx hb dL_tenths_8 (by decide) ?_
      refine zVIX [.int (nI (0))] [.int (nI (k))] (kX10_account (a) (y) (b) (rs) (d) (bz) (i) (iv) (lb) (lz) (sa) (sy) (x) (xv) (h) (ha) (hz) (R) (nI (0)) (show yI y from hy) (show yF y from hf)) hx hb hml hown hts (cwV 1 hts gL_tenths_X10_account rfl rfl rfl (by decide +kernel) ⟨(Nat.le_of_ble_eq_true rfl), (Nat.le_of_ble_eq_true rfl)⟩) hK hP hD hS hA hX (va_recv hK hP (ci := 9) (q0 := 38) rfl rfl) rfl hl.1 rfl (Nat.le_of_ble_eq_true rfl) dL_tenths_9 ⟨(Nat.le_of_ble_eq_true rfl), (Nat.le_of_ble_eq_true rfl)⟩ (fun r_9 _ H locs hr_9 hP hD hS => ?_)
      subst hr_9
      have hP : va_P D vwCl (YW ct a y (KR a b rs (BW ct a d bz (IW ct i (xE g) iv (LW ct lb lz (YW ct sa sy (XO x a sa h b d i lb xv (HW ct h ha hz R)))))))) H := hP
      have hD : va_D A (YW ct a y (KR a b rs (BW ct a d bz (IW ct i (xE g) iv (LW ct lb lz (YW ct sa sy (XO x a sa h b d i lb xv (HW ct h ha hz R)))))))) := hD
      refine zTop (y := nI (y_n y)) rfl ?_
      refine zN_icmp_ge (tgt := 83) hx hb (by omega) (by omega) dL_tenths_12 (by decide) (fun c12_1 => ?_) (fun c12_1 => ?_)
      · skip
        refine lv_iload_n hx hb dL_tenths_83 rfl (lv_at hl 3 rfl) ?_
        exact zIret () hx hb hr hlocks hK hP hD hS dL_tenths_84 (show acc = t_te y (nI cz) x2 from (by rw [hacc, t_te, show k = y_n y by omega]))
      · skip
        refine lv_aload_n hx hb dL_tenths_15 rfl (lv_at hl 0 rfl) ?_
        refine lv_iload hx hb dL_tenths_16 (lv_at hl 4 rfl) ?_
        refine lv_iconst (v := nI (2)) hx hb dL_tenths_18 (by decide) ?_
        refine zVIX [.int (nI (k)), .int (nI (2))] [] (kX10_thingOf (a) (y) (b) (rs) (d) (bz) (i) (iv) (lb) (lz) (sa) (sy) (x) (xv) (h) (ha) (hz) (R) (nI (k)) (nI (2)) (show yI y from hy) (show yF y from hf)) hx hb hml hown hts (cwV 2 hts gL_tenths_X10_thingOf rfl rfl rfl (by decide +kernel) ⟨(Nat.le_of_ble_eq_true rfl), (Nat.le_of_ble_eq_true rfl)⟩) hK hP hD hS hA hX (va_recv hK hP (ci := 9) (q0 := 38) rfl rfl) rfl hl.1 rfl (Nat.le_of_ble_eq_true rfl) dL_tenths_19 ⟨(Nat.le_of_ble_eq_true rfl), (Nat.le_of_ble_eq_true rfl)⟩ (fun r_19 _ H locs hr_19 hP hD hS => ?_)
        subst hr_19
        have hP : va_P D vwCl (YW ct a y (KR a b rs (BW ct a d bz (IW ct i (xE g) iv (LW ct lb lz (YW ct sa sy (XO x a sa h b d i lb xv (HW ct h ha hz R)))))))) H := hP
        have hD : va_D A (YW ct a y (KR a b rs (BW ct a d bz (IW ct i (xE g) iv (LW ct lb lz (YW ct sa sy (XO x a sa h b d i lb xv (HW ct h ha hz R)))))))) := hD
        refine zTop (y := (y_cu y k)) (a_th (by omega) hn).2.2.1 ?_
        refine lv_iload_n hx hb dL_tenths_22 rfl (lv_at hl 1 rfl) ?_
        refine lv_icmp_eq (tgt := 29) hx hb dL_tenths_23 (by decide) (fun c23_2 => ?_) (fun c23_2 => ?_)
        · skip
          refine lv_aload_n hx hb dL_tenths_29 rfl (lv_at hl 0 rfl) ?_
          refine lv_iload hx hb dL_tenths_30 (lv_at hl 4 rfl) ?_
          refine lv_iconst (v := nI (3)) hx hb dL_tenths_32 (by decide) ?_
          refine zVIX [.int (nI (k)), .int (nI (3))] [] (kX10_thingOf (a) (y) (b) (rs) (d) (bz) (i) (iv) (lb) (lz) (sa) (sy) (x) (xv) (h) (ha) (hz) (R) (nI (k)) (nI (3)) (show yI y from hy) (show yF y from hf)) hx hb hml hown hts (cwV 2 hts gL_tenths_X10_thingOf rfl rfl rfl (by decide +kernel) ⟨(Nat.le_of_ble_eq_true rfl), (Nat.le_of_ble_eq_true rfl)⟩) hK hP hD hS hA hX (va_recv hK hP (ci := 9) (q0 := 38) rfl rfl) rfl hl.1 rfl (Nat.le_of_ble_eq_true rfl) dL_tenths_33 ⟨(Nat.le_of_ble_eq_true rfl), (Nat.le_of_ble_eq_true rfl)⟩ (fun r_33 _ H locs hr_33 hP hD hS => ?_)
          subst hr_33
          have hP : va_P D vwCl (YW ct a y (KR a b rs (BW ct a d bz (IW ct i (xE g) iv (LW ct lb lz (YW ct sa sy (XO x a sa h b d i lb xv (HW ct h ha hz R)))))))) H := hP
          have hD : va_D A (YW ct a y (KR a b rs (BW ct a d bz (IW ct i (xE g) iv (LW ct lb lz (YW ct sa sy (XO x a sa h b d i lb xv (HW ct h ha hz R)))))))) := hD
          refine zTop (y := (y_pl y k)) (a_th (by omega) hn).2.2.2 ?_
          refine lv_istore (lv' := [(5, .int ((y_pl y k))), (0, .ref (x 0)), (1, .int (nI (cz))), (2, .int (x2)), (3, .int (acc)), (4, .int (nI (k)))]) hx hb dL_tenths_36 hl (by decide) rfl (fun ls hl => ?_)
          refine lv_iload_n hx hb dL_tenths_38 rfl (lv_at hl 4 rfl) ?_
          refine lv_aload_n hx hb dL_tenths_39 rfl (lv_at hl 1 rfl) ?_
          refine lv_iload hx hb dL_tenths_40 (lv_at hl 5 rfl) ?_
          refine lv_iconst (v := nI (1)) hx hb dL_tenths_42 (by decide) ?_
          refine zVIX [.int (nI (k)), .int (nI (1))] [.int (acc)] (kX10_thingOf (a) (y) (b) (rs) (d) (bz) (i) (iv) (lb) (lz) (sa) (sy) (x) (xv) (h) (ha) (hz) (R) (nI (k)) (nI (1)) (show yI y from hy) (show yF y from hf)) hx hb hml hown hts (cwV 2 hts gL_tenths_X10_thingOf rfl rfl rfl (by decide +kernel) ⟨(Nat.le_of_ble_eq_true rfl), (Nat.le_of_ble_eq_true rfl)⟩) hK hP hD hS hA hX (va_recv hK hP (ci := 9) (q0 := 38) rfl rfl) rfl hl.1 rfl (Nat.le_of_ble_eq_true rfl) dL_tenths_43 ⟨(Nat.le_of_ble_eq_true rfl), (Nat.le_of_ble_eq_true rfl)⟩ (fun r_43 _ H locs hr_43 hP hD hS => ?_)
          subst hr_43
          have hP : va_P D vwCl (YW ct a y (KR a b rs (BW ct a d bz (IW ct i (xE g) iv (LW ct lb lz (YW ct sa sy (XO x a sa h b d i lb xv (HW ct h ha hz R)))))))) H := hP
          have hD : va_D A (YW ct a y (KR a b rs (BW ct a d bz (IW ct i (xE g) iv (LW ct lb lz (YW ct sa sy (XO x a sa h b d i lb xv (HW ct h ha hz R)))))))) := hD
          refine zTop (y := (y_w y k)) (a_th (by omega) hn).2.1 ?_
          refine lv_iload hx hb dL_tenths_46 (lv_at hl 0 rfl) ?_
          refine lv_bipush (v := nI (6)) hx hb dL_tenths_48 (by decide) ?_
          refine lv_icmp_ne (tgt := 57) hx hb dL_tenths_50 (by decide) (fun c50_3 => ?_) (fun c50_3 => ?_)
          · skip
            refine lv_iload_n hx hb dL_tenths_57 rfl (lv_at hl 3 rfl) ?_
            refine lv_if_eq (tgt := 68) hx hb dL_tenths_58 (by decide) (fun c58_4 => ?_) (fun c58_4 => ?_)
            · skip
              refine lv_iconst (v := nI (2)) hx hb dL_tenths_68 (by decide) ?_
              refine lv_iconst (v := nI (5)) hx hb dL_tenths_69 (by decide) ?_
              refine lv_iload hx hb dL_tenths_70 (lv_at hl 0 rfl) ?_
              refine lv_isub hx hb dL_tenths_72 ?_
              refine lv_imul hx hb dL_tenths_73 ?_
              refine lv_imul hx hb dL_tenths_74 ?_
              refine lv_iadd hx hb dL_tenths_75 ?_
              refine lv_istore_n (lv' := [(3, .int ((acc + ((y_w y k) * (nI (2) * (nI (5) - (y_pl y k))))))), (5, .int ((y_pl y k))), (0, .ref (x 0)), (1, .int (nI (cz))), (2, .int (x2)), (4, .int (nI (k)))]) hx hb dL_tenths_76 rfl hl (by decide) rfl (fun ls hl => ?_)
              refine lv_iinc (v := nI ((k + 1))) (lv' := [(4, .int (nI ((k + 1)))), (3, .int ((acc + ((y_w y k) * (nI (2) * (nI (5) - (y_pl y k))))))), (5, .int ((y_pl y k))), (0, .ref (x 0)), (1, .int (nI (cz))), (2, .int (x2))]) hx hb dL_tenths_77 hl (k := 5) rfl (zInc _) (by decide) rfl (fun ls hl => ?_)
              refine lv_goto (tgt := 5) hx hb dL_tenths_80 (by decide) ?_
              exact ih5 ((k + 1)) ((acc + ((y_w y k) * (nI (2) * (nI (5) - (y_pl y k)))))) H locs ls (by omega) (by have q9 := tt_law (z := x2) hy hcz (k := k) (by omega) c23_2; rw [sI, ← hacc, if_pos c23_2, ← q9]; simp only [c12_1, c50_3, eq_true c58_4, p_in, p_worn, p_wi, p_creak, p_le0, p_lt1, p_rng, not_true_eq_false, not_false_eq_true, if_true, if_false, and_true, true_and, and_false, false_and, or_true, true_or, or_false, false_or, and_self, or_self, iff_true, true_iff, iff_false, false_iff, decide_eq_true_eq, decide_true, decide_false, Int32.add_zero, Nat.add_zero, ne_eq, Bool.false_eq_true, eq_self]) (by omega) hP hD hS (lv_sub hl [3, 4, 5, 1, 0] rfl)
            · skip
              refine lv_iconst (v := nI (2)) hx hb dL_tenths_61 (by decide) ?_
              refine lv_iload hx hb dL_tenths_62 (lv_at hl 0 rfl) ?_
              refine lv_imul hx hb dL_tenths_64 ?_
              refine lv_goto (tgt := 74) hx hb dL_tenths_65 (by decide) ?_
              refine lv_imul hx hb dL_tenths_74 ?_
              refine lv_iadd hx hb dL_tenths_75 ?_
              refine lv_istore_n (lv' := [(3, .int ((acc + ((y_w y k) * (nI (2) * (y_pl y k)))))), (5, .int ((y_pl y k))), (0, .ref (x 0)), (1, .int (nI (cz))), (2, .int (x2)), (4, .int (nI (k)))]) hx hb dL_tenths_76 rfl hl (by decide) rfl (fun ls hl => ?_)
              refine lv_iinc (v := nI ((k + 1))) (lv' := [(4, .int (nI ((k + 1)))), (3, .int ((acc + ((y_w y k) * (nI (2) * (y_pl y k)))))), (5, .int ((y_pl y k))), (0, .ref (x 0)), (1, .int (nI (cz))), (2, .int (x2))]) hx hb dL_tenths_77 hl (k := 5) rfl (zInc _) (by decide) rfl (fun ls hl => ?_)
              refine lv_goto (tgt := 5) hx hb dL_tenths_80 (by decide) ?_
              exact ih5 ((k + 1)) ((acc + ((y_w y k) * (nI (2) * (y_pl y k))))) H locs ls (by omega) (by have q9 := tt_law (z := x2) hy hcz (k := k) (by omega) c23_2; rw [sI, ← hacc, if_pos c23_2, ← q9]; simp only [c12_1, c50_3, c58_4, p_in, p_worn, p_wi, p_creak, p_le0, p_lt1, p_rng, not_true_eq_false, not_false_eq_true, if_true, if_false, and_true, true_and, and_false, false_and, or_true, true_or, or_false, false_or, and_self, or_self, iff_true, true_iff, iff_false, false_iff, decide_eq_true_eq, decide_true, decide_false, Int32.add_zero, Nat.add_zero, ne_eq, Bool.false_eq_true, eq_self]) (by omega) hP hD hS (lv_sub hl [3, 4, 5, 1, 0] rfl)
          · skip
            refine lv_iconst (v := nI (5)) hx hb dL_tenths_53 (by decide) ?_
            refine lv_goto (tgt := 74) hx hb dL_tenths_54 (by decide) ?_
            refine lv_imul hx hb dL_tenths_74 ?_
            refine lv_iadd hx hb dL_tenths_75 ?_
            refine lv_istore_n (lv' := [(3, .int ((acc + ((y_w y k) * nI (5))))), (5, .int ((y_pl y k))), (0, .ref (x 0)), (1, .int (nI (cz))), (2, .int (x2)), (4, .int (nI (k)))]) hx hb dL_tenths_76 rfl hl (by decide) rfl (fun ls hl => ?_)
            refine lv_iinc (v := nI ((k + 1))) (lv' := [(4, .int (nI ((k + 1)))), (3, .int ((acc + ((y_w y k) * nI (5))))), (5, .int ((y_pl y k))), (0, .ref (x 0)), (1, .int (nI (cz))), (2, .int (x2))]) hx hb dL_tenths_77 hl (k := 5) rfl (zInc _) (by decide) rfl (fun ls hl => ?_)
            refine lv_goto (tgt := 5) hx hb dL_tenths_80 (by decide) ?_
            exact ih5 ((k + 1)) ((acc + ((y_w y k) * nI (5)))) H locs ls (by omega) (by have q9 := tt_law (z := x2) hy hcz (k := k) (by omega) c23_2; rw [sI, ← hacc, if_pos c23_2, ← q9]; simp only [c12_1, eq_true c50_3, p_in, p_worn, p_wi, p_creak, p_le0, p_lt1, p_rng, not_true_eq_false, not_false_eq_true, if_true, if_false, and_true, true_and, and_false, false_and, or_true, true_or, or_false, false_or, and_self, or_self, iff_true, true_iff, iff_false, false_iff, decide_eq_true_eq, decide_true, decide_false, Int32.add_zero, Nat.add_zero, ne_eq, Bool.false_eq_true, eq_self]) (by omega) hP hD hS (lv_sub hl [3, 4, 5, 1, 0] rfl)
        · skip
          refine lv_goto (tgt := 77) hx hb dL_tenths_26 (by decide) ?_
          refine lv_iinc (v := nI ((k + 1))) (lv' := [(4, .int (nI ((k + 1)))), (0, .ref (x 0)), (1, .int (nI (cz))), (2, .int (x2)), (3, .int (acc))]) hx hb dL_tenths_77 hl (k := 4) rfl (zInc _) (by decide) rfl (fun ls hl => ?_)
          refine lv_goto (tgt := 5) hx hb dL_tenths_80 (by decide) ?_
          exact ih5 ((k + 1)) (acc) H locs ls (by omega) (by rw [sI, ← hacc, if_neg c23_2, Int32.add_zero]) (by omega) hP hD hS (lv_sub hl [1, 2, 3, 4, 0] rfl)
  exact lp5 ((y_n y - (0)) + 1) (0) (nI 0) H locs ls (by omega) rfl (Nat.lt_succ_self _) hP hD hS (lv_sub hl [2, 3, 4, 1, 0] rfl)
abbrev rmL_least_0 : Room := { frames := 1, cells := 0, slots := 0, locals := 30 }
set_option maxHeartbeats 4000000 in
set_option maxRecDepth 100000 in
theorem kL_least_0 {D : va_G} {g : XG} {ct : Nat → ClassId} {l : Launch} (wv : Nat → Nat) (wz : WZ) (R : va_W) (pp : Nat) (x3 : Int32) (x4 : Int32) (hwm : w_n wz = pp + 0) (h6 : w_n wz ≤ 6) : MX D ct g l yL_least wsL_least rmL_least_0 (WV ct wv wz R) [.ref (wv 0), .int (nI (pp)), .int (x3), .int (x4)] (QI D ct (fun r0 (_ : Unit) => r0 = lsC (w_f wz) 0 pp x3 x4) (fun _ : Unit => WV ct wv wz R)) := by
  refine MXof (cc := cL_least) (maxL := 6) (ret := (some .int)) (by decide) rfl (Nat.le_of_ble_eq_true rfl) ?_
  intro p e s m args below meth c A H locs F hP hK hD hS hA hX ls hl
  obtain ⟨hx, hb, hr, hlocks, hml, hown, hts, hin⟩ := F
  have hl : lv_has ls 6 [(0, .ref (wv 0)), (1, .int (nI (pp))), (2, .int (x3)), (3, .int (x4))] := hl
  refine lv_iload_n hx hb dL_least_0 rfl (lv_at hl 1 rfl) ?_
  refine lv_aload_n hx hb dL_least_1 rfl (lv_at hl 0 rfl) ?_
  refine va_alen (x := (w_n wz, _)) (v := nI (w_n wz)) hx hb hK hP 0 0 rfl rfl rfl dL_least_2 ?_
  refine zN_icmp_ne (tgt := 11) hx hb (by omega) (by omega) dL_least_3 (by decide) (fun c3_1 => ?_) (fun c3_1 => ?_)
  · skip
    exact absurd (show pp = w_n wz by omega) c3_1
  · skip
    refine lv_iload_n hx hb dL_least_6 rfl (lv_at hl 3 rfl) ?_
    refine va_mabs hx hb (hml.trans hl.1.symm) hown (hts (.methodLink RL 62 Lib.Math.abs.name) (by decide +kernel)) (hts (.static Lib.Math.abs.name) (by decide +kernel)) (hts (.initialized "java/lang/Math") (by decide +kernel)) (hts (.code Lib.Math.abs.name Lib.Math.abs.code 1 (some .int)) (by decide +kernel)) (Nat.le_of_ble_eq_true rfl) (Nat.le_of_ble_eq_true rfl) (Nat.le_of_ble_eq_true rfl) (Nat.le_of_ble_eq_true rfl) dL_least_7 ?_
    exact zIret () hx hb hr hlocks hK hP hD hS dL_least_10 (show (if 0 ≤ x4 then x4 else 0 - x4) = lsC (w_f wz) 0 pp x3 x4 from rfl)
abbrev rmL_least_1 : Room := { frames := 2, cells := 0, slots := 0, locals := 55 }
set_option maxHeartbeats 4000000 in
set_option maxRecDepth 100000 in
theorem kL_least_1 {D : va_G} {g : XG} {ct : Nat → ClassId} {l : Launch} (wv : Nat → Nat) (wz : WZ) (R : va_W) (pp : Nat) (x3 : Int32) (x4 : Int32) (hwm : w_n wz = pp + 1) (h6 : w_n wz ≤ 6) : MX D ct g l yL_least wsL_least rmL_least_1 (WV ct wv wz R) [.ref (wv 0), .int (nI (pp)), .int (x3), .int (x4)] (QI D ct (fun r0 (_ : Unit) => r0 = lsC (w_f wz) 1 pp x3 x4) (fun _ : Unit => WV ct wv wz R)) := by
  refine MXof (cc := cL_least) (maxL := 6) (ret := (some .int)) (by decide) rfl (Nat.le_of_ble_eq_true rfl) ?_
  intro p e s m args below meth c A H locs F hP hK hD hS hA hX ls hl
  obtain ⟨hx, hb, hr, hlocks, hml, hown, hts, hin⟩ := F
  have hl : lv_has ls 6 [(0, .ref (wv 0)), (1, .int (nI (pp))), (2, .int (x3)), (3, .int (x4))] := hl
  refine lv_iload_n hx hb dL_least_0 rfl (lv_at hl 1 rfl) ?_
  refine lv_aload_n hx hb dL_least_1 rfl (lv_at hl 0 rfl) ?_
  refine va_alen (x := (w_n wz, _)) (v := nI (w_n wz)) hx hb hK hP 0 0 rfl rfl rfl dL_least_2 ?_
  refine zN_icmp_ne (tgt := 11) hx hb (by omega) (by omega) dL_least_3 (by decide) (fun c3_1 => ?_) (fun c3_1 => ?_)
  · skip
    refine lv_ldc (v := nI (1000000)) hx hb hown (hts (.constant RL 67 (1000000)) (by decide +kernel)) dL_least_11 ?_
    refine lv_istore (lv' := [(4, .int (nI (1000000))), (0, .ref (wv 0)), (1, .int (nI (pp))), (2, .int (x3)), (3, .int (x4))]) hx hb dL_least_13 hl (by decide) rfl (fun ls hl => ?_)
    refine lv_iconst (v := nI (0)) hx hb dL_least_15 (by decide) ?_
    refine lv_istore (lv' := [(5, .int (nI (0))), (4, .int (nI (1000000))), (0, .ref (wv 0)), (1, .int (nI (pp))), (2, .int (x3)), (3, .int (x4))]) hx hb dL_least_16 hl (by decide) rfl (fun ls hl => ?_)
    have lp18 : ∀ (fu : Nat) (j : Nat) (acc : Int32) (H : Heap) (locs : List Loc) (ls : Array Slot), (j ≤ 6) → (acc = lsLc (fun p => decide ((x3 >>> (nI p &&& 31)) &&& nI 1 = 0)) (fun q => lsC (w_f wz) 0 (pp + 1) (x3 ||| (nI 1 <<< (nI q &&& 31))) (x4 + (w_f wz pp * nI 2) * (nI 5 - nI (2 * q)))) j) → 6 - j < fu → va_P D vwCl (WV ct wv wz R) H → va_D A (WV ct wv wz R) → va_S A s.heap H locs → lv_has ls 6 [(0, .ref (wv 0)), (1, .int (nI (pp))), (2, .int (x3)), (3, .int (x4)), (4, .int (acc)), (5, .int (nI (j)))] → W p l e rmL_least_1 s m args below meth c H locs 0 0 (MQ below (va_Qi (fun r0 (_ : Unit) => r0 = lsC (w_f wz) 1 pp x3 x4) (zB D ct A (fun _ : Unit => WV ct wv wz R)) A) args s rmL_least_1.cells rmL_least_1.slots A) (F0 m 18 ls []) := by
      intro fu
      induction fu with
      | zero => intro j acc H locs ls hj hacc hfu; exact absurd hfu (Nat.not_lt_zero _)
      | succ fu ih18 =>
        intro j acc H locs ls hj hacc hfu hP hD hS hl
        refine lv_iload hx hb dL_least_18 (lv_at hl 5 rfl) ?_
        refine lv_bipush (v := nI (6)) hx hb dL_least_20 (by decide) ?_
        refine zN_icmp_ge (tgt := 73) hx hb (by omega) (by omega) dL_least_22 (by decide) (fun c22_2 => ?_) (fun c22_2 => ?_)
        · skip
          refine lv_iload hx hb dL_least_73 (lv_at hl 4 rfl) ?_
          exact zIret () hx hb hr hlocks hK hP hD hS dL_least_75 (show acc = lsC (w_f wz) 1 pp x3 x4 from (by obtain rfl : j = 6 := (by omega); rw [hacc, lsC]))
        · skip
          refine lv_iload_n hx hb dL_least_25 rfl (lv_at hl 2 rfl) ?_
          refine lv_iload hx hb dL_least_26 (lv_at hl 5 rfl) ?_
          refine lv_ishr hx hb dL_least_28 ?_
          refine lv_iconst (v := nI (1)) hx hb dL_least_29 (by decide) ?_
          refine lv_iand hx hb dL_least_30 ?_
          refine lv_if_ne (tgt := 67) hx hb dL_least_31 (by decide) (fun c31_3 => ?_) (fun c31_3 => ?_)
          · skip
            refine lv_iinc (v := nI ((j + 1))) (lv' := [(5, .int (nI ((j + 1)))), (0, .ref (wv 0)), (1, .int (nI (pp))), (2, .int (x3)), (3, .int (x4)), (4, .int (acc))]) hx hb dL_least_67 hl (k := 5) rfl (zInc _) (by decide) rfl (fun ls hl => ?_)
            refine lv_goto (tgt := 18) hx hb dL_least_70 (by decide) ?_
            exact ih18 ((j + 1)) (acc) H locs ls (by omega) (by have q9 := least_w (w := w_f wz pp) (p := j) (by omega); simp only [lsLc, ← hacc, ← q9, nI_0, c3_1, c22_2, c31_3, p_in, p_worn, p_wi, p_creak, p_le0, p_lt1, p_rng, not_true_eq_false, not_false_eq_true, if_true, if_false, and_true, true_and, and_false, false_and, or_true, true_or, or_false, false_or, and_self, or_self, iff_true, true_iff, iff_false, false_iff, decide_eq_true_eq, decide_true, decide_false, Int32.add_zero, Nat.add_zero, ne_eq, Bool.false_eq_true, eq_self]) (by omega) hP hD hS (lv_sub hl [1, 2, 3, 4, 5, 0] rfl)
          · skip
            refine lv_iload hx hb dL_least_34 (lv_at hl 4 rfl) ?_
            refine lv_aload_n hx hb dL_least_36 rfl (lv_at hl 0 rfl) ?_
            refine lv_iload_n hx hb dL_least_37 rfl (lv_at hl 1 rfl) ?_
            refine lv_iconst (v := nI (1)) hx hb dL_least_38 (by decide) ?_
            refine zNadd hx hb dL_least_39 ?_
            refine lv_iload_n hx hb dL_least_40 rfl (lv_at hl 2 rfl) ?_
            refine lv_iconst (v := nI (1)) hx hb dL_least_41 (by decide) ?_
            refine lv_iload hx hb dL_least_42 (lv_at hl 5 rfl) ?_
            refine lv_ishl hx hb dL_least_44 ?_
            refine lv_ior hx hb dL_least_45 ?_
            refine lv_iload_n hx hb dL_least_46 rfl (lv_at hl 3 rfl) ?_
            refine lv_aload_n hx hb dL_least_47 rfl (lv_at hl 0 rfl) ?_
            refine lv_iload_n hx hb dL_least_48 rfl (lv_at hl 1 rfl) ?_
            refine zIald (n := w_n wz) (f := w_f wz) (i := pp) hx hb hK hP 0 rfl (by omega) (by omega) dL_least_49 ?_
            refine lv_bipush (v := nI (10)) hx hb dL_least_50 (by decide) ?_
            refine lv_iconst (v := nI (4)) hx hb dL_least_52 (by decide) ?_
            refine lv_iload hx hb dL_least_53 (lv_at hl 5 rfl) ?_
            refine zNmul hx hb dL_least_55 ?_
            refine lv_isub hx hb dL_least_56 ?_
            refine lv_imul hx hb dL_least_57 ?_
            refine lv_iadd hx hb dL_least_58 ?_
            refine zSIX [.ref (wv 0), .int (nI ((pp + 1))), .int ((x3 ||| (nI (1) <<< (nI (j) &&& 31)))), .int ((x4 + (((w_f wz) pp) * (nI (10) - nI ((4 * j))))))] [.int (acc)] (kL_least_0 (wv) (wz) (R) ((pp + 1)) ((x3 ||| (nI (1) <<< (nI (j) &&& 31)))) ((x4 + (((w_f wz) pp) * (nI (10) - nI ((4 * j)))))) (show w_n wz = ((pp + 1)) + 0 from by omega) (show w_n wz ≤ 6 from h6)) hx hb hml hown hts (va_cwS 4 hts gL_least_L_least rfl rfl rfl (by decide +kernel) ⟨(Nat.le_of_ble_eq_true rfl), (Nat.le_of_ble_eq_true rfl)⟩) hK hP hD hS hA hX rfl hl.1 rfl (Nat.le_of_ble_eq_true rfl) dL_least_59 ⟨(Nat.le_of_ble_eq_true rfl), (Nat.le_of_ble_eq_true rfl)⟩ (fun r_59 _ H locs hr_59 hP hD hS => ?_)
            subst hr_59
            have hP : va_P D vwCl (WV ct wv wz R) H := hP
            have hD : va_D A (WV ct wv wz R) := hD
            refine va_mmin hx hb (hml.trans hl.1.symm) hown (hts (.methodLink RL 72 Lib.Math.min.name) (by decide +kernel)) (hts (.static Lib.Math.min.name) (by decide +kernel)) (hts (.initialized "java/lang/Math") (by decide +kernel)) (hts (.code Lib.Math.min.name Lib.Math.min.code 2 (some .int)) (by decide +kernel)) (Nat.le_of_ble_eq_true rfl) (Nat.le_of_ble_eq_true rfl) (Nat.le_of_ble_eq_true rfl) (Nat.le_of_ble_eq_true rfl) dL_least_62 ?_
            refine lv_istore (lv' := [(4, .int ((if (lsC (w_f wz) 0 ((pp + 1)) ((x3 ||| (nI (1) <<< (nI (j) &&& 31)))) ((x4 + (((w_f wz) pp) * (nI (10) - nI ((4 * j))))))) < acc then (lsC (w_f wz) 0 ((pp + 1)) ((x3 ||| (nI (1) <<< (nI (j) &&& 31)))) ((x4 + (((w_f wz) pp) * (nI (10) - nI ((4 * j))))))) else acc))), (0, .ref (wv 0)), (1, .int (nI (pp))), (2, .int (x3)), (3, .int (x4)), (5, .int (nI (j)))]) hx hb dL_least_65 hl (by decide) rfl (fun ls hl => ?_)
            refine lv_iinc (v := nI ((j + 1))) (lv' := [(5, .int (nI ((j + 1)))), (4, .int ((if (lsC (w_f wz) 0 ((pp + 1)) ((x3 ||| (nI (1) <<< (nI (j) &&& 31)))) ((x4 + (((w_f wz) pp) * (nI (10) - nI ((4 * j))))))) < acc then (lsC (w_f wz) 0 ((pp + 1)) ((x3 ||| (nI (1) <<< (nI (j) &&& 31)))) ((x4 + (((w_f wz) pp) * (nI (10) - nI ((4 * j))))))) else acc))), (0, .ref (wv 0)), (1, .int (nI (pp))), (2, .int (x3)), (3, .int (x4))]) hx hb dL_least_67 hl (k := 5) rfl (zInc _) (by decide) rfl (fun ls hl => ?_)
            refine lv_goto (tgt := 18) hx hb dL_least_70 (by decide) ?_
            exact ih18 ((j + 1)) ((if (lsC (w_f wz) 0 ((pp + 1)) ((x3 ||| (nI (1) <<< (nI (j) &&& 31)))) ((x4 + (((w_f wz) pp) * (nI (10) - nI ((4 * j))))))) < acc then (lsC (w_f wz) 0 ((pp + 1)) ((x3 ||| (nI (1) <<< (nI (j) &&& 31)))) ((x4 + (((w_f wz) pp) * (nI (10) - nI ((4 * j))))))) else acc)) H locs ls (by omega) (by have q9 := least_w (w := w_f wz pp) (p := j) (by omega); simp only [lsLc, ← hacc, ← q9, nI_0, c3_1, c22_2, eq_true c31_3, p_in, p_worn, p_wi, p_creak, p_le0, p_lt1, p_rng, not_true_eq_false, not_false_eq_true, if_true, if_false, and_true, true_and, and_false, false_and, or_true, true_or, or_false, false_or, and_self, or_self, iff_true, true_iff, iff_false, false_iff, decide_eq_true_eq, decide_true, decide_false, Int32.add_zero, Nat.add_zero, ne_eq, Bool.false_eq_true, eq_self]) (by omega) hP hD hS (lv_sub hl [2, 3, 4, 5, 1, 0] rfl)
    exact lp18 ((6 - (0)) + 1) (0) (nI 1000000) H locs ls (by omega) rfl (Nat.lt_succ_self _) hP hD hS (lv_sub hl [2, 3, 4, 5, 1, 0] rfl)
  · skip
    exact absurd c3_1 (by omega)
abbrev rmL_least_2 : Room := { frames := 3, cells := 0, slots := 0, locals := 80 }
set_option maxHeartbeats 4000000 in
set_option maxRecDepth 100000 in
theorem kL_least_2 {D : va_G} {g : XG} {ct : Nat → ClassId} {l : Launch} (wv : Nat → Nat) (wz : WZ) (R : va_W) (pp : Nat) (x3 : Int32) (x4 : Int32) (hwm : w_n wz = pp + 2) (h6 : w_n wz ≤ 6) : MX D ct g l yL_least wsL_least rmL_least_2 (WV ct wv wz R) [.ref (wv 0), .int (nI (pp)), .int (x3), .int (x4)] (QI D ct (fun r0 (_ : Unit) => r0 = lsC (w_f wz) 2 pp x3 x4) (fun _ : Unit => WV ct wv wz R)) := by
  refine MXof (cc := cL_least) (maxL := 6) (ret := (some .int)) (by decide) rfl (Nat.le_of_ble_eq_true rfl) ?_
  intro p e s m args below meth c A H locs F hP hK hD hS hA hX ls hl
  obtain ⟨hx, hb, hr, hlocks, hml, hown, hts, hin⟩ := F
  have hl : lv_has ls 6 [(0, .ref (wv 0)), (1, .int (nI (pp))), (2, .int (x3)), (3, .int (x4))] := hl
  refine lv_iload_n hx hb dL_least_0 rfl (lv_at hl 1 rfl) ?_
  refine lv_aload_n hx hb dL_least_1 rfl (lv_at hl 0 rfl) ?_
  refine va_alen (x := (w_n wz, _)) (v := nI (w_n wz)) hx hb hK hP 0 0 rfl rfl rfl dL_least_2 ?_
  refine zN_icmp_ne (tgt := 11) hx hb (by omega) (by omega) dL_least_3 (by decide) (fun c3_1 => ?_) (fun c3_1 => ?_)
  · skip
    refine lv_ldc (v := nI (1000000)) hx hb hown (hts (.constant RL 67 (1000000)) (by decide +kernel)) dL_least_11 ?_
    refine lv_istore (lv' := [(4, .int (nI (1000000))), (0, .ref (wv 0)), (1, .int (nI (pp))), (2, .int (x3)), (3, .int (x4))]) hx hb dL_least_13 hl (by decide) rfl (fun ls hl => ?_)
    refine lv_iconst (v := nI (0)) hx hb dL_least_15 (by decide) ?_
    refine lv_istore (lv' := [(5, .int (nI (0))), (4, .int (nI (1000000))), (0, .ref (wv 0)), (1, .int (nI (pp))), (2, .int (x3)), (3, .int (x4))]) hx hb dL_least_16 hl (by decide) rfl (fun ls hl => ?_)
    have lp18 : ∀ (fu : Nat) (j : Nat) (acc : Int32) (H : Heap) (locs : List Loc) (ls : Array Slot), (j ≤ 6) → (acc = lsLc (fun p => decide ((x3 >>> (nI p &&& 31)) &&& nI 1 = 0)) (fun q => lsC (w_f wz) 1 (pp + 1) (x3 ||| (nI 1 <<< (nI q &&& 31))) (x4 + (w_f wz pp * nI 2) * (nI 5 - nI (2 * q)))) j) → 6 - j < fu → va_P D vwCl (WV ct wv wz R) H → va_D A (WV ct wv wz R) → va_S A s.heap H locs → lv_has ls 6 [(0, .ref (wv 0)), (1, .int (nI (pp))), (2, .int (x3)), (3, .int (x4)), (4, .int (acc)), (5, .int (nI (j)))] → W p l e rmL_least_2 s m args below meth c H locs 0 0 (MQ below (va_Qi (fun r0 (_ : Unit) => r0 = lsC (w_f wz) 2 pp x3 x4) (zB D ct A (fun _ : Unit => WV ct wv wz R)) A) args s rmL_least_2.cells rmL_least_2.slots A) (F0 m 18 ls []) := by
      intro fu
      induction fu with
      | zero => intro j acc H locs ls hj hacc hfu; exact absurd hfu (Nat.not_lt_zero _)
      | succ fu ih18 =>
        intro j acc H locs ls hj hacc hfu hP hD hS hl
        refine lv_iload hx hb dL_least_18 (lv_at hl 5 rfl) ?_
        refine lv_bipush (v := nI (6)) hx hb dL_least_20 (by decide) ?_
        refine zN_icmp_ge (tgt := 73) hx hb (by omega) (by omega) dL_least_22 (by decide) (fun c22_2 => ?_) (fun c22_2 => ?_)
        · skip
          refine lv_iload hx hb dL_least_73 (lv_at hl 4 rfl) ?_
          exact zIret () hx hb hr hlocks hK hP hD hS dL_least_75 (show acc = lsC (w_f wz) 2 pp x3 x4 from (by obtain rfl : j = 6 := (by omega); rw [hacc, lsC]))
        · skip
          refine lv_iload_n hx hb dL_least_25 rfl (lv_at hl 2 rfl) ?_
          refine lv_iload hx hb dL_least_26 (lv_at hl 5 rfl) ?_
          refine lv_ishr hx hb dL_least_28 ?_
          refine lv_iconst (v := nI (1)) hx hb dL_least_29 (by decide) ?_
          refine lv_iand hx hb dL_least_30 ?_
          refine lv_if_ne (tgt := 67) hx hb dL_least_31 (by decide) (fun c31_3 => ?_) (fun c31_3 => ?_)
          · skip
            refine lv_iinc (v := nI ((j + 1))) (lv' := [(5, .int (nI ((j + 1)))), (0, .ref (wv 0)), (1, .int (nI (pp))), (2, .int (x3)), (3, .int (x4)), (4, .int (acc))]) hx hb dL_least_67 hl (k := 5) rfl (zInc _) (by decide) rfl (fun ls hl => ?_)
            refine lv_goto (tgt := 18) hx hb dL_least_70 (by decide) ?_
            exact ih18 ((j + 1)) (acc) H locs ls (by omega) (by have q9 := least_w (w := w_f wz pp) (p := j) (by omega); simp only [lsLc, ← hacc, ← q9, nI_0, c3_1, c22_2, c31_3, p_in, p_worn, p_wi, p_creak, p_le0, p_lt1, p_rng, not_true_eq_false, not_false_eq_true, if_true, if_false, and_true, true_and, and_false, false_and, or_true, true_or, or_false, false_or, and_self, or_self, iff_true, true_iff, iff_false, false_iff, decide_eq_true_eq, decide_true, decide_false, Int32.add_zero, Nat.add_zero, ne_eq, Bool.false_eq_true, eq_self]) (by omega) hP hD hS (lv_sub hl [1, 2, 3, 4, 5, 0] rfl)
          · skip
            refine lv_iload hx hb dL_least_34 (lv_at hl 4 rfl) ?_
            refine lv_aload_n hx hb dL_least_36 rfl (lv_at hl 0 rfl) ?_
            refine lv_iload_n hx hb dL_least_37 rfl (lv_at hl 1 rfl) ?_
            refine lv_iconst (v := nI (1)) hx hb dL_least_38 (by decide) ?_
            refine zNadd hx hb dL_least_39 ?_
            refine lv_iload_n hx hb dL_least_40 rfl (lv_at hl 2 rfl) ?_
            refine lv_iconst (v := nI (1)) hx hb dL_least_41 (by decide) ?_
            refine lv_iload hx hb dL_least_42 (lv_at hl 5 rfl) ?_
            refine lv_ishl hx hb dL_least_44 ?_
            refine lv_ior hx hb dL_least_45 ?_
            refine lv_iload_n hx hb dL_least_46 rfl (lv_at hl 3 rfl) ?_
            refine lv_aload_n hx hb dL_least_47 rfl (lv_at hl 0 rfl) ?_
            refine lv_iload_n hx hb dL_least_48 rfl (lv_at hl 1 rfl) ?_
            refine zIald (n := w_n wz) (f := w_f wz) (i := pp) hx hb hK hP 0 rfl (by omega) (by omega) dL_least_49 ?_
            refine lv_bipush (v := nI (10)) hx hb dL_least_50 (by decide) ?_
            refine lv_iconst (v := nI (4)) hx hb dL_least_52 (by decide) ?_
            refine lv_iload hx hb dL_least_53 (lv_at hl 5 rfl) ?_
            refine zNmul hx hb dL_least_55 ?_
            refine lv_isub hx hb dL_least_56 ?_
            refine lv_imul hx hb dL_least_57 ?_
            refine lv_iadd hx hb dL_least_58 ?_
            refine zSIX [.ref (wv 0), .int (nI ((pp + 1))), .int ((x3 ||| (nI (1) <<< (nI (j) &&& 31)))), .int ((x4 + (((w_f wz) pp) * (nI (10) - nI ((4 * j))))))] [.int (acc)] (kL_least_1 (wv) (wz) (R) ((pp + 1)) ((x3 ||| (nI (1) <<< (nI (j) &&& 31)))) ((x4 + (((w_f wz) pp) * (nI (10) - nI ((4 * j)))))) (show w_n wz = ((pp + 1)) + 1 from by omega) (show w_n wz ≤ 6 from h6)) hx hb hml hown hts (va_cwS 4 hts gL_least_L_least rfl rfl rfl (by decide +kernel) ⟨(Nat.le_of_ble_eq_true rfl), (Nat.le_of_ble_eq_true rfl)⟩) hK hP hD hS hA hX rfl hl.1 rfl (Nat.le_of_ble_eq_true rfl) dL_least_59 ⟨(Nat.le_of_ble_eq_true rfl), (Nat.le_of_ble_eq_true rfl)⟩ (fun r_59 _ H locs hr_59 hP hD hS => ?_)
            subst hr_59
            have hP : va_P D vwCl (WV ct wv wz R) H := hP
            have hD : va_D A (WV ct wv wz R) := hD
            refine va_mmin hx hb (hml.trans hl.1.symm) hown (hts (.methodLink RL 72 Lib.Math.min.name) (by decide +kernel)) (hts (.static Lib.Math.min.name) (by decide +kernel)) (hts (.initialized "java/lang/Math") (by decide +kernel)) (hts (.code Lib.Math.min.name Lib.Math.min.code 2 (some .int)) (by decide +kernel)) (Nat.le_of_ble_eq_true rfl) (Nat.le_of_ble_eq_true rfl) (Nat.le_of_ble_eq_true rfl) (Nat.le_of_ble_eq_true rfl) dL_least_62 ?_
            refine lv_istore (lv' := [(4, .int ((if (lsC (w_f wz) 1 ((pp + 1)) ((x3 ||| (nI (1) <<< (nI (j) &&& 31)))) ((x4 + (((w_f wz) pp) * (nI (10) - nI ((4 * j))))))) < acc then (lsC (w_f wz) 1 ((pp + 1)) ((x3 ||| (nI (1) <<< (nI (j) &&& 31)))) ((x4 + (((w_f wz) pp) * (nI (10) - nI ((4 * j))))))) else acc))), (0, .ref (wv 0)), (1, .int (nI (pp))), (2, .int (x3)), (3, .int (x4)), (5, .int (nI (j)))]) hx hb dL_least_65 hl (by decide) rfl (fun ls hl => ?_)
            refine lv_iinc (v := nI ((j + 1))) (lv' := [(5, .int (nI ((j + 1)))), (4, .int ((if (lsC (w_f wz) 1 ((pp + 1)) ((x3 ||| (nI (1) <<< (nI (j) &&& 31)))) ((x4 + (((w_f wz) pp) * (nI (10) - nI ((4 * j))))))) < acc then (lsC (w_f wz) 1 ((pp + 1)) ((x3 ||| (nI (1) <<< (nI (j) &&& 31)))) ((x4 + (((w_f wz) pp) * (nI (10) - nI ((4 * j))))))) else acc))), (0, .ref (wv 0)), (1, .int (nI (pp))), (2, .int (x3)), (3, .int (x4))]) hx hb dL_least_67 hl (k := 5) rfl (zInc _) (by decide) rfl (fun ls hl => ?_)
            refine lv_goto (tgt := 18) hx hb dL_least_70 (by decide) ?_
            exact ih18 ((j + 1)) ((if (lsC (w_f wz) 1 ((pp + 1)) ((x3 ||| (nI (1) <<< (nI (j) &&& 31)))) ((x4 + (((w_f wz) pp) * (nI (10) - nI ((4 * j))))))) < acc then (lsC (w_f wz) 1 ((pp + 1)) ((x3 ||| (nI (1) <<< (nI (j) &&& 31)))) ((x4 + (((w_f wz) pp) * (nI (10) - nI ((4 * j))))))) else acc)) H locs ls (by omega) (by have q9 := least_w (w := w_f wz pp) (p := j) (by omega); simp only [lsLc, ← hacc, ← q9, nI_0, c3_1, c22_2, eq_true c31_3, p_in, p_worn, p_wi, p_creak, p_le0, p_lt1, p_rng, not_true_eq_false, not_false_eq_true, if_true, if_false, and_true, true_and, and_false, false_and, or_true, true_or, or_false, false_or, and_self, or_self, iff_true, true_iff, iff_false, false_iff, decide_eq_true_eq, decide_true, decide_false, Int32.add_zero, Nat.add_zero, ne_eq, Bool.false_eq_true, eq_self]) (by omega) hP hD hS (lv_sub hl [2, 3, 4, 5, 1, 0] rfl)
    exact lp18 ((6 - (0)) + 1) (0) (nI 1000000) H locs ls (by omega) rfl (Nat.lt_succ_self _) hP hD hS (lv_sub hl [2, 3, 4, 5, 1, 0] rfl)
  · skip
    exact absurd c3_1 (by omega)
abbrev rmL_least_3 : Room := { frames := 4, cells := 0, slots := 0, locals := 105 }
set_option maxHeartbeats 4000000 in
set_option maxRecDepth 100000 in
theorem kL_least_3 {D : va_G} {g : XG} {ct : Nat → ClassId} {l : Launch} (wv : Nat → Nat) (wz : WZ) (R : va_W) (pp : Nat) (x3 : Int32) (x4 : Int32) (hwm : w_n wz = pp + 3) (h6 : w_n wz ≤ 6) : MX D ct g l yL_least wsL_least rmL_least_3 (WV ct wv wz R) [.ref (wv 0), .int (nI (pp)), .int (x3), .int (x4)] (QI D ct (fun r0 (_ : Unit) => r0 = lsC (w_f wz) 3 pp x3 x4) (fun _ : Unit => WV ct wv wz R)) := by
  refine MXof (cc := cL_least) (maxL := 6) (ret := (some .int)) (by decide) rfl (Nat.le_of_ble_eq_true rfl) ?_
  intro p e s m args below meth c A H locs F hP hK hD hS hA hX ls hl
  obtain ⟨hx, hb, hr, hlocks, hml, hown, hts, hin⟩ := F
  have hl : lv_has ls 6 [(0, .ref (wv 0)), (1, .int (nI (pp))), (2, .int (x3)), (3, .int (x4))] := hl
  refine lv_iload_n hx hb dL_least_0 rfl (lv_at hl 1 rfl) ?_
  refine lv_aload_n hx hb dL_least_1 rfl (lv_at hl 0 rfl) ?_
  refine va_alen (x := (w_n wz, _)) (v := nI (w_n wz)) hx hb hK hP 0 0 rfl rfl rfl dL_least_2 ?_
  refine zN_icmp_ne (tgt := 11) hx hb (by omega) (by omega) dL_least_3 (by decide) (fun c3_1 => ?_) (fun c3_1 => ?_)
  · skip
    refine lv_ldc (v := nI (1000000)) hx hb hown (hts (.constant RL 67 (1000000)) (by decide +kernel)) dL_least_11 ?_
    refine lv_istore (lv' := [(4, .int (nI (1000000))), (0, .ref (wv 0)), (1, .int (nI (pp))), (2, .int (x3)), (3, .int (x4))]) hx hb dL_least_13 hl (by decide) rfl (fun ls hl => ?_)
    refine lv_iconst (v := nI (0)) hx hb dL_least_15 (by decide) ?_
    refine lv_istore (lv' := [(5, .int (nI (0))), (4, .int (nI (1000000))), (0, .ref (wv 0)), (1, .int (nI (pp))), (2, .int (x3)), (3, .int (x4))]) hx hb dL_least_16 hl (by decide) rfl (fun ls hl => ?_)
    have lp18 : ∀ (fu : Nat) (j : Nat) (acc : Int32) (H : Heap) (locs : List Loc) (ls : Array Slot), (j ≤ 6) → (acc = lsLc (fun p => decide ((x3 >>> (nI p &&& 31)) &&& nI 1 = 0)) (fun q => lsC (w_f wz) 2 (pp + 1) (x3 ||| (nI 1 <<< (nI q &&& 31))) (x4 + (w_f wz pp * nI 2) * (nI 5 - nI (2 * q)))) j) → 6 - j < fu → va_P D vwCl (WV ct wv wz R) H → va_D A (WV ct wv wz R) → va_S A s.heap H locs → lv_has ls 6 [(0, .ref (wv 0)), (1, .int (nI (pp))), (2, .int (x3)), (3, .int (x4)), (4, .int (acc)), (5, .int (nI (j)))] → W p l e rmL_least_3 s m args below meth c H locs 0 0 (MQ below (va_Qi (fun r0 (_ : Unit) => r0 = lsC (w_f wz) 3 pp x3 x4) (zB D ct A (fun _ : Unit => WV ct wv wz R)) A) args s rmL_least_3.cells rmL_least_3.slots A) (F0 m 18 ls []) := by
      intro fu
      induction fu with
      | zero => intro j acc H locs ls hj hacc hfu; exact absurd hfu (Nat.not_lt_zero _)
      | succ fu ih18 =>
        intro j acc H locs ls hj hacc hfu hP hD hS hl
        refine lv_iload hx hb dL_least_18 (lv_at hl 5 rfl) ?_
        refine lv_bipush (v := nI (6)) hx hb dL_least_20 (by decide) ?_
        refine zN_icmp_ge (tgt := 73) hx hb (by omega) (by omega) dL_least_22 (by decide) (fun c22_2 => ?_) (fun c22_2 => ?_)
        · skip
          refine lv_iload hx hb dL_least_73 (lv_at hl 4 rfl) ?_
          exact zIret () hx hb hr hlocks hK hP hD hS dL_least_75 (show acc = lsC (w_f wz) 3 pp x3 x4 from (by obtain rfl : j = 6 := (by omega); rw [hacc, lsC]))
        · skip
          refine lv_iload_n hx hb dL_least_25 rfl (lv_at hl 2 rfl) ?_
          refine lv_iload hx hb dL_least_26 (lv_at hl 5 rfl) ?_
          refine lv_ishr hx hb dL_least_28 ?_
          refine lv_iconst (v := nI (1)) hx hb dL_least_29 (by decide) ?_
          refine lv_iand hx hb dL_least_30 ?_
          refine lv_if_ne (tgt := 67) hx hb dL_least_31 (by decide) (fun c31_3 => ?_) (fun c31_3 => ?_)
          · skip
            refine lv_iinc (v := nI ((j + 1))) (lv' := [(5, .int (nI ((j + 1)))), (0, .ref (wv 0)), (1, .int (nI (pp))), (2, .int (x3)), (3, .int (x4)), (4, .int (acc))]) hx hb dL_least_67 hl (k := 5) rfl (zInc _) (by decide) rfl (fun ls hl => ?_)
            refine lv_goto (tgt := 18) hx hb dL_least_70 (by decide) ?_
            exact ih18 ((j + 1)) (acc) H locs ls (by omega) (by have q9 := least_w (w := w_f wz pp) (p := j) (by omega); simp only [lsLc, ← hacc, ← q9, nI_0, c3_1, c22_2, c31_3, p_in, p_worn, p_wi, p_creak, p_le0, p_lt1, p_rng, not_true_eq_false, not_false_eq_true, if_true, if_false, and_true, true_and, and_false, false_and, or_true, true_or, or_false, false_or, and_self, or_self, iff_true, true_iff, iff_false, false_iff, decide_eq_true_eq, decide_true, decide_false, Int32.add_zero, Nat.add_zero, ne_eq, Bool.false_eq_true, eq_self]) (by omega) hP hD hS (lv_sub hl [1, 2, 3, 4, 5, 0] rfl)
          · skip
            refine lv_iload hx hb dL_least_34 (lv_at hl 4 rfl) ?_
            refine lv_aload_n hx hb dL_least_36 rfl (lv_at hl 0 rfl) ?_
            refine lv_iload_n hx hb dL_least_37 rfl (lv_at hl 1 rfl) ?_
            refine lv_iconst (v := nI (1)) hx hb dL_least_38 (by decide) ?_
            refine zNadd hx hb dL_least_39 ?_
            refine lv_iload_n hx hb dL_least_40 rfl (lv_at hl 2 rfl) ?_
            refine lv_iconst (v := nI (1)) hx hb dL_least_41 (by decide) ?_
            refine lv_iload hx hb dL_least_42 (lv_at hl 5 rfl) ?_
            refine lv_ishl hx hb dL_least_44 ?_
            refine lv_ior hx hb dL_least_45 ?_
            refine lv_iload_n hx hb dL_least_46 rfl (lv_at hl 3 rfl) ?_
            refine lv_aload_n hx hb dL_least_47 rfl (lv_at hl 0 rfl) ?_
            refine lv_iload_n hx hb dL_least_48 rfl (lv_at hl 1 rfl) ?_
            refine zIald (n := w_n wz) (f := w_f wz) (i := pp) hx hb hK hP 0 rfl (by omega) (by omega) dL_least_49 ?_
            refine lv_bipush (v := nI (10)) hx hb dL_least_50 (by decide) ?_
            refine lv_iconst (v := nI (4)) hx hb dL_least_52 (by decide) ?_
            refine lv_iload hx hb dL_least_53 (lv_at hl 5 rfl) ?_
            refine zNmul hx hb dL_least_55 ?_
            refine lv_isub hx hb dL_least_56 ?_
            refine lv_imul hx hb dL_least_57 ?_
            refine lv_iadd hx hb dL_least_58 ?_
            refine zSIX [.ref (wv 0), .int (nI ((pp + 1))), .int ((x3 ||| (nI (1) <<< (nI (j) &&& 31)))), .int ((x4 + (((w_f wz) pp) * (nI (10) - nI ((4 * j))))))] [.int (acc)] (kL_least_2 (wv) (wz) (R) ((pp + 1)) ((x3 ||| (nI (1) <<< (nI (j) &&& 31)))) ((x4 + (((w_f wz) pp) * (nI (10) - nI ((4 * j)))))) (show w_n wz = ((pp + 1)) + 2 from by omega) (show w_n wz ≤ 6 from h6)) hx hb hml hown hts (va_cwS 4 hts gL_least_L_least rfl rfl rfl (by decide +kernel) ⟨(Nat.le_of_ble_eq_true rfl), (Nat.le_of_ble_eq_true rfl)⟩) hK hP hD hS hA hX rfl hl.1 rfl (Nat.le_of_ble_eq_true rfl) dL_least_59 ⟨(Nat.le_of_ble_eq_true rfl), (Nat.le_of_ble_eq_true rfl)⟩ (fun r_59 _ H locs hr_59 hP hD hS => ?_)
            subst hr_59
            have hP : va_P D vwCl (WV ct wv wz R) H := hP
            have hD : va_D A (WV ct wv wz R) := hD
            refine va_mmin hx hb (hml.trans hl.1.symm) hown (hts (.methodLink RL 72 Lib.Math.min.name) (by decide +kernel)) (hts (.static Lib.Math.min.name) (by decide +kernel)) (hts (.initialized "java/lang/Math") (by decide +kernel)) (hts (.code Lib.Math.min.name Lib.Math.min.code 2 (some .int)) (by decide +kernel)) (Nat.le_of_ble_eq_true rfl) (Nat.le_of_ble_eq_true rfl) (Nat.le_of_ble_eq_true rfl) (Nat.le_of_ble_eq_true rfl) dL_least_62 ?_
            refine lv_istore (lv' := [(4, .int ((if (lsC (w_f wz) 2 ((pp + 1)) ((x3 ||| (nI (1) <<< (nI (j) &&& 31)))) ((x4 + (((w_f wz) pp) * (nI (10) - nI ((4 * j))))))) < acc then (lsC (w_f wz) 2 ((pp + 1)) ((x3 ||| (nI (1) <<< (nI (j) &&& 31)))) ((x4 + (((w_f wz) pp) * (nI (10) - nI ((4 * j))))))) else acc))), (0, .ref (wv 0)), (1, .int (nI (pp))), (2, .int (x3)), (3, .int (x4)), (5, .int (nI (j)))]) hx hb dL_least_65 hl (by decide) rfl (fun ls hl => ?_)
            refine lv_iinc (v := nI ((j + 1))) (lv' := [(5, .int (nI ((j + 1)))), (4, .int ((if (lsC (w_f wz) 2 ((pp + 1)) ((x3 ||| (nI (1) <<< (nI (j) &&& 31)))) ((x4 + (((w_f wz) pp) * (nI (10) - nI ((4 * j))))))) < acc then (lsC (w_f wz) 2 ((pp + 1)) ((x3 ||| (nI (1) <<< (nI (j) &&& 31)))) ((x4 + (((w_f wz) pp) * (nI (10) - nI ((4 * j))))))) else acc))), (0, .ref (wv 0)), (1, .int (nI (pp))), (2, .int (x3)), (3, .int (x4))]) hx hb dL_least_67 hl (k := 5) rfl (zInc _) (by decide) rfl (fun ls hl => ?_)
            refine lv_goto (tgt := 18) hx hb dL_least_70 (by decide) ?_
            exact ih18 ((j + 1)) ((if (lsC (w_f wz) 2 ((pp + 1)) ((x3 ||| (nI (1) <<< (nI (j) &&& 31)))) ((x4 + (((w_f wz) pp) * (nI (10) - nI ((4 * j))))))) < acc then (lsC (w_f wz) 2 ((pp + 1)) ((x3 ||| (nI (1) <<< (nI (j) &&& 31)))) ((x4 + (((w_f wz) pp) * (nI (10) - nI ((4 * j))))))) else acc)) H locs ls (by omega) (by have q9 := least_w (w := w_f wz pp) (p := j) (by omega); simp only [lsLc, ← hacc, ← q9, nI_0, c3_1, c22_2, eq_true c31_3, p_in, p_worn, p_wi, p_creak, p_le0, p_lt1, p_rng, not_true_eq_false, not_false_eq_true, if_true, if_false, and_true, true_and, and_false, false_and, or_true, true_or, or_false, false_or, and_self, or_self, iff_true, true_iff, iff_false, false_iff, decide_eq_true_eq, decide_true, decide_false, Int32.add_zero, Nat.add_zero, ne_eq, Bool.false_eq_true, eq_self]) (by omega) hP hD hS (lv_sub hl [2, 3, 4, 5, 1, 0] rfl)
    exact lp18 ((6 - (0)) + 1) (0) (nI 1000000) H locs ls (by omega) rfl (Nat.lt_succ_self _) hP hD hS (lv_sub hl [2, 3, 4, 5, 1, 0] rfl)
  · skip
    exact absurd c3_1 (by omega)
abbrev rmL_least_4 : Room := { frames := 5, cells := 0, slots := 0, locals := 130 }
set_option maxHeartbeats 4000000 in
set_option maxRecDepth 100000 in
theorem kL_least_4 {D : va_G} {g : XG} {ct : Nat → ClassId} {l : Launch} (wv : Nat → Nat) (wz : WZ) (R : va_W) (pp : Nat) (x3 : Int32) (x4 : Int32) (hwm : w_n wz = pp + 4) (h6 : w_n wz ≤ 6) : MX D ct g l yL_least wsL_least rmL_least_4 (WV ct wv wz R) [.ref (wv 0), .int (nI (pp)), .int (x3), .int (x4)] (QI D ct (fun r0 (_ : Unit) => r0 = lsC (w_f wz) 4 pp x3 x4) (fun _ : Unit => WV ct wv wz R)) := by
  refine MXof (cc := cL_least) (maxL := 6) (ret := (some .int)) (by decide) rfl (Nat.le_of_ble_eq_true rfl) ?_
  intro p e s m args below meth c A H locs F hP hK hD hS hA hX ls hl
  obtain ⟨hx, hb, hr, hlocks, hml, hown, hts, hin⟩ := F
  have hl : lv_has ls 6 [(0, .ref (wv 0)), (1, .int (nI (pp))), (2, .int (x3)), (3, .int (x4))] := hl
  refine lv_iload_n hx hb dL_least_0 rfl (lv_at hl 1 rfl) ?_
  refine lv_aload_n hx hb dL_least_1 rfl (lv_at hl 0 rfl) ?_
  refine va_alen (x := (w_n wz, _)) (v := nI (w_n wz)) hx hb hK hP 0 0 rfl rfl rfl dL_least_2 ?_
  refine zN_icmp_ne (tgt := 11) hx hb (by omega) (by omega) dL_least_3 (by decide) (fun c3_1 => ?_) (fun c3_1 => ?_)
  · skip
    refine lv_ldc (v := nI (1000000)) hx hb hown (hts (.constant RL 67 (1000000)) (by decide +kernel)) dL_least_11 ?_
    refine lv_istore (lv' := [(4, .int (nI (1000000))), (0, .ref (wv 0)), (1, .int (nI (pp))), (2, .int (x3)), (3, .int (x4))]) hx hb dL_least_13 hl (by decide) rfl (fun ls hl => ?_)
    refine lv_iconst (v := nI (0)) hx hb dL_least_15 (by decide) ?_
    refine lv_istore (lv' := [(5, .int (nI (0))), (4, .int (nI (1000000))), (0, .ref (wv 0)), (1, .int (nI (pp))), (2, .int (x3)), (3, .int (x4))]) hx hb dL_least_16 hl (by decide) rfl (fun ls hl => ?_)
    have lp18 : ∀ (fu : Nat) (j : Nat) (acc : Int32) (H : Heap) (locs : List Loc) (ls : Array Slot), (j ≤ 6) → (acc = lsLc (fun p => decide ((x3 >>> (nI p &&& 31)) &&& nI 1 = 0)) (fun q => lsC (w_f wz) 3 (pp + 1) (x3 ||| (nI 1 <<< (nI q &&& 31))) (x4 + (w_f wz pp * nI 2) * (nI 5 - nI (2 * q)))) j) → 6 - j < fu → va_P D vwCl (WV ct wv wz R) H → va_D A (WV ct wv wz R) → va_S A s.heap H locs → lv_has ls 6 [(0, .ref (wv 0)), (1, .int (nI (pp))), (2, .int (x3)), (3, .int (x4)), (4, .int (acc)), (5, .int (nI (j)))] → W p l e rmL_least_4 s m args below meth c H locs 0 0 (MQ below (va_Qi (fun r0 (_ : Unit) => r0 = lsC (w_f wz) 4 pp x3 x4) (zB D ct A (fun _ : Unit => WV ct wv wz R)) A) args s rmL_least_4.cells rmL_least_4.slots A) (F0 m 18 ls []) := by
      intro fu
      induction fu with
      | zero => intro j acc H locs ls hj hacc hfu; exact absurd hfu (Nat.not_lt_zero _)
      | succ fu ih18 =>
        intro j acc H locs ls hj hacc hfu hP hD hS hl
        refine lv_iload hx hb dL_least_18 (lv_at hl 5 rfl) ?_
        refine lv_bipush (v := nI (6)) hx hb dL_least_20 (by decide) ?_
        refine zN_icmp_ge (tgt := 73) hx hb (by omega) (by omega) dL_least_22 (by decide) (fun c22_2 => ?_) (fun c22_2 => ?_)
        · skip
          refine lv_iload hx hb dL_least_73 (lv_at hl 4 rfl) ?_
          exact zIret () hx hb hr hlocks hK hP hD hS dL_least_75 (show acc = lsC (w_f wz) 4 pp x3 x4 from (by obtain rfl : j = 6 := (by omega); rw [hacc, lsC]))
        · skip
          refine lv_iload_n hx hb dL_least_25 rfl (lv_at hl 2 rfl) ?_
          refine lv_iload hx hb dL_least_26 (lv_at hl 5 rfl) ?_
          refine lv_ishr hx hb dL_least_28 ?_
          refine lv_iconst (v := nI (1)) hx hb dL_least_29 (by decide) ?_
          refine lv_iand hx hb dL_least_30 ?_
          refine lv_if_ne (tgt := 67) hx hb dL_least_31 (by decide) (fun c31_3 => ?_) (fun c31_3 => ?_)
          · skip
            refine lv_iinc (v := nI ((j + 1))) (lv' := [(5, .int (nI ((j + 1)))), (0, .ref (wv 0)), (1, .int (nI (pp))), (2, .int (x3)), (3, .int (x4)), (4, .int (acc))]) hx hb dL_least_67 hl (k := 5) rfl (zInc _) (by decide) rfl (fun ls hl => ?_)
            refine lv_goto (tgt := 18) hx hb dL_least_70 (by decide) ?_
            exact ih18 ((j + 1)) (acc) H locs ls (by omega) (by have q9 := least_w (w := w_f wz pp) (p := j) (by omega); simp only [lsLc, ← hacc, ← q9, nI_0, c3_1, c22_2, c31_3, p_in, p_worn, p_wi, p_creak, p_le0, p_lt1, p_rng, not_true_eq_false, not_false_eq_true, if_true, if_false, and_true, true_and, and_false, false_and, or_true, true_or, or_false, false_or, and_self, or_self, iff_true, true_iff, iff_false, false_iff, decide_eq_true_eq, decide_true, decide_false, Int32.add_zero, Nat.add_zero, ne_eq, Bool.false_eq_true, eq_self]) (by omega) hP hD hS (lv_sub hl [1, 2, 3, 4, 5, 0] rfl)
          · skip
            refine lv_iload hx hb dL_least_34 (lv_at hl 4 rfl) ?_
            refine lv_aload_n hx hb dL_least_36 rfl (lv_at hl 0 rfl) ?_
            refine lv_iload_n hx hb dL_least_37 rfl (lv_at hl 1 rfl) ?_
            refine lv_iconst (v := nI (1)) hx hb dL_least_38 (by decide) ?_
            refine zNadd hx hb dL_least_39 ?_
            refine lv_iload_n hx hb dL_least_40 rfl (lv_at hl 2 rfl) ?_
            refine lv_iconst (v := nI (1)) hx hb dL_least_41 (by decide) ?_
            refine lv_iload hx hb dL_least_42 (lv_at hl 5 rfl) ?_
            refine lv_ishl hx hb dL_least_44 ?_
            refine lv_ior hx hb dL_least_45 ?_
            refine lv_iload_n hx hb dL_least_46 rfl (lv_at hl 3 rfl) ?_
            refine lv_aload_n hx hb dL_least_47 rfl (lv_at hl 0 rfl) ?_
            refine lv_iload_n hx hb dL_least_48 rfl (lv_at hl 1 rfl) ?_
            refine zIald (n := w_n wz) (f := w_f wz) (i := pp) hx hb hK hP 0 rfl (by omega) (by omega) dL_least_49 ?_
            refine lv_bipush (v := nI (10)) hx hb dL_least_50 (by decide) ?_
            refine lv_iconst (v := nI (4)) hx hb dL_least_52 (by decide) ?_
            refine lv_iload hx hb dL_least_53 (lv_at hl 5 rfl) ?_
            refine zNmul hx hb dL_least_55 ?_
            refine lv_isub hx hb dL_least_56 ?_
            refine lv_imul hx hb dL_least_57 ?_
            refine lv_iadd hx hb dL_least_58 ?_
            refine zSIX [.ref (wv 0), .int (nI ((pp + 1))), .int ((x3 ||| (nI (1) <<< (nI (j) &&& 31)))), .int ((x4 + (((w_f wz) pp) * (nI (10) - nI ((4 * j))))))] [.int (acc)] (kL_least_3 (wv) (wz) (R) ((pp + 1)) ((x3 ||| (nI (1) <<< (nI (j) &&& 31)))) ((x4 + (((w_f wz) pp) * (nI (10) - nI ((4 * j)))))) (show w_n wz = ((pp + 1)) + 3 from by omega) (show w_n wz ≤ 6 from h6)) hx hb hml hown hts (va_cwS 4 hts gL_least_L_least rfl rfl rfl (by decide +kernel) ⟨(Nat.le_of_ble_eq_true rfl), (Nat.le_of_ble_eq_true rfl)⟩) hK hP hD hS hA hX rfl hl.1 rfl (Nat.le_of_ble_eq_true rfl) dL_least_59 ⟨(Nat.le_of_ble_eq_true rfl), (Nat.le_of_ble_eq_true rfl)⟩ (fun r_59 _ H locs hr_59 hP hD hS => ?_)
            subst hr_59
            have hP : va_P D vwCl (WV ct wv wz R) H := hP
            have hD : va_D A (WV ct wv wz R) := hD
            refine va_mmin hx hb (hml.trans hl.1.symm) hown (hts (.methodLink RL 72 Lib.Math.min.name) (by decide +kernel)) (hts (.static Lib.Math.min.name) (by decide +kernel)) (hts (.initialized "java/lang/Math") (by decide +kernel)) (hts (.code Lib.Math.min.name Lib.Math.min.code 2 (some .int)) (by decide +kernel)) (Nat.le_of_ble_eq_true rfl) (Nat.le_of_ble_eq_true rfl) (Nat.le_of_ble_eq_true rfl) (Nat.le_of_ble_eq_true rfl) dL_least_62 ?_
            refine lv_istore (lv' := [(4, .int ((if (lsC (w_f wz) 3 ((pp + 1)) ((x3 ||| (nI (1) <<< (nI (j) &&& 31)))) ((x4 + (((w_f wz) pp) * (nI (10) - nI ((4 * j))))))) < acc then (lsC (w_f wz) 3 ((pp + 1)) ((x3 ||| (nI (1) <<< (nI (j) &&& 31)))) ((x4 + (((w_f wz) pp) * (nI (10) - nI ((4 * j))))))) else acc))), (0, .ref (wv 0)), (1, .int (nI (pp))), (2, .int (x3)), (3, .int (x4)), (5, .int (nI (j)))]) hx hb dL_least_65 hl (by decide) rfl (fun ls hl => ?_)
            refine lv_iinc (v := nI ((j + 1))) (lv' := [(5, .int (nI ((j + 1)))), (4, .int ((if (lsC (w_f wz) 3 ((pp + 1)) ((x3 ||| (nI (1) <<< (nI (j) &&& 31)))) ((x4 + (((w_f wz) pp) * (nI (10) - nI ((4 * j))))))) < acc then (lsC (w_f wz) 3 ((pp + 1)) ((x3 ||| (nI (1) <<< (nI (j) &&& 31)))) ((x4 + (((w_f wz) pp) * (nI (10) - nI ((4 * j))))))) else acc))), (0, .ref (wv 0)), (1, .int (nI (pp))), (2, .int (x3)), (3, .int (x4))]) hx hb dL_least_67 hl (k := 5) rfl (zInc _) (by decide) rfl (fun ls hl => ?_)
            refine lv_goto (tgt := 18) hx hb dL_least_70 (by decide) ?_
            exact ih18 ((j + 1)) ((if (lsC (w_f wz) 3 ((pp + 1)) ((x3 ||| (nI (1) <<< (nI (j) &&& 31)))) ((x4 + (((w_f wz) pp) * (nI (10) - nI ((4 * j))))))) < acc then (lsC (w_f wz) 3 ((pp + 1)) ((x3 ||| (nI (1) <<< (nI (j) &&& 31)))) ((x4 + (((w_f wz) pp) * (nI (10) - nI ((4 * j))))))) else acc)) H locs ls (by omega) (by have q9 := least_w (w := w_f wz pp) (p := j) (by omega); simp only [lsLc, ← hacc, ← q9, nI_0, c3_1, c22_2, eq_true c31_3, p_in, p_worn, p_wi, p_creak, p_le0, p_lt1, p_rng, not_true_eq_false, not_false_eq_true, if_true, if_false, and_true, true_and, and_false, false_and, or_true, true_or, or_false, false_or, and_self, or_self, iff_true, true_iff, iff_false, false_iff, decide_eq_true_eq, decide_true, decide_false, Int32.add_zero, Nat.add_zero, ne_eq, Bool.false_eq_true, eq_self]) (by omega) hP hD hS (lv_sub hl [2, 3, 4, 5, 1, 0] rfl)
    exact lp18 ((6 - (0)) + 1) (0) (nI 1000000) H locs ls (by omega) rfl (Nat.lt_succ_self _) hP hD hS (lv_sub hl [2, 3, 4, 5, 1, 0] rfl)
  · skip
    exact absurd c3_1 (by omega)
abbrev rmL_least_5 : Room := { frames := 6, cells := 0, slots := 0, locals := 155 }
set_option maxHeartbeats 4000000 in
set_option maxRecDepth 100000 in
theorem kL_least_5 {D : va_G} {g : XG} {ct : Nat → ClassId} {l : Launch} (wv : Nat → Nat) (wz : WZ) (R : va_W) (pp : Nat) (x3 : Int32) (x4 : Int32) (hwm : w_n wz = pp + 5) (h6 : w_n wz ≤ 6) : MX D ct g l yL_least wsL_least rmL_least_5 (WV ct wv wz R) [.ref (wv 0), .int (nI (pp)), .int (x3), .int (x4)] (QI D ct (fun r0 (_ : Unit) => r0 = lsC (w_f wz) 5 pp x3 x4) (fun _ : Unit => WV ct wv wz R)) := by
  refine MXof (cc := cL_least) (maxL := 6) (ret := (some .int)) (by decide) rfl (Nat.le_of_ble_eq_true rfl) ?_
  intro p e s m args below meth c A H locs F hP hK hD hS hA hX ls hl
  obtain ⟨hx, hb, hr, hlocks, hml, hown, hts, hin⟩ := F
  have hl : lv_has ls 6 [(0, .ref (wv 0)), (1, .int (nI (pp))), (2, .int (x3)), (3, .int (x4))] := hl
  refine lv_iload_n hx hb dL_least_0 rfl (lv_at hl 1 rfl) ?_
  refine lv_aload_n hx hb dL_least_1 rfl (lv_at hl 0 rfl) ?_
  refine va_alen (x := (w_n wz, _)) (v := nI (w_n wz)) hx hb hK hP 0 0 rfl rfl rfl dL_least_2 ?_
  refine zN_icmp_ne (tgt := 11) hx hb (by omega) (by omega) dL_least_3 (by decide) (fun c3_1 => ?_) (fun c3_1 => ?_)
  · skip
    refine lv_ldc (v := nI (1000000)) hx hb hown (hts (.constant RL 67 (1000000)) (by decide +kernel)) dL_least_11 ?_
    refine lv_istore (lv' := [(4, .int (nI (1000000))), (0, .ref (wv 0)), (1, .int (nI (pp))), (2, .int (x3)), (3, .int (x4))]) hx hb dL_least_13 hl (by decide) rfl (fun ls hl => ?_)
    refine lv_iconst (v := nI (0)) hx hb dL_least_15 (by decide) ?_
    refine lv_istore (lv' := [(5, .int (nI (0))), (4, .int (nI (1000000))), (0, .ref (wv 0)), (1, .int (nI (pp))), (2, .int (x3)), (3, .int (x4))]) hx hb dL_least_16 hl (by decide) rfl (fun ls hl => ?_)
    have lp18 : ∀ (fu : Nat) (j : Nat) (acc : Int32) (H : Heap) (locs : List Loc) (ls : Array Slot), (j ≤ 6) → (acc = lsLc (fun p => decide ((x3 >>> (nI p &&& 31)) &&& nI 1 = 0)) (fun q => lsC (w_f wz) 4 (pp + 1) (x3 ||| (nI 1 <<< (nI q &&& 31))) (x4 + (w_f wz pp * nI 2) * (nI 5 - nI (2 * q)))) j) → 6 - j < fu → va_P D vwCl (WV ct wv wz R) H → va_D A (WV ct wv wz R) → va_S A s.heap H locs → lv_has ls 6 [(0, .ref (wv 0)), (1, .int (nI (pp))), (2, .int (x3)), (3, .int (x4)), (4, .int (acc)), (5, .int (nI (j)))] → W p l e rmL_least_5 s m args below meth c H locs 0 0 (MQ below (va_Qi (fun r0 (_ : Unit) => r0 = lsC (w_f wz) 5 pp x3 x4) (zB D ct A (fun _ : Unit => WV ct wv wz R)) A) args s rmL_least_5.cells rmL_least_5.slots A) (F0 m 18 ls []) := by
      intro fu
      induction fu with
      | zero => intro j acc H locs ls hj hacc hfu; exact absurd hfu (Nat.not_lt_zero _)
      | succ fu ih18 =>
        intro j acc H locs ls hj hacc hfu hP hD hS hl
        refine lv_iload hx hb dL_least_18 (lv_at hl 5 rfl) ?_
        refine lv_bipush (v := nI (6)) hx hb dL_least_20 (by decide) ?_
        refine zN_icmp_ge (tgt := 73) hx hb (by omega) (by omega) dL_least_22 (by decide) (fun c22_2 => ?_) (fun c22_2 => ?_)
        · skip
          refine lv_iload hx hb dL_least_73 (lv_at hl 4 rfl) ?_
          exact zIret () hx hb hr hlocks hK hP hD hS dL_least_75 (show acc = lsC (w_f wz) 5 pp x3 x4 from (by obtain rfl : j = 6 := (by omega); rw [hacc, lsC]))
        · skip
          refine lv_iload_n hx hb dL_least_25 rfl (lv_at hl 2 rfl) ?_
          refine lv_iload hx hb dL_least_26 (lv_at hl 5 rfl) ?_
          refine lv_ishr hx hb dL_least_28 ?_
          refine lv_iconst (v := nI (1)) hx hb dL_least_29 (by decide) ?_
          refine lv_iand hx hb dL_least_30 ?_
          refine lv_if_ne (tgt := 67) hx hb dL_least_31 (by decide) (fun c31_3 => ?_) (fun c31_3 => ?_)
          · skip
            refine lv_iinc (v := nI ((j + 1))) (lv' := [(5, .int (nI ((j + 1)))), (0, .ref (wv 0)), (1, .int (nI (pp))), (2, .int (x3)), (3, .int (x4)), (4, .int (acc))]) hx hb dL_least_67 hl (k := 5) rfl (zInc _) (by decide) rfl (fun ls hl => ?_)
            refine lv_goto (tgt := 18) hx hb dL_least_70 (by decide) ?_
            exact ih18 ((j + 1)) (acc) H locs ls (by omega) (by have q9 := least_w (w := w_f wz pp) (p := j) (by omega); simp only [lsLc, ← hacc, ← q9, nI_0, c3_1, c22_2, c31_3, p_in, p_worn, p_wi, p_creak, p_le0, p_lt1, p_rng, not_true_eq_false, not_false_eq_true, if_true, if_false, and_true, true_and, and_false, false_and, or_true, true_or, or_false, false_or, and_self, or_self, iff_true, true_iff, iff_false, false_iff, decide_eq_true_eq, decide_true, decide_false, Int32.add_zero, Nat.add_zero, ne_eq, Bool.false_eq_true, eq_self]) (by omega) hP hD hS (lv_sub hl [1, 2, 3, 4, 5, 0] rfl)
          · skip
            refine lv_iload hx hb dL_least_34 (lv_at hl 4 rfl) ?_
            refine lv_aload_n hx hb dL_least_36 rfl (lv_at hl 0 rfl) ?_
            refine lv_iload_n hx hb dL_least_37 rfl (lv_at hl 1 rfl) ?_
            refine lv_iconst (v := nI (1)) hx hb dL_least_38 (by decide) ?_
            refine zNadd hx hb dL_least_39 ?_
            refine lv_iload_n hx hb dL_least_40 rfl (lv_at hl 2 rfl) ?_
            refine lv_iconst (v := nI (1)) hx hb dL_least_41 (by decide) ?_
            refine lv_iload hx hb dL_least_42 (lv_at hl 5 rfl) ?_
            refine lv_ishl hx hb dL_least_44 ?_
            refine lv_ior hx hb dL_least_45 ?_
            refine lv_iload_n hx hb dL_least_46 rfl (lv_at hl 3 rfl) ?_
            refine lv_aload_n hx hb dL_least_47 rfl (lv_at hl 0 rfl) ?_
            refine lv_iload_n hx hb dL_least_48 rfl (lv_at hl 1 rfl) ?_
            refine zIald (n := w_n wz) (f := w_f wz) (i := pp) hx hb hK hP 0 rfl (by omega) (by omega) dL_least_49 ?_
            refine lv_bipush (v := nI (10)) hx hb dL_least_50 (by decide) ?_
            refine lv_iconst (v := nI (4)) hx hb dL_least_52 (by decide) ?_
            refine lv_iload hx hb dL_least_53 (lv_at hl 5 rfl) ?_
            refine zNmul hx hb dL_least_55 ?_
            refine lv_isub hx hb dL_least_56 ?_
            refine lv_imul hx hb dL_least_57 ?_
            refine lv_iadd hx hb dL_least_58 ?_
            refine zSIX [.ref (wv 0), .int (nI ((pp + 1))), .int ((x3 ||| (nI (1) <<< (nI (j) &&& 31)))), .int ((x4 + (((w_f wz) pp) * (nI (10) - nI ((4 * j))))))] [.int (acc)] (kL_least_4 (wv) (wz) (R) ((pp + 1)) ((x3 ||| (nI (1) <<< (nI (j) &&& 31)))) ((x4 + (((w_f wz) pp) * (nI (10) - nI ((4 * j)))))) (show w_n wz = ((pp + 1)) + 4 from by omega) (show w_n wz ≤ 6 from h6)) hx hb hml hown hts (va_cwS 4 hts gL_least_L_least rfl rfl rfl (by decide +kernel) ⟨(Nat.le_of_ble_eq_true rfl), (Nat.le_of_ble_eq_true rfl)⟩) hK hP hD hS hA hX rfl hl.1 rfl (Nat.le_of_ble_eq_true rfl) dL_least_59 ⟨(Nat.le_of_ble_eq_true rfl), (Nat.le_of_ble_eq_true rfl)⟩ (fun r_59 _ H locs hr_59 hP hD hS => ?_)
            subst hr_59
            have hP : va_P D vwCl (WV ct wv wz R) H := hP
            have hD : va_D A (WV ct wv wz R) := hD
            refine va_mmin hx hb (hml.trans hl.1.symm) hown (hts (.methodLink RL 72 Lib.Math.min.name) (by decide +kernel)) (hts (.static Lib.Math.min.name) (by decide +kernel)) (hts (.initialized "java/lang/Math") (by decide +kernel)) (hts (.code Lib.Math.min.name Lib.Math.min.code 2 (some .int)) (by decide +kernel)) (Nat.le_of_ble_eq_true rfl) (Nat.le_of_ble_eq_true rfl) (Nat.le_of_ble_eq_true rfl) (Nat.le_of_ble_eq_true rfl) dL_least_62 ?_
            refine lv_istore (lv' := [(4, .int ((if (lsC (w_f wz) 4 ((pp + 1)) ((x3 ||| (nI (1) <<< (nI (j) &&& 31)))) ((x4 + (((w_f wz) pp) * (nI (10) - nI ((4 * j))))))) < acc then (lsC (w_f wz) 4 ((pp + 1)) ((x3 ||| (nI (1) <<< (nI (j) &&& 31)))) ((x4 + (((w_f wz) pp) * (nI (10) - nI ((4 * j))))))) else acc))), (0, .ref (wv 0)), (1, .int (nI (pp))), (2, .int (x3)), (3, .int (x4)), (5, .int (nI (j)))]) hx hb dL_least_65 hl (by decide) rfl (fun ls hl => ?_)
            refine lv_iinc (v := nI ((j + 1))) (lv' := [(5, .int (nI ((j + 1)))), (4, .int ((if (lsC (w_f wz) 4 ((pp + 1)) ((x3 ||| (nI (1) <<< (nI (j) &&& 31)))) ((x4 + (((w_f wz) pp) * (nI (10) - nI ((4 * j))))))) < acc then (lsC (w_f wz) 4 ((pp + 1)) ((x3 ||| (nI (1) <<< (nI (j) &&& 31)))) ((x4 + (((w_f wz) pp) * (nI (10) - nI ((4 * j))))))) else acc))), (0, .ref (wv 0)), (1, .int (nI (pp))), (2, .int (x3)), (3, .int (x4))]) hx hb dL_least_67 hl (k := 5) rfl (zInc _) (by decide) rfl (fun ls hl => ?_)
            refine lv_goto (tgt := 18) hx hb dL_least_70 (by decide) ?_
            exact ih18 ((j + 1)) ((if (lsC (w_f wz) 4 ((pp + 1)) ((x3 ||| (nI (1) <<< (nI (j) &&& 31)))) ((x4 + (((w_f wz) pp) * (nI (10) - nI ((4 * j))))))) < acc then (lsC (w_f wz) 4 ((pp + 1)) ((x3 ||| (nI (1) <<< (nI (j) &&& 31)))) ((x4 + (((w_f wz) pp) * (nI (10) - nI ((4 * j))))))) else acc)) H locs ls (by omega) (by have q9 := least_w (w := w_f wz pp) (p := j) (by omega); simp only [lsLc, ← hacc, ← q9, nI_0, c3_1, c22_2, eq_true c31_3, p_in, p_worn, p_wi, p_creak, p_le0, p_lt1, p_rng, not_true_eq_false, not_false_eq_true, if_true, if_false, and_true, true_and, and_false, false_and, or_true, true_or, or_false, false_or, and_self, or_self, iff_true, true_iff, iff_false, false_iff, decide_eq_true_eq, decide_true, decide_false, Int32.add_zero, Nat.add_zero, ne_eq, Bool.false_eq_true, eq_self]) (by omega) hP hD hS (lv_sub hl [2, 3, 4, 5, 1, 0] rfl)
    exact lp18 ((6 - (0)) + 1) (0) (nI 1000000) H locs ls (by omega) rfl (Nat.lt_succ_self _) hP hD hS (lv_sub hl [2, 3, 4, 5, 1, 0] rfl)
  · skip
    exact absurd c3_1 (by omega)
abbrev rmL_least_6 : Room := { frames := 7, cells := 0, slots := 0, locals := 180 }
set_option maxHeartbeats 4000000 in
set_option maxRecDepth 100000 in
theorem kL_least_6 {D : va_G} {g : XG} {ct : Nat → ClassId} {l : Launch} (wv : Nat → Nat) (wz : WZ) (R : va_W) (pp : Nat) (x3 : Int32) (x4 : Int32) (hwm : w_n wz = pp + 6) (h6 : w_n wz ≤ 6) : MX D ct g l yL_least wsL_least rmL_least_6 (WV ct wv wz R) [.ref (wv 0), .int (nI (pp)), .int (x3), .int (x4)] (QI D ct (fun r0 (_ : Unit) => r0 = lsC (w_f wz) 6 pp x3 x4) (fun _ : Unit => WV ct wv wz R)) := by
  refine MXof (cc := cL_least) (maxL := 6) (ret := (some .int)) (by decide) rfl (Nat.le_of_ble_eq_true rfl) ?_
  intro p e s m args below meth c A H locs F hP hK hD hS hA hX ls hl
  obtain ⟨hx, hb, hr, hlocks, hml, hown, hts, hin⟩ := F
  have hl : lv_has ls 6 [(0, .ref (wv 0)), (1, .int (nI (pp))), (2, .int (x3)), (3, .int (x4))] := hl
  refine lv_iload_n hx hb dL_least_0 rfl (lv_at hl 1 rfl) ?_
  refine lv_aload_n hx hb dL_least_1 rfl (lv_at hl 0 rfl) ?_
  refine va_alen (x := (w_n wz, _)) (v := nI (w_n wz)) hx hb hK hP 0 0 rfl rfl rfl dL_least_2 ?_
  refine zN_icmp_ne (tgt := 11) hx hb (by omega) (by omega) dL_least_3 (by decide) (fun c3_1 => ?_) (fun c3_1 => ?_)
  · skip
    refine lv_ldc (v := nI (1000000)) hx hb hown (hts (.constant RL 67 (1000000)) (by decide +kernel)) dL_least_11 ?_
    refine lv_istore (lv' := [(4, .int (nI (1000000))), (0, .ref (wv 0)), (1, .int (nI (pp))), (2, .int (x3)), (3, .int (x4))]) hx hb dL_least_13 hl (by decide) rfl (fun ls hl => ?_)
    refine lv_iconst (v := nI (0)) hx hb dL_least_15 (by decide) ?_
    refine lv_istore (lv' := [(5, .int (nI (0))), (4, .int (nI (1000000))), (0, .ref (wv 0)), (1, .int (nI (pp))), (2, .int (x3)), (3, .int (x4))]) hx hb dL_least_16 hl (by decide) rfl (fun ls hl => ?_)
    have lp18 : ∀ (fu : Nat) (j : Nat) (acc : Int32) (H : Heap) (locs : List Loc) (ls : Array Slot), (j ≤ 6) → (acc = lsLc (fun p => decide ((x3 >>> (nI p &&& 31)) &&& nI 1 = 0)) (fun q => lsC (w_f wz) 5 (pp + 1) (x3 ||| (nI 1 <<< (nI q &&& 31))) (x4 + (w_f wz pp * nI 2) * (nI 5 - nI (2 * q)))) j) → 6 - j < fu → va_P D vwCl (WV ct wv wz R) H → va_D A (WV ct wv wz R) → va_S A s.heap H locs → lv_has ls 6 [(0, .ref (wv 0)), (1, .int (nI (pp))), (2, .int (x3)), (3, .int (x4)), (4, .int (acc)), (5, .int (nI (j)))] → W p l e rmL_least_6 s m args below meth c H locs 0 0 (MQ below (va_Qi (fun r0 (_ : Unit) => r0 = lsC (w_f wz) 6 pp x3 x4) (zB D ct A (fun _ : Unit => WV ct wv wz R)) A) args s rmL_least_6.cells rmL_least_6.slots A) (F0 m 18 ls []) := by
      intro fu
      induction fu with
      | zero => intro j acc H locs ls hj hacc hfu; exact absurd hfu (Nat.not_lt_zero _)
      | succ fu ih18 =>
        intro j acc H locs ls hj hacc hfu hP hD hS hl
        refine lv_iload hx hb dL_least_18 (lv_at hl 5 rfl) ?_
        refine lv_bipush (v := nI (6)) hx hb dL_least_20 (by decide) ?_
        refine zN_icmp_ge (tgt := 73) hx hb (by omega) (by omega) dL_least_22 (by decide) (fun c22_2 => ?_) (fun c22_2 => ?_)
        · skip
          refine lv_iload hx hb dL_least_73 (lv_at hl 4 rfl) ?_
          exact zIret () hx hb hr hlocks hK hP hD hS dL_least_75 (show acc = lsC (w_f wz) 6 pp x3 x4 from (by obtain rfl : j = 6 := (by omega); rw [hacc, lsC]))
        · skip
          refine lv_iload_n hx hb dL_least_25 rfl (lv_at hl 2 rfl) ?_
          refine lv_iload hx hb dL_least_26 (lv_at hl 5 rfl) ?_
          refine lv_ishr hx hb dL_least_28 ?_
          refine lv_iconst (v := nI (1)) hx hb dL_least_29 (by decide) ?_
          refine lv_iand hx hb dL_least_30 ?_
          refine lv_if_ne (tgt := 67) hx hb dL_least_31 (by decide) (fun c31_3 => ?_) (fun c31_3 => ?_)
          · skip
            refine lv_iinc (v := nI ((j + 1))) (lv' := [(5, .int (nI ((j + 1)))), (0, .ref (wv 0)), (1, .int (nI (pp))), (2, .int (x3)), (3, .int (x4)), (4, .int (acc))]) hx hb dL_least_67 hl (k := 5) rfl (zInc _) (by decide) rfl (fun ls hl => ?_)
            refine lv_goto (tgt := 18) hx hb dL_least_70 (by decide) ?_
            exact ih18 ((j + 1)) (acc) H locs ls (by omega) (by have q9 := least_w (w := w_f wz pp) (p := j) (by omega); simp only [lsLc, ← hacc, ← q9, nI_0, c3_1, c22_2, c31_3, p_in, p_worn, p_wi, p_creak, p_le0, p_lt1, p_rng, not_true_eq_false, not_false_eq_true, if_true, if_false, and_true, true_and, and_false, false_and, or_true, true_or, or_false, false_or, and_self, or_self, iff_true, true_iff, iff_false, false_iff, decide_eq_true_eq, decide_true, decide_false, Int32.add_zero, Nat.add_zero, ne_eq, Bool.false_eq_true, eq_self]) (by omega) hP hD hS (lv_sub hl [1, 2, 3, 4, 5, 0] rfl)
          · skip
            refine lv_iload hx hb dL_least_34 (lv_at hl 4 rfl) ?_
            refine lv_aload_n hx hb dL_least_36 rfl (lv_at hl 0 rfl) ?_
            refine lv_iload_n hx hb dL_least_37 rfl (lv_at hl 1 rfl) ?_
            refine lv_iconst (v := nI (1)) hx hb dL_least_38 (by decide) ?_
            refine zNadd hx hb dL_least_39 ?_
            refine lv_iload_n hx hb dL_least_40 rfl (lv_at hl 2 rfl) ?_
            refine lv_iconst (v := nI (1)) hx hb dL_least_41 (by decide) ?_
            refine lv_iload hx hb dL_least_42 (lv_at hl 5 rfl) ?_
            refine lv_ishl hx hb dL_least_44 ?_
            refine lv_ior hx hb dL_least_45 ?_
            refine lv_iload_n hx hb dL_least_46 rfl (lv_at hl 3 rfl) ?_
            refine lv_aload_n hx hb dL_least_47 rfl (lv_at hl 0 rfl) ?_
            refine lv_iload_n hx hb dL_least_48 rfl (lv_at hl 1 rfl) ?_
            refine zIald (n := w_n wz) (f := w_f wz) (i := pp) hx hb hK hP 0 rfl (by omega) (by omega) dL_least_49 ?_
            refine lv_bipush (v := nI (10)) hx hb dL_least_50 (by decide) ?_
            refine lv_iconst (v := nI (4)) hx hb dL_least_52 (by decide) ?_
            refine lv_iload hx hb dL_least_53 (lv_at hl 5 rfl) ?_
            refine zNmul hx hb dL_least_55 ?_
            refine lv_isub hx hb dL_least_56 ?_
            refine lv_imul hx hb dL_least_57 ?_
            refine lv_iadd hx hb dL_least_58 ?_
            refine zSIX [.ref (wv 0), .int (nI ((pp + 1))), .int ((x3 ||| (nI (1) <<< (nI (j) &&& 31)))), .int ((x4 + (((w_f wz) pp) * (nI (10) - nI ((4 * j))))))] [.int (acc)] (kL_least_5 (wv) (wz) (R) ((pp + 1)) ((x3 ||| (nI (1) <<< (nI (j) &&& 31)))) ((x4 + (((w_f wz) pp) * (nI (10) - nI ((4 * j)))))) (show w_n wz = ((pp + 1)) + 5 from by omega) (show w_n wz ≤ 6 from h6)) hx hb hml hown hts (va_cwS 4 hts gL_least_L_least rfl rfl rfl (by decide +kernel) ⟨(Nat.le_of_ble_eq_true rfl), (Nat.le_of_ble_eq_true rfl)⟩) hK hP hD hS hA hX rfl hl.1 rfl (Nat.le_of_ble_eq_true rfl) dL_least_59 ⟨(Nat.le_of_ble_eq_true rfl), (Nat.le_of_ble_eq_true rfl)⟩ (fun r_59 _ H locs hr_59 hP hD hS => ?_)
            subst hr_59
            have hP : va_P D vwCl (WV ct wv wz R) H := hP
            have hD : va_D A (WV ct wv wz R) := hD
            refine va_mmin hx hb (hml.trans hl.1.symm) hown (hts (.methodLink RL 72 Lib.Math.min.name) (by decide +kernel)) (hts (.static Lib.Math.min.name) (by decide +kernel)) (hts (.initialized "java/lang/Math") (by decide +kernel)) (hts (.code Lib.Math.min.name Lib.Math.min.code 2 (some .int)) (by decide +kernel)) (Nat.le_of_ble_eq_true rfl) (Nat.le_of_ble_eq_true rfl) (Nat.le_of_ble_eq_true rfl) (Nat.le_of_ble_eq_true rfl) dL_least_62 ?_
            refine lv_istore (lv' := [(4, .int ((if (lsC (w_f wz) 5 ((pp + 1)) ((x3 ||| (nI (1) <<< (nI (j) &&& 31)))) ((x4 + (((w_f wz) pp) * (nI (10) - nI ((4 * j))))))) < acc then (lsC (w_f wz) 5 ((pp + 1)) ((x3 ||| (nI (1) <<< (nI (j) &&& 31)))) ((x4 + (((w_f wz) pp) * (nI (10) - nI ((4 * j))))))) else acc))), (0, .ref (wv 0)), (1, .int (nI (pp))), (2, .int (x3)), (3, .int (x4)), (5, .int (nI (j)))]) hx hb dL_least_65 hl (by decide) rfl (fun ls hl => ?_)
            refine lv_iinc (v := nI ((j + 1))) (lv' := [(5, .int (nI ((j + 1)))), (4, .int ((if (lsC (w_f wz) 5 ((pp + 1)) ((x3 ||| (nI (1) <<< (nI (j) &&& 31)))) ((x4 + (((w_f wz) pp) * (nI (10) - nI ((4 * j))))))) < acc then (lsC (w_f wz) 5 ((pp + 1)) ((x3 ||| (nI (1) <<< (nI (j) &&& 31)))) ((x4 + (((w_f wz) pp) * (nI (10) - nI ((4 * j))))))) else acc))), (0, .ref (wv 0)), (1, .int (nI (pp))), (2, .int (x3)), (3, .int (x4))]) hx hb dL_least_67 hl (k := 5) rfl (zInc _) (by decide) rfl (fun ls hl => ?_)
            refine lv_goto (tgt := 18) hx hb dL_least_70 (by decide) ?_
            exact ih18 ((j + 1)) ((if (lsC (w_f wz) 5 ((pp + 1)) ((x3 ||| (nI (1) <<< (nI (j) &&& 31)))) ((x4 + (((w_f wz) pp) * (nI (10) - nI ((4 * j))))))) < acc then (lsC (w_f wz) 5 ((pp + 1)) ((x3 ||| (nI (1) <<< (nI (j) &&& 31)))) ((x4 + (((w_f wz) pp) * (nI (10) - nI ((4 * j))))))) else acc)) H locs ls (by omega) (by have q9 := least_w (w := w_f wz pp) (p := j) (by omega); simp only [lsLc, ← hacc, ← q9, nI_0, c3_1, c22_2, eq_true c31_3, p_in, p_worn, p_wi, p_creak, p_le0, p_lt1, p_rng, not_true_eq_false, not_false_eq_true, if_true, if_false, and_true, true_and, and_false, false_and, or_true, true_or, or_false, false_or, and_self, or_self, iff_true, true_iff, iff_false, false_iff, decide_eq_true_eq, decide_true, decide_false, Int32.add_zero, Nat.add_zero, ne_eq, Bool.false_eq_true, eq_self]) (by omega) hP hD hS (lv_sub hl [2, 3, 4, 5, 1, 0] rfl)
    exact lp18 ((6 - (0)) + 1) (0) (nI 1000000) H locs ls (by omega) rfl (Nat.lt_succ_self _) hP hD hS (lv_sub hl [2, 3, 4, 5, 1, 0] rfl)
  · skip
    exact absurd c3_1 (by omega)
abbrev rmL_isLine : Room := { frames := 5, cells := 0, slots := 0, locals := 109 }
set_option maxHeartbeats 4000000 in
set_option maxRecDepth 100000 in
theorem kL_isLine {D : va_G} {g : XG} {ct : Nat → ClassId} {l : Launch} (a : Nat → Nat) (y : YS) (b : Nat → Nat) (rs : RS) (d : Nat → Nat) (bz : BS) (i : Nat → Nat) (iv : IS) (lb : Nat → Nat) (lz : LST) (sa : Nat → Nat) (sy : YS) (x : Nat → Nat) (xv : Int32 × Int32) (h : Nat → Nat) (ha : Nat → Nat → Nat) (hz : HS) (sb : Nat → Nat) (sz : SST) (R : va_W) (ln : Nat) (tx : List Nat) (hL : LR tx lz) (hT : SR tx sz) (hln : ln = tx.length) : MX D ct g l yL_isLine wsL_isLine rmL_isLine (YW ct a y (KR a b rs (BW ct a d bz (IW ct i (xE g) iv (LW ct lb lz (YW ct sa sy (XO x a sa h b d i lb xv (HW ct h ha hz (SW ct sb sz R))))))))) [.ref (x 0), .int (nI (ln)), .ref (sb 0)] (QI D ct (fun r0 (_ : Unit) => r0 = nI (1)) (fun _ : Unit => YW ct a y (KR a b rs (BW ct a d bz (IW ct i (xE g) iv (LW ct lb lz (YW ct sa sy (XO x a sa h b d i lb xv (HW ct h ha hz (SW ct sb sz R)))))))))) := by
  refine MXof (cc := cL_isLine) (maxL := 4) (ret := (some .boolean)) (by decide) rfl (Nat.le_of_ble_eq_true rfl) ?_
  intro p e s m args below meth c A H locs F hP hK hD hS hA hX ls hl
  obtain ⟨hx, hb, hr, hlocks, hml, hown, hts, hin⟩ := F
  have hl : lv_has ls 4 [(0, .ref (x 0)), (1, .int (nI (ln))), (2, .ref (sb 0))] := hl
  have ht1 := hT.1
  have ht2 := hT.2.1
  refine lv_iload_n hx hb dL_isLine_0 rfl (lv_at hl 1 rfl) ?_
  refine lv_aload_n hx hb dL_isLine_1 rfl (lv_at hl 2 rfl) ?_
  have hP : va_P D vwCl (SW ct sb sz (YW ct a y (KR a b rs (BW ct a d bz (IW ct i (xE g) iv (LW ct lb lz (YW ct sa sy (XO x a sa h b d i lb xv (HW ct h ha hz R))))))))) H := zPp (zF8 (YW ct a y []) (KR a b rs []) (BW ct a d bz []) (IW ct i (xE g) iv []) (LW ct lb lz []) (YW ct sa sy []) (XO x a sa h b d i lb xv []) (HWl ct h ha hz) (SW ct sb sz []) (R)) hP
  have hD : va_D A (SW ct sb sz (YW ct a y (KR a b rs (BW ct a d bz (IW ct i (xE g) iv (LW ct lb lz (YW ct sa sy (XO x a sa h b d i lb xv (HW ct h ha hz R))))))))) := zDp (zF8 (YW ct a y []) (KR a b rs []) (BW ct a d bz []) (IW ct i (xE g) iv []) (LW ct lb lz []) (YW ct sa sy []) (XO x a sa h b d i lb xv []) (HWl ct h ha hz) (SW ct sb sz []) (R)) hD
  refine zVIX [] [.int (nI (ln))] (kJ0_length_8abf5_t (sb) (sz) (YW ct a y (KR a b rs (BW ct a d bz (IW ct i (xE g) iv (LW ct lb lz (YW ct sa sy (XO x a sa h b d i lb xv (HW ct h ha hz R))))))))) hx hb hml hown hts (cwV 0 hts gL_isLine_J0_length_8abf5 rfl rfl rfl (by decide +kernel) ⟨(Nat.le_of_ble_eq_true rfl), (Nat.le_of_ble_eq_true rfl)⟩) hK hP hD hS hA hX (va_recv hK hP (ci := 10) (q0 := 0) rfl rfl) rfl hl.1 rfl (Nat.le_of_ble_eq_true rfl) dL_isLine_2 ⟨(Nat.le_of_ble_eq_true rfl), (Nat.le_of_ble_eq_true rfl)⟩ (fun r_2 _ H locs hr_2 hP hD hS => ?_)
  subst hr_2
  have hP : va_P D vwCl (SW ct sb sz (YW ct a y (KR a b rs (BW ct a d bz (IW ct i (xE g) iv (LW ct lb lz (YW ct sa sy (XO x a sa h b d i lb xv (HW ct h ha hz R))))))))) H := hP
  have hD : va_D A (SW ct sb sz (YW ct a y (KR a b rs (BW ct a d bz (IW ct i (xE g) iv (LW ct lb lz (YW ct sa sy (XO x a sa h b d i lb xv (HW ct h ha hz R))))))))) := hD
  have hP : va_P D vwCl (YW ct a y (KR a b rs (BW ct a d bz (IW ct i (xE g) iv (LW ct lb lz (YW ct sa sy (XO x a sa h b d i lb xv (HW ct h ha hz (SW ct sb sz R))))))))) H := zPp (zF8 (YW ct a y []) (KR a b rs []) (BW ct a d bz []) (IW ct i (xE g) iv []) (LW ct lb lz []) (YW ct sa sy []) (XO x a sa h b d i lb xv []) (HWl ct h ha hz) (SW ct sb sz []) (R)).symm hP
  have hD : va_D A (YW ct a y (KR a b rs (BW ct a d bz (IW ct i (xE g) iv (LW ct lb lz (YW ct sa sy (XO x a sa h b d i lb xv (HW ct h ha hz (SW ct sb sz R))))))))) := zDp (zF8 (YW ct a y []) (KR a b rs []) (BW ct a d bz []) (IW ct i (xE g) iv []) (LW ct lb lz []) (YW ct sa sy []) (XO x a sa h b d i lb xv []) (HWl ct h ha hz) (SW ct sb sz []) (R)).symm hD
  refine zN_icmp_eq (tgt := 10) hx hb (by omega) (by omega) dL_isLine_5 (by decide) (fun c5_1 => ?_) (fun c5_1 => ?_)
  · skip
    refine lv_iconst (v := nI (0)) hx hb dL_isLine_10 (by decide) ?_
    refine lv_istore_n (lv' := [(3, .int (nI (0))), (0, .ref (x 0)), (1, .int (nI (ln))), (2, .ref (sb 0))]) hx hb dL_isLine_11 rfl hl (by decide) rfl (fun ls hl => ?_)
    have lp12 : ∀ (fu : Nat) (iq : Nat) (H : Heap) (locs : List Loc) (ls : Array Slot), (iq ≤ ln) → ln - iq < fu → va_P D vwCl (YW ct a y (KR a b rs (BW ct a d bz (IW ct i (xE g) iv (LW ct lb lz (YW ct sa sy (XO x a sa h b d i lb xv (HW ct h ha hz (SW ct sb sz R))))))))) H → va_D A (YW ct a y (KR a b rs (BW ct a d bz (IW ct i (xE g) iv (LW ct lb lz (YW ct sa sy (XO x a sa h b d i lb xv (HW ct h ha hz (SW ct sb sz R))))))))) → va_S A s.heap H locs → lv_has ls 4 [(0, .ref (x 0)), (1, .int (nI (ln))), (2, .ref (sb 0)), (3, .int (nI (iq)))] → W p l e rmL_isLine s m args below meth c H locs 0 0 (MQ below (va_Qi (fun r0 (_ : Unit) => r0 = nI (1)) (zB D ct A (fun _ : Unit => YW ct a y (KR a b rs (BW ct a d bz (IW ct i (xE g) iv (LW ct lb lz (YW ct sa sy (XO x a sa h b d i lb xv (HW ct h ha hz (SW ct sb sz R)))))))))) A) args s rmL_isLine.cells rmL_isLine.slots A) (F0 m 12 ls []) := by
      intro fu
      induction fu with
      | zero => intro iq H locs ls hi hfu; exact absurd hfu (Nat.not_lt_zero _)
      | succ fu ih12 =>
        intro iq H locs ls hi hfu hP hD hS hl
        refine lv_iload_n hx hb dL_isLine_12 rfl (lv_at hl 3 rfl) ?_
        refine lv_iload_n hx hb dL_isLine_13 rfl (lv_at hl 1 rfl) ?_
        refine zN_icmp_ge (tgt := 38) hx hb (by omega) (by omega) dL_isLine_14 (by decide) (fun c14_2 => ?_) (fun c14_2 => ?_)
        · skip
          refine lv_iconst (v := nI (1)) hx hb dL_isLine_38 (by decide) ?_
          exact zZret () (by decide) hx hb hr hlocks hK hP hD hS dL_isLine_39 (show nI (1) = nI (1) from rfl)
        · skip
          refine lv_aload_n hx hb dL_isLine_17 rfl (lv_at hl 0 rfl) ?_
          refine lv_iload_n hx hb dL_isLine_18 rfl (lv_at hl 3 rfl) ?_
          refine zVIX [.int (nI (iq))] [] (kX10_written (a) (y) (b) (rs) (d) (bz) (i) (iv) (lb) (lz) (sa) (sy) (x) (xv) (h) (ha) (hz) (SW ct sb sz R) (nI (iq)) (tx) (show LR (tx) lz from hL)) hx hb hml hown hts (cwV 1 hts gL_isLine_X10_written rfl rfl rfl (by decide +kernel) ⟨(Nat.le_of_ble_eq_true rfl), (Nat.le_of_ble_eq_true rfl)⟩) hK hP hD hS hA hX (va_recv hK hP (ci := 9) (q0 := 38) rfl rfl) rfl hl.1 rfl (Nat.le_of_ble_eq_true rfl) dL_isLine_19 ⟨(Nat.le_of_ble_eq_true rfl), (Nat.le_of_ble_eq_true rfl)⟩ (fun r_19 _ H locs hr_19 hP hD hS => ?_)
          subst hr_19
          have hP : va_P D vwCl (YW ct a y (KR a b rs (BW ct a d bz (IW ct i (xE g) iv (LW ct lb lz (YW ct sa sy (XO x a sa h b d i lb xv (HW ct h ha hz (SW ct sb sz R))))))))) H := hP
          have hD : va_D A (YW ct a y (KR a b rs (BW ct a d bz (IW ct i (xE g) iv (LW ct lb lz (YW ct sa sy (XO x a sa h b d i lb xv (HW ct h ha hz (SW ct sb sz R))))))))) := hD
          refine zTop (y := nI ((tx).getD (iq) 0)) (a_wt (by omega) ht2) ?_
          refine lv_aload_n hx hb dL_isLine_22 rfl (lv_at hl 2 rfl) ?_
          refine lv_iload_n hx hb dL_isLine_23 rfl (lv_at hl 3 rfl) ?_
          have hP : va_P D vwCl (SW ct sb sz (YW ct a y (KR a b rs (BW ct a d bz (IW ct i (xE g) iv (LW ct lb lz (YW ct sa sy (XO x a sa h b d i lb xv (HW ct h ha hz R))))))))) H := zPp (zF8 (YW ct a y []) (KR a b rs []) (BW ct a d bz []) (IW ct i (xE g) iv []) (LW ct lb lz []) (YW ct sa sy []) (XO x a sa h b d i lb xv []) (HWl ct h ha hz) (SW ct sb sz []) (R)) hP
          have hD : va_D A (SW ct sb sz (YW ct a y (KR a b rs (BW ct a d bz (IW ct i (xE g) iv (LW ct lb lz (YW ct sa sy (XO x a sa h b d i lb xv (HW ct h ha hz R))))))))) := zDp (zF8 (YW ct a y []) (KR a b rs []) (BW ct a d bz []) (IW ct i (xE g) iv []) (LW ct lb lz []) (YW ct sa sy []) (XO x a sa h b d i lb xv []) (HWl ct h ha hz) (SW ct sb sz []) (R)) hD
          refine zVIX [.int (nI (iq))] [.int (nI ((tx).getD (iq) 0))] (kJ0_charAt_5068e_t (sb) (sz) (YW ct a y (KR a b rs (BW ct a d bz (IW ct i (xE g) iv (LW ct lb lz (YW ct sa sy (XO x a sa h b d i lb xv (HW ct h ha hz R)))))))) (iq) (tx) (show SR (tx) sz from hT) (show (iq) < (tx).length from (by omega))) hx hb hml hown hts (cwV 1 hts gL_isLine_J0_charAt_5068e rfl rfl rfl (by decide +kernel) ⟨(Nat.le_of_ble_eq_true rfl), (Nat.le_of_ble_eq_true rfl)⟩) hK hP hD hS hA hX (va_recv hK hP (ci := 10) (q0 := 0) rfl rfl) rfl hl.1 rfl (Nat.le_of_ble_eq_true rfl) dL_isLine_24 ⟨(Nat.le_of_ble_eq_true rfl), (Nat.le_of_ble_eq_true rfl)⟩ (fun r_24 _ H locs hr_24 hP hD hS => ?_)
          subst hr_24
          have hP : va_P D vwCl (SW ct sb sz (YW ct a y (KR a b rs (BW ct a d bz (IW ct i (xE g) iv (LW ct lb lz (YW ct sa sy (XO x a sa h b d i lb xv (HW ct h ha hz R))))))))) H := hP
          have hD : va_D A (SW ct sb sz (YW ct a y (KR a b rs (BW ct a d bz (IW ct i (xE g) iv (LW ct lb lz (YW ct sa sy (XO x a sa h b d i lb xv (HW ct h ha hz R))))))))) := hD
          have hP : va_P D vwCl (YW ct a y (KR a b rs (BW ct a d bz (IW ct i (xE g) iv (LW ct lb lz (YW ct sa sy (XO x a sa h b d i lb xv (HW ct h ha hz (SW ct sb sz R))))))))) H := zPp (zF8 (YW ct a y []) (KR a b rs []) (BW ct a d bz []) (IW ct i (xE g) iv []) (LW ct lb lz []) (YW ct sa sy []) (XO x a sa h b d i lb xv []) (HWl ct h ha hz) (SW ct sb sz []) (R)).symm hP
          have hD : va_D A (YW ct a y (KR a b rs (BW ct a d bz (IW ct i (xE g) iv (LW ct lb lz (YW ct sa sy (XO x a sa h b d i lb xv (HW ct h ha hz (SW ct sb sz R))))))))) := zDp (zF8 (YW ct a y []) (KR a b rs []) (BW ct a d bz []) (IW ct i (xE g) iv []) (LW ct lb lz []) (YW ct sa sy []) (XO x a sa h b d i lb xv []) (HWl ct h ha hz) (SW ct sb sz []) (R)).symm hD
          refine lv_icmp_eq (tgt := 32) hx hb dL_isLine_27 (by decide) (fun c9 => ?_) (fun c9 => absurd rfl c9)
          refine lv_iinc (v := nI ((iq + 1))) (lv' := [(3, .int (nI ((iq + 1)))), (0, .ref (x 0)), (1, .int (nI (ln))), (2, .ref (sb 0))]) hx hb dL_isLine_32 hl (k := 3) rfl (zInc _) (by decide) rfl (fun ls hl => ?_)
          refine lv_goto (tgt := 12) hx hb dL_isLine_35 (by decide) ?_
          exact ih12 ((iq + 1)) H locs ls (by omega) (by omega) hP hD hS (lv_sub hl [1, 2, 3, 0] rfl)
    exact lp12 ((ln - (0)) + 1) (0) H locs ls (by omega) (Nat.lt_succ_self _) hP hD hS (lv_sub hl [1, 2, 3, 0] rfl)
  · skip
    exact absurd (show ln = s_n sz by omega) c5_1
