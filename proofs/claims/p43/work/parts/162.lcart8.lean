/-! THE LAW'S BODY: a cart's sums -/
theorem wear_in {y : YS} {c : Nat} {z : Int32} (hc : c < y_cn y) (hcn : y_cn y ≤ 4) : a_wear y (nI c) z = y_wr y (wix c z) := by
  unfold a_wear; rw [if_pos (p_inN hc (by omega)), show ixI (nI c) = c from nI_clamp (by omega)]
set_option maxHeartbeats 4000000 in
set_option maxRecDepth 100000 in
theorem law_k8 {D : va_G} {ct : Nat → ClassId} {g : XG} {p : Program} {l : Launch} {e : Env} {s : State} {m : MethodId} {args : Array Value} {below : List Frame} {meth : Method} {c : Code} {A : Nat → Prop} {Q : State → Prop} (hx : p.tables.exec = Jvm.exec) (hb : c.code = cL_law) (hml : c.maxLocals = 27) (hown : s.vm.findClass RL = some m.cls) (hts : ∀ w ∈ wsL_law, w.before args s = true) (hK : zK D ct s) (hA : ∀ q, s.heap.size ≤ q → A q) (hX : zX g A s s.heap) (a : Nat → Nat) (y : YS) (b : Nat → Nat) (rs : RS) (d : Nat → Nat) (bz : BS) (i : Nat → Nat) (iv : IS) (lb : Nat → Nat) (lz : LST) (sa : Nat → Nat) (sy : YS) (x : Nat → Nat) (xv : Int32 × Int32) (h : Nat → Nat) (ha : Nat → Nat → Nat) (hz : HS) (R : va_W) (t cz cr wo : Nat) (we tr : Int32) (tx0 : List Nat) (hK4 : K43 y) (hZ : zT9 g s) (hL0 : LR tx0 lz) (hc : cz < y_cn y) (cc ss : Nat) (hcc : cc + 0 ≤ room_1.cells) (hss : ss + 0 ≤ room_1.slots) (go192 : ∀ (wo1 : Nat) (H : Heap) (locs : List Loc) (ls : Array Slot), wo1 = wo + t_wn y cz → va_P D vwCl (YW ct a y (KR a b rs (BW ct a d bz (IW ct i (xE g) iv (LW ct lb lz (YW ct sa sy (XO x a sa h b d i lb xv (HW ct h ha hz R)))))))) H → va_D A (YW ct a y (KR a b rs (BW ct a d bz (IW ct i (xE g) iv (LW ct lb lz (YW ct sa sy (XO x a sa h b d i lb xv (HW ct h ha hz R)))))))) → va_S A s.heap H locs → lv_has ls 27 [(1, .ref (x 0)), (0, .ref (xB g)), (2, .int (nI (t))), (3, .int (nI (y_n y))), (4, .int (nI (y_cn y))), (5, .int (nI (t_tk y (nI 0)))), (6, .int (nI (t_tc y))), (7, .int ((we + (t_all y (nI cz))))), (8, .int ((t_sw y))), (9, .int (nI ((cr + t_cr y cz)))), (10, .int (nI (wo1))), (11, .int ((tr + (y_tr y cz)))), (12, .int (nI ((cz + 1))))] → W p l e room_1 s m args below meth c H locs cc ss Q (F0 m 192 ls [])) (H : Heap) (locs : List Loc) (ls : Array Slot) (hP : va_P D vwCl (YW ct a y (KR a b rs (BW ct a d bz (IW ct i (xE g) iv (LW ct lb lz (YW ct sa sy (XO x a sa h b d i lb xv (HW ct h ha hz R)))))))) H) (hD : va_D A (YW ct a y (KR a b rs (BW ct a d bz (IW ct i (xE g) iv (LW ct lb lz (YW ct sa sy (XO x a sa h b d i lb xv (HW ct h ha hz R))))))))) (hS : va_S A s.heap H locs) (hl : lv_has ls 27 [(1, .ref (x 0)), (0, .ref (xB g)), (2, .int (nI (t))), (3, .int (nI (y_n y))), (4, .int (nI (y_cn y))), (5, .int (nI (t_tk y (nI 0)))), (6, .int (nI (t_tc y))), (7, .int (we)), (8, .int ((t_sw y))), (9, .int (nI (cr))), (10, .int (nI (wo))), (11, .int (tr)), (12, .int (nI (cz))), (17, .int ((t_all y (nI cz))))]) : W p l e room_1 s m args below meth c H locs cc ss Q (F0 m 921 ls []) := by
  have hJ4 := hK4.1
  obtain ⟨hy, hf⟩ := yJ_i hJ4
  have hD4 : yD y := yJ_D hJ4
  have hrn2 : y_rn y = 2 := hK4.2.2.2.2
  have hix := ixp_len (y := y) (x := nI cz) 6
  have hkd : ∀ j9, j9 < y_n y → y_kd y j9 = nI 0 ∨ y_kd y j9 = nI 1 := fun j9 hj9 => (hy.2.2.2.1 j9 hj9).1
  have hn : y_n y ≤ 12 := hy.1
  have hcn : y_cn y ≤ 4 := hy.2.1
  have hrn : y_rn y ≤ 5 := hy.2.2.1
  have fl0 : (fmL 0).length = 1 := rfl
  have fl1 : (fmL 1).length = 1 := rfl
  have fl2 : (fmL 2).length = 0 := rfl
  have fl3 : (fmL 3).length = 1 := rfl
  have fl4 : (fmL 4).length = 1 := rfl
  have fl5 : (fmL 5).length = 1 := rfl
  have fl6 : (fmL 6).length = 1 := rfl
  have fl7 : (fmL 7).length = 1 := rfl
  have fl8 : (fmL 8).length = 1 := rfl
  refine lv_iload hx hb dL_law_921 (lv_at hl 7 rfl) ?_
  refine lv_iload hx hb dL_law_923 (lv_at hl 13 rfl) ?_
  refine lv_iadd hx hb dL_law_925 ?_
  refine lv_istore (lv' := [(7, .int ((we + (t_all y (nI cz))))), (1, .ref (x 0)), (0, .ref (xB g)), (2, .int (nI (t))), (3, .int (nI (y_n y))), (4, .int (nI (y_cn y))), (5, .int (nI (t_tk y (nI 0)))), (6, .int (nI (t_tc y))), (8, .int ((t_sw y))), (9, .int (nI (cr))), (10, .int (nI (wo))), (11, .int (tr)), (12, .int (nI (cz))), (17, .int ((t_all y (nI cz))))]) hx hb dL_law_926 hl (by decide) rfl (fun ls hl => ?_)
  refine lv_iload hx hb dL_law_928 (lv_at hl 9 rfl) ?_
  refine lv_aload_n hx hb dL_law_930 rfl (lv_at hl 1 rfl) ?_
  refine lv_iload hx hb dL_law_931 (lv_at hl 12 rfl) ?_
  refine lv_bipush (v := nI (7)) hx hb dL_law_933 (by decide) ?_
  refine zVIX [.int (nI (cz)), .int (nI (7))] [.int (nI (cr))] (kX10_cartOf (a) (y) (b) (rs) (d) (bz) (i) (iv) (lb) (lz) (sa) (sy) (x) (xv) (h) (ha) (hz) (R) (nI (cz)) (nI (7)) (show yI y from hy) (show yF y from hf)) hx hb hml hown hts (cwV 2 hts gL_law_X10_cartOf rfl rfl rfl (by decide +kernel) ⟨(Nat.le_of_ble_eq_true rfl), (Nat.le_of_ble_eq_true rfl)⟩) hK hP hD hS hA hX (va_recv hK hP (ci := 9) (q0 := 38) rfl rfl) rfl hl.1 rfl (Nat.le_of_ble_eq_true rfl) dL_law_935 ⟨(by show cc + 0 ≤ room_1.cells; omega), (by show ss + 0 ≤ room_1.slots; omega)⟩ (fun r_935 _ H locs hr_935 hP hD hS => ?_)
  subst hr_935
  have hP : va_P D vwCl (YW ct a y (KR a b rs (BW ct a d bz (IW ct i (xE g) iv (LW ct lb lz (YW ct sa sy (XO x a sa h b d i lb xv (HW ct h ha hz R)))))))) H := hP
  have hD : va_D A (YW ct a y (KR a b rs (BW ct a d bz (IW ct i (xE g) iv (LW ct lb lz (YW ct sa sy (XO x a sa h b d i lb xv (HW ct h ha hz R)))))))) := hD
  refine zTop (y := nI (t_cr y cz)) (a_ct hc hcn).2.2.2.2.2.2.2 ?_
  refine zNadd hx hb dL_law_938 ?_
  refine lv_istore (lv' := [(9, .int (nI ((cr + t_cr y cz)))), (7, .int ((we + (t_all y (nI cz))))), (1, .ref (x 0)), (0, .ref (xB g)), (2, .int (nI (t))), (3, .int (nI (y_n y))), (4, .int (nI (y_cn y))), (5, .int (nI (t_tk y (nI 0)))), (6, .int (nI (t_tc y))), (8, .int ((t_sw y))), (10, .int (nI (wo))), (11, .int (tr)), (12, .int (nI (cz))), (17, .int ((t_all y (nI cz))))]) hx hb dL_law_939 hl (by decide) rfl (fun ls hl => ?_)
  refine lv_iload hx hb dL_law_941 (lv_at hl 10 rfl) ?_
  refine lv_aload_n hx hb dL_law_943 rfl (lv_at hl 2 rfl) ?_
  refine lv_iload hx hb dL_law_944 (lv_at hl 12 rfl) ?_
  refine lv_iconst (v := nI (0)) hx hb dL_law_946 (by decide) ?_
  refine zVFX [.int (nI (cz)), .int (nI (0))] [.int (nI (wo))] (kX10_wear (a) (y) (b) (rs) (d) (bz) (i) (iv) (lb) (lz) (sa) (sy) (x) (xv) (h) (ha) (hz) (R) (nI (cz)) (nI (0)) (show yI y from hy) (show yF y from hf)) hx hb hml hown hts (cwV 2 hts gL_law_X10_wear rfl rfl rfl (by decide +kernel) ⟨(Nat.le_of_ble_eq_true rfl), (Nat.le_of_ble_eq_true rfl)⟩) hK hP hD hS hA hX (va_recv hK hP (ci := 9) (q0 := 38) rfl rfl) rfl hl.1 rfl (Nat.le_of_ble_eq_true rfl) dL_law_947 ⟨(by show cc + 0 ≤ room_1.cells; omega), (by show ss + 0 ≤ room_1.slots; omega)⟩ (fun r_947 _ H locs hr_947 hP hD hS => ?_)
  subst hr_947
  have hP : va_P D vwCl (YW ct a y (KR a b rs (BW ct a d bz (IW ct i (xE g) iv (LW ct lb lz (YW ct sa sy (XO x a sa h b d i lb xv (HW ct h ha hz R)))))))) H := hP
  have hD : va_D A (YW ct a y (KR a b rs (BW ct a d bz (IW ct i (xE g) iv (LW ct lb lz (YW ct sa sy (XO x a sa h b d i lb xv (HW ct h ha hz R)))))))) := hD
  rw [wear_in (z := nI 0) hc hcn]
  refine lv_fconst1 hx hb dL_law_950 ?_
  refine lv_fcmp hx hb dL_law_951 ?_
  refine lv_if_lt (tgt := 959) hx hb dL_law_952 (by decide) (fun c952_1 => ?_) (fun c952_1 => ?_)
  · skip
    refine lv_iconst (v := nI (0)) hx hb dL_law_959 (by decide) ?_
    refine lv_aload_n hx hb dL_law_960 rfl (lv_at hl 2 rfl) ?_
    refine lv_iload hx hb dL_law_961 (lv_at hl 12 rfl) ?_
    refine lv_iconst (v := nI (1)) hx hb dL_law_963 (by decide) ?_
    refine zVFX [.int (nI (cz)), .int (nI (1))] [.int (nI (0)), .int (nI (wo))] (kX10_wear (a) (y) (b) (rs) (d) (bz) (i) (iv) (lb) (lz) (sa) (sy) (x) (xv) (h) (ha) (hz) (R) (nI (cz)) (nI (1)) (show yI y from hy) (show yF y from hf)) hx hb hml hown hts (cwV 2 hts gL_law_X10_wear rfl rfl rfl (by decide +kernel) ⟨(Nat.le_of_ble_eq_true rfl), (Nat.le_of_ble_eq_true rfl)⟩) hK hP hD hS hA hX (va_recv hK hP (ci := 9) (q0 := 38) rfl rfl) rfl hl.1 rfl (Nat.le_of_ble_eq_true rfl) dL_law_964 ⟨(by show cc + 0 ≤ room_1.cells; omega), (by show ss + 0 ≤ room_1.slots; omega)⟩ (fun r_964 _ H locs hr_964 hP hD hS => ?_)
    subst hr_964
    have hP : va_P D vwCl (YW ct a y (KR a b rs (BW ct a d bz (IW ct i (xE g) iv (LW ct lb lz (YW ct sa sy (XO x a sa h b d i lb xv (HW ct h ha hz R)))))))) H := hP
    have hD : va_D A (YW ct a y (KR a b rs (BW ct a d bz (IW ct i (xE g) iv (LW ct lb lz (YW ct sa sy (XO x a sa h b d i lb xv (HW ct h ha hz R)))))))) := hD
    rw [wear_in (z := nI 1) hc hcn]
    refine lv_fconst1 hx hb dL_law_967 ?_
    refine lv_fcmp hx hb dL_law_968 ?_
    refine lv_if_lt (tgt := 976) hx hb dL_law_969 (by decide) (fun c969_2 => ?_) (fun c969_2 => ?_)
    · skip
      refine lv_iconst (v := nI (0)) hx hb dL_law_976 (by decide) ?_
      refine zNadd hx hb dL_law_977 ?_
      refine zNadd hx hb dL_law_978 ?_
      refine lv_istore (lv' := [(10, .int (nI ((wo + (0 + 0))))), (9, .int (nI ((cr + t_cr y cz)))), (7, .int ((we + (t_all y (nI cz))))), (1, .ref (x 0)), (0, .ref (xB g)), (2, .int (nI (t))), (3, .int (nI (y_n y))), (4, .int (nI (y_cn y))), (5, .int (nI (t_tk y (nI 0)))), (6, .int (nI (t_tc y))), (8, .int ((t_sw y))), (11, .int (tr)), (12, .int (nI (cz))), (17, .int ((t_all y (nI cz))))]) hx hb dL_law_979 hl (by decide) rfl (fun ls hl => ?_)
      refine lv_iload hx hb dL_law_981 (lv_at hl 11 rfl) ?_
      refine lv_aload_n hx hb dL_law_983 rfl (lv_at hl 3 rfl) ?_
      refine lv_iload hx hb dL_law_984 (lv_at hl 12 rfl) ?_
      refine lv_iconst (v := nI (5)) hx hb dL_law_986 (by decide) ?_
      refine zVIX [.int (nI (cz)), .int (nI (5))] [.int (tr)] (kX10_cartOf (a) (y) (b) (rs) (d) (bz) (i) (iv) (lb) (lz) (sa) (sy) (x) (xv) (h) (ha) (hz) (R) (nI (cz)) (nI (5)) (show yI y from hy) (show yF y from hf)) hx hb hml hown hts (cwV 2 hts gL_law_X10_cartOf rfl rfl rfl (by decide +kernel) ⟨(Nat.le_of_ble_eq_true rfl), (Nat.le_of_ble_eq_true rfl)⟩) hK hP hD hS hA hX (va_recv hK hP (ci := 9) (q0 := 38) rfl rfl) rfl hl.1 rfl (Nat.le_of_ble_eq_true rfl) dL_law_987 ⟨(by show cc + 0 ≤ room_1.cells; omega), (by show ss + 0 ≤ room_1.slots; omega)⟩ (fun r_987 _ H locs hr_987 hP hD hS => ?_)
      subst hr_987
      have hP : va_P D vwCl (YW ct a y (KR a b rs (BW ct a d bz (IW ct i (xE g) iv (LW ct lb lz (YW ct sa sy (XO x a sa h b d i lb xv (HW ct h ha hz R)))))))) H := hP
      have hD : va_D A (YW ct a y (KR a b rs (BW ct a d bz (IW ct i (xE g) iv (LW ct lb lz (YW ct sa sy (XO x a sa h b d i lb xv (HW ct h ha hz R)))))))) := hD
      refine zTop (y := (y_tr y cz)) (a_ct hc hcn).2.2.2.2.2.1 ?_
      refine lv_iadd hx hb dL_law_990 ?_
      refine lv_istore (lv' := [(11, .int ((tr + (y_tr y cz)))), (10, .int (nI ((wo + (0 + 0))))), (9, .int (nI ((cr + t_cr y cz)))), (7, .int ((we + (t_all y (nI cz))))), (1, .ref (x 0)), (0, .ref (xB g)), (2, .int (nI (t))), (3, .int (nI (y_n y))), (4, .int (nI (y_cn y))), (5, .int (nI (t_tk y (nI 0)))), (6, .int (nI (t_tc y))), (8, .int ((t_sw y))), (12, .int (nI (cz))), (17, .int ((t_all y (nI cz))))]) hx hb dL_law_991 hl (by decide) rfl (fun ls hl => ?_)
      refine lv_iinc (v := nI ((cz + 1))) (lv' := [(12, .int (nI ((cz + 1)))), (11, .int ((tr + (y_tr y cz)))), (10, .int (nI ((wo + (0 + 0))))), (9, .int (nI ((cr + t_cr y cz)))), (7, .int ((we + (t_all y (nI cz))))), (1, .ref (x 0)), (0, .ref (xB g)), (2, .int (nI (t))), (3, .int (nI (y_n y))), (4, .int (nI (y_cn y))), (5, .int (nI (t_tk y (nI 0)))), (6, .int (nI (t_tc y))), (8, .int ((t_sw y))), (17, .int ((t_all y (nI cz))))]) hx hb dL_law_993 hl (k := 12) rfl (zInc _) (by decide) rfl (fun ls hl => ?_)
      refine lv_goto (tgt := 192) hx hb dL_law_996 (by decide) ?_
      exact go192 (wo + (0 + 0)) H locs ls (by rw [t_wn, if_neg (show ¬ p_worn (y_wr y (wix cz (nI 0))) from fun q => q c952_1), if_neg (show ¬ p_worn (y_wr y (wix cz (nI 1))) from fun q => q c969_2)]) hP hD hS (lv_sub hl [5, 6, 7, 8, 9, 10, 11, 4, 12, 3, 2, 1, 0] rfl)
    · skip
      refine lv_iconst (v := nI (1)) hx hb dL_law_972 (by decide) ?_
      refine lv_goto (tgt := 977) hx hb dL_law_973 (by decide) ?_
      refine zNadd hx hb dL_law_977 ?_
      refine zNadd hx hb dL_law_978 ?_
      refine lv_istore (lv' := [(10, .int (nI ((wo + (0 + 1))))), (9, .int (nI ((cr + t_cr y cz)))), (7, .int ((we + (t_all y (nI cz))))), (1, .ref (x 0)), (0, .ref (xB g)), (2, .int (nI (t))), (3, .int (nI (y_n y))), (4, .int (nI (y_cn y))), (5, .int (nI (t_tk y (nI 0)))), (6, .int (nI (t_tc y))), (8, .int ((t_sw y))), (11, .int (tr)), (12, .int (nI (cz))), (17, .int ((t_all y (nI cz))))]) hx hb dL_law_979 hl (by decide) rfl (fun ls hl => ?_)
      refine lv_iload hx hb dL_law_981 (lv_at hl 11 rfl) ?_
      refine lv_aload_n hx hb dL_law_983 rfl (lv_at hl 3 rfl) ?_
      refine lv_iload hx hb dL_law_984 (lv_at hl 12 rfl) ?_
      refine lv_iconst (v := nI (5)) hx hb dL_law_986 (by decide) ?_
      refine zVIX [.int (nI (cz)), .int (nI (5))] [.int (tr)] (kX10_cartOf (a) (y) (b) (rs) (d) (bz) (i) (iv) (lb) (lz) (sa) (sy) (x) (xv) (h) (ha) (hz) (R) (nI (cz)) (nI (5)) (show yI y from hy) (show yF y from hf)) hx hb hml hown hts (cwV 2 hts gL_law_X10_cartOf rfl rfl rfl (by decide +kernel) ⟨(Nat.le_of_ble_eq_true rfl), (Nat.le_of_ble_eq_true rfl)⟩) hK hP hD hS hA hX (va_recv hK hP (ci := 9) (q0 := 38) rfl rfl) rfl hl.1 rfl (Nat.le_of_ble_eq_true rfl) dL_law_987 ⟨(by show cc + 0 ≤ room_1.cells; omega), (by show ss + 0 ≤ room_1.slots; omega)⟩ (fun r_987 _ H locs hr_987 hP hD hS => ?_)
      subst hr_987
      have hP : va_P D vwCl (YW ct a y (KR a b rs (BW ct a d bz (IW ct i (xE g) iv (LW ct lb lz (YW ct sa sy (XO x a sa h b d i lb xv (HW ct h ha hz R)))))))) H := hP
      have hD : va_D A (YW ct a y (KR a b rs (BW ct a d bz (IW ct i (xE g) iv (LW ct lb lz (YW ct sa sy (XO x a sa h b d i lb xv (HW ct h ha hz R)))))))) := hD
      refine zTop (y := (y_tr y cz)) (a_ct hc hcn).2.2.2.2.2.1 ?_
      refine lv_iadd hx hb dL_law_990 ?_
      refine lv_istore (lv' := [(11, .int ((tr + (y_tr y cz)))), (10, .int (nI ((wo + (0 + 1))))), (9, .int (nI ((cr + t_cr y cz)))), (7, .int ((we + (t_all y (nI cz))))), (1, .ref (x 0)), (0, .ref (xB g)), (2, .int (nI (t))), (3, .int (nI (y_n y))), (4, .int (nI (y_cn y))), (5, .int (nI (t_tk y (nI 0)))), (6, .int (nI (t_tc y))), (8, .int ((t_sw y))), (12, .int (nI (cz))), (17, .int ((t_all y (nI cz))))]) hx hb dL_law_991 hl (by decide) rfl (fun ls hl => ?_)
      refine lv_iinc (v := nI ((cz + 1))) (lv' := [(12, .int (nI ((cz + 1)))), (11, .int ((tr + (y_tr y cz)))), (10, .int (nI ((wo + (0 + 1))))), (9, .int (nI ((cr + t_cr y cz)))), (7, .int ((we + (t_all y (nI cz))))), (1, .ref (x 0)), (0, .ref (xB g)), (2, .int (nI (t))), (3, .int (nI (y_n y))), (4, .int (nI (y_cn y))), (5, .int (nI (t_tk y (nI 0)))), (6, .int (nI (t_tc y))), (8, .int ((t_sw y))), (17, .int ((t_all y (nI cz))))]) hx hb dL_law_993 hl (k := 12) rfl (zInc _) (by decide) rfl (fun ls hl => ?_)
      refine lv_goto (tgt := 192) hx hb dL_law_996 (by decide) ?_
      exact go192 (wo + (0 + 1)) H locs ls (by rw [t_wn, if_neg (show ¬ p_worn (y_wr y (wix cz (nI 0))) from fun q => q c952_1), if_pos (show p_worn (y_wr y (wix cz (nI 1))) from c969_2)]) hP hD hS (lv_sub hl [5, 6, 7, 8, 9, 10, 11, 4, 12, 3, 2, 1, 0] rfl)
  · skip
    refine lv_iconst (v := nI (1)) hx hb dL_law_955 (by decide) ?_
    refine lv_goto (tgt := 960) hx hb dL_law_956 (by decide) ?_
    refine lv_aload_n hx hb dL_law_960 rfl (lv_at hl 2 rfl) ?_
    refine lv_iload hx hb dL_law_961 (lv_at hl 12 rfl) ?_
    refine lv_iconst (v := nI (1)) hx hb dL_law_963 (by decide) ?_
    refine zVFX [.int (nI (cz)), .int (nI (1))] [.int (nI (1)), .int (nI (wo))] (kX10_wear (a) (y) (b) (rs) (d) (bz) (i) (iv) (lb) (lz) (sa) (sy) (x) (xv) (h) (ha) (hz) (R) (nI (cz)) (nI (1)) (show yI y from hy) (show yF y from hf)) hx hb hml hown hts (cwV 2 hts gL_law_X10_wear rfl rfl rfl (by decide +kernel) ⟨(Nat.le_of_ble_eq_true rfl), (Nat.le_of_ble_eq_true rfl)⟩) hK hP hD hS hA hX (va_recv hK hP (ci := 9) (q0 := 38) rfl rfl) rfl hl.1 rfl (Nat.le_of_ble_eq_true rfl) dL_law_964 ⟨(by show cc + 0 ≤ room_1.cells; omega), (by show ss + 0 ≤ room_1.slots; omega)⟩ (fun r_964 _ H locs hr_964 hP hD hS => ?_)
    subst hr_964
    have hP : va_P D vwCl (YW ct a y (KR a b rs (BW ct a d bz (IW ct i (xE g) iv (LW ct lb lz (YW ct sa sy (XO x a sa h b d i lb xv (HW ct h ha hz R)))))))) H := hP
    have hD : va_D A (YW ct a y (KR a b rs (BW ct a d bz (IW ct i (xE g) iv (LW ct lb lz (YW ct sa sy (XO x a sa h b d i lb xv (HW ct h ha hz R)))))))) := hD
    rw [wear_in (z := nI 1) hc hcn]
    refine lv_fconst1 hx hb dL_law_967 ?_
    refine lv_fcmp hx hb dL_law_968 ?_
    refine lv_if_lt (tgt := 976) hx hb dL_law_969 (by decide) (fun c969_3 => ?_) (fun c969_3 => ?_)
    · skip
      refine lv_iconst (v := nI (0)) hx hb dL_law_976 (by decide) ?_
      refine zNadd hx hb dL_law_977 ?_
      refine zNadd hx hb dL_law_978 ?_
      refine lv_istore (lv' := [(10, .int (nI ((wo + (1 + 0))))), (9, .int (nI ((cr + t_cr y cz)))), (7, .int ((we + (t_all y (nI cz))))), (1, .ref (x 0)), (0, .ref (xB g)), (2, .int (nI (t))), (3, .int (nI (y_n y))), (4, .int (nI (y_cn y))), (5, .int (nI (t_tk y (nI 0)))), (6, .int (nI (t_tc y))), (8, .int ((t_sw y))), (11, .int (tr)), (12, .int (nI (cz))), (17, .int ((t_all y (nI cz))))]) hx hb dL_law_979 hl (by decide) rfl (fun ls hl => ?_)
      refine lv_iload hx hb dL_law_981 (lv_at hl 11 rfl) ?_
      refine lv_aload_n hx hb dL_law_983 rfl (lv_at hl 3 rfl) ?_
      refine lv_iload hx hb dL_law_984 (lv_at hl 12 rfl) ?_
      refine lv_iconst (v := nI (5)) hx hb dL_law_986 (by decide) ?_
      refine zVIX [.int (nI (cz)), .int (nI (5))] [.int (tr)] (kX10_cartOf (a) (y) (b) (rs) (d) (bz) (i) (iv) (lb) (lz) (sa) (sy) (x) (xv) (h) (ha) (hz) (R) (nI (cz)) (nI (5)) (show yI y from hy) (show yF y from hf)) hx hb hml hown hts (cwV 2 hts gL_law_X10_cartOf rfl rfl rfl (by decide +kernel) ⟨(Nat.le_of_ble_eq_true rfl), (Nat.le_of_ble_eq_true rfl)⟩) hK hP hD hS hA hX (va_recv hK hP (ci := 9) (q0 := 38) rfl rfl) rfl hl.1 rfl (Nat.le_of_ble_eq_true rfl) dL_law_987 ⟨(by show cc + 0 ≤ room_1.cells; omega), (by show ss + 0 ≤ room_1.slots; omega)⟩ (fun r_987 _ H locs hr_987 hP hD hS => ?_)
      subst hr_987
      have hP : va_P D vwCl (YW ct a y (KR a b rs (BW ct a d bz (IW ct i (xE g) iv (LW ct lb lz (YW ct sa sy (XO x a sa h b d i lb xv (HW ct h ha hz R)))))))) H := hP
      have hD : va_D A (YW ct a y (KR a b rs (BW ct a d bz (IW ct i (xE g) iv (LW ct lb lz (YW ct sa sy (XO x a sa h b d i lb xv (HW ct h ha hz R)))))))) := hD
      refine zTop (y := (y_tr y cz)) (a_ct hc hcn).2.2.2.2.2.1 ?_
      refine lv_iadd hx hb dL_law_990 ?_
      refine lv_istore (lv' := [(11, .int ((tr + (y_tr y cz)))), (10, .int (nI ((wo + (1 + 0))))), (9, .int (nI ((cr + t_cr y cz)))), (7, .int ((we + (t_all y (nI cz))))), (1, .ref (x 0)), (0, .ref (xB g)), (2, .int (nI (t))), (3, .int (nI (y_n y))), (4, .int (nI (y_cn y))), (5, .int (nI (t_tk y (nI 0)))), (6, .int (nI (t_tc y))), (8, .int ((t_sw y))), (12, .int (nI (cz))), (17, .int ((t_all y (nI cz))))]) hx hb dL_law_991 hl (by decide) rfl (fun ls hl => ?_)
      refine lv_iinc (v := nI ((cz + 1))) (lv' := [(12, .int (nI ((cz + 1)))), (11, .int ((tr + (y_tr y cz)))), (10, .int (nI ((wo + (1 + 0))))), (9, .int (nI ((cr + t_cr y cz)))), (7, .int ((we + (t_all y (nI cz))))), (1, .ref (x 0)), (0, .ref (xB g)), (2, .int (nI (t))), (3, .int (nI (y_n y))), (4, .int (nI (y_cn y))), (5, .int (nI (t_tk y (nI 0)))), (6, .int (nI (t_tc y))), (8, .int ((t_sw y))), (17, .int ((t_all y (nI cz))))]) hx hb dL_law_993 hl (k := 12) rfl (zInc _) (by decide) rfl (fun ls hl => ?_)
      refine lv_goto (tgt := 192) hx hb dL_law_996 (by decide) ?_
      exact go192 (wo + (1 + 0)) H locs ls (by rw [t_wn, if_pos (show p_worn (y_wr y (wix cz (nI 0))) from c952_1), if_neg (show ¬ p_worn (y_wr y (wix cz (nI 1))) from fun q => q c969_3)]) hP hD hS (lv_sub hl [5, 6, 7, 8, 9, 10, 11, 4, 12, 3, 2, 1, 0] rfl)
    · skip
      refine lv_iconst (v := nI (1)) hx hb dL_law_972 (by decide) ?_
      refine lv_goto (tgt := 977) hx hb dL_law_973 (by decide) ?_
      refine zNadd hx hb dL_law_977 ?_
      refine zNadd hx hb dL_law_978 ?_
      refine lv_istore (lv' := [(10, .int (nI ((wo + (1 + 1))))), (9, .int (nI ((cr + t_cr y cz)))), (7, .int ((we + (t_all y (nI cz))))), (1, .ref (x 0)), (0, .ref (xB g)), (2, .int (nI (t))), (3, .int (nI (y_n y))), (4, .int (nI (y_cn y))), (5, .int (nI (t_tk y (nI 0)))), (6, .int (nI (t_tc y))), (8, .int ((t_sw y))), (11, .int (tr)), (12, .int (nI (cz))), (17, .int ((t_all y (nI cz))))]) hx hb dL_law_979 hl (by decide) rfl (fun ls hl => ?_)
      refine lv_iload hx hb dL_law_981 (lv_at hl 11 rfl) ?_
      refine lv_aload_n hx hb dL_law_983 rfl (lv_at hl 3 rfl) ?_
      refine lv_iload hx hb dL_law_984 (lv_at hl 12 rfl) ?_
      refine lv_iconst (v := nI (5)) hx hb dL_law_986 (by decide) ?_
      refine zVIX [.int (nI (cz)), .int (nI (5))] [.int (tr)] (kX10_cartOf (a) (y) (b) (rs) (d) (bz) (i) (iv) (lb) (lz) (sa) (sy) (x) (xv) (h) (ha) (hz) (R) (nI (cz)) (nI (5)) (show yI y from hy) (show yF y from hf)) hx hb hml hown hts (cwV 2 hts gL_law_X10_cartOf rfl rfl rfl (by decide +kernel) ⟨(Nat.le_of_ble_eq_true rfl), (Nat.le_of_ble_eq_true rfl)⟩) hK hP hD hS hA hX (va_recv hK hP (ci := 9) (q0 := 38) rfl rfl) rfl hl.1 rfl (Nat.le_of_ble_eq_true rfl) dL_law_987 ⟨(by show cc + 0 ≤ room_1.cells; omega), (by show ss + 0 ≤ room_1.slots; omega)⟩ (fun r_987 _ H locs hr_987 hP hD hS => ?_)
      subst hr_987
      have hP : va_P D vwCl (YW ct a y (KR a b rs (BW ct a d bz (IW ct i (xE g) iv (LW ct lb lz (YW ct sa sy (XO x a sa h b d i lb xv (HW ct h ha hz R)))))))) H := hP
      have hD : va_D A (YW ct a y (KR a b rs (BW ct a d bz (IW ct i (xE g) iv (LW ct lb lz (YW ct sa sy (XO x a sa h b d i lb xv (HW ct h ha hz R)))))))) := hD
      refine zTop (y := (y_tr y cz)) (a_ct hc hcn).2.2.2.2.2.1 ?_
      refine lv_iadd hx hb dL_law_990 ?_
      refine lv_istore (lv' := [(11, .int ((tr + (y_tr y cz)))), (10, .int (nI ((wo + (1 + 1))))), (9, .int (nI ((cr + t_cr y cz)))), (7, .int ((we + (t_all y (nI cz))))), (1, .ref (x 0)), (0, .ref (xB g)), (2, .int (nI (t))), (3, .int (nI (y_n y))), (4, .int (nI (y_cn y))), (5, .int (nI (t_tk y (nI 0)))), (6, .int (nI (t_tc y))), (8, .int ((t_sw y))), (12, .int (nI (cz))), (17, .int ((t_all y (nI cz))))]) hx hb dL_law_991 hl (by decide) rfl (fun ls hl => ?_)
      refine lv_iinc (v := nI ((cz + 1))) (lv' := [(12, .int (nI ((cz + 1)))), (11, .int ((tr + (y_tr y cz)))), (10, .int (nI ((wo + (1 + 1))))), (9, .int (nI ((cr + t_cr y cz)))), (7, .int ((we + (t_all y (nI cz))))), (1, .ref (x 0)), (0, .ref (xB g)), (2, .int (nI (t))), (3, .int (nI (y_n y))), (4, .int (nI (y_cn y))), (5, .int (nI (t_tk y (nI 0)))), (6, .int (nI (t_tc y))), (8, .int ((t_sw y))), (17, .int ((t_all y (nI cz))))]) hx hb dL_law_993 hl (k := 12) rfl (zInc _) (by decide) rfl (fun ls hl => ?_)
      refine lv_goto (tgt := 192) hx hb dL_law_996 (by decide) ?_
      exact go192 (wo + (1 + 1)) H locs ls (by rw [t_wn, if_pos (show p_worn (y_wr y (wix cz (nI 0))) from c952_1), if_pos (show p_worn (y_wr y (wix cz (nI 1))) from c969_3)]) hP hD hS (lv_sub hl [5, 6, 7, 8, 9, 10, 11, 4, 12, 3, 2, 1, 0] rfl)
