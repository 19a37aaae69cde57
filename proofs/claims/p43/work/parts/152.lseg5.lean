/-! THE LAW'S BODY: its accounts -/
set_option maxHeartbeats 4000000 in
set_option maxRecDepth 100000 in
theorem law_s5 {D : va_G} {ct : Nat → ClassId} {g : XG} {p : Program} {l : Launch} {e : Env} {s : State} {m : MethodId} {args : Array Value} {below : List Frame} {meth : Method} {c : Code} {A : Nat → Prop} {Q : State → Prop} (hx : p.tables.exec = Jvm.exec) (hb : c.code = cL_law) (hml : c.maxLocals = 27) (hown : s.vm.findClass RL = some m.cls) (hts : ∀ w ∈ wsL_law, w.before args s = true) (hK : zK D ct s) (hA : ∀ q, s.heap.size ≤ q → A q) (hX : zX g A s s.heap) (a : Nat → Nat) (y : YS) (b : Nat → Nat) (rs : RS) (d : Nat → Nat) (bz : BS) (i : Nat → Nat) (iv : IS) (lb : Nat → Nat) (lz : LST) (sa : Nat → Nat) (sy : YS) (x : Nat → Nat) (xv : Int32 × Int32) (h : Nat → Nat) (ha : Nat → Nat → Nat) (hz : HS) (R : va_W) (t : Nat) (hK4 : K43 y) (cc ss : Nat) (hcc : cc + 0 ≤ room_1.cells) (hss : ss + 0 ≤ room_1.slots) (go1299 : ∀ (bz : BS) (H : Heap) (locs : List Loc) (ls : Array Slot), va_P D vwCl (YW ct a y (KR a b rs (BW ct a d bz (IW ct i (xE g) iv (LW ct lb lz (YW ct sa sy (XO x a sa h b d i lb xv (HW ct h ha hz R)))))))) H → va_D A (YW ct a y (KR a b rs (BW ct a d bz (IW ct i (xE g) iv (LW ct lb lz (YW ct sa sy (XO x a sa h b d i lb xv (HW ct h ha hz R)))))))) → va_S A s.heap H locs → lv_has ls 27 [(1, .ref (x 0)), (0, .ref (xB g)), (2, .int (nI (t))), (3, .int (nI (y_n y))), (4, .int (nI (y_cn y)))] → W p l e room_1 s m args below meth c H locs cc ss Q (F0 m 1299 ls [])) (H : Heap) (locs : List Loc) (ls : Array Slot) (hP : va_P D vwCl (YW ct a y (KR a b rs (BW ct a d bz (IW ct i (xE g) iv (LW ct lb lz (YW ct sa sy (XO x a sa h b d i lb xv (HW ct h ha hz R)))))))) H) (hD : va_D A (YW ct a y (KR a b rs (BW ct a d bz (IW ct i (xE g) iv (LW ct lb lz (YW ct sa sy (XO x a sa h b d i lb xv (HW ct h ha hz R))))))))) (hS : va_S A s.heap H locs) (hl : lv_has ls 27 [(1, .ref (x 0)), (0, .ref (xB g)), (2, .int (nI (t))), (3, .int (nI (y_n y))), (4, .int (nI (y_cn y))), (5, .int (nI (t_tk y (nI 0)))), (6, .int (nI (t_tc y))), (7, .int ((t_wcs y))), (8, .int ((t_sw y))), (9, .int (nI (t_acr y))), (10, .int (nI (t_awn y))), (11, .int ((t_ts y))), (13, .int ((sI (y_rt y) (y_rn y)))), (14, .int ((sI (fun r => y_rt y r * y_mi y r) (y_rn y))))]) : W p l e room_1 s m args below meth c H locs cc ss Q (F0 m 1145 ls []) := by
  have hJ4 := hK4.1
  obtain ⟨hy, hf⟩ := yJ_i hJ4
  have hcw := cwP_all (yJ_A hJ4)
  obtain ⟨hs1, hs2⟩ := hK4.2.1
  have h41 := hK4.2.2.1
  have h42 := hK4.2.2.2.1
  have htk := tk_sum hy
  have hkd : ∀ j9, j9 < y_n y → y_kd y j9 = nI 0 ∨ y_kd y j9 = nI 1 := fun j9 hj9 => (hy.2.2.2.1 j9 hj9).1
  have hn : y_n y ≤ 12 := hy.1
  have hcn : y_cn y ≤ 4 := hy.2.1
  have hrn : y_rn y ≤ 5 := hy.2.2.1
  refine lv_aload_n hx hb dL_law_1145 rfl (lv_at hl 0 rfl) ?_
  refine zVIX [] [] (kX10_isWell (a) (y) (b) (rs) (d) (bz) (i) (iv) (lb) (lz) (sa) (sy) (x) (xv) (h) (ha) (hz) (R) (show yI y from hy) (show yF y from hf) (show cwP y from hcw)) hx hb hml hown hts (cwV 0 hts gL_law_X10_isWell rfl rfl rfl (by decide +kernel) ⟨(Nat.le_of_ble_eq_true rfl), (Nat.le_of_ble_eq_true rfl)⟩) hK hP hD hS hA hX (va_recv hK hP (ci := 9) (q0 := 38) rfl rfl) rfl hl.1 rfl (Nat.le_of_ble_eq_true rfl) dL_law_1146 ⟨(by show cc + 0 ≤ room_1.cells; omega), (by show ss + 0 ≤ room_1.slots; omega)⟩ (fun r_1146 _ H locs hr_1146 hP hD hS => ?_)
  subst hr_1146
  have hP : va_P D vwCl (YW ct a y (KR a b rs (BW ct a d (bWells y bz (y_cn y)) (IW ct i (xE g) iv (LW ct lb lz (YW ct sa sy (XO x a sa h b d i lb xv (HW ct h ha hz R)))))))) H := hP
  have hD : va_D A (YW ct a y (KR a b rs (BW ct a d (bWells y bz (y_cn y)) (IW ct i (xE g) iv (LW ct lb lz (YW ct sa sy (XO x a sa h b d i lb xv (HW ct h ha hz R)))))))) := hD
  refine lv_iconst (v := nI (1)) hx hb dL_law_1149 (by decide) ?_
  refine lv_icmp_ne (tgt := 1297) hx hb dL_law_1150 (by decide) (fun c9 => absurd rfl c9) (fun c9 => ?_)
  refine lv_aload_n hx hb dL_law_1153 rfl (lv_at hl 0 rfl) ?_
  refine lv_iconst (v := nI (1)) hx hb dL_law_1154 (by decide) ?_
  refine zVIX [.int (nI (1))] [] (kX10_account (a) (y) (b) (rs) (d) ((bWells y bz (y_cn y))) (i) (iv) (lb) (lz) (sa) (sy) (x) (xv) (h) (ha) (hz) (R) (nI (1)) (show yI y from hy) (show yF y from hf)) hx hb hml hown hts (cwV 1 hts gL_law_X10_account rfl rfl rfl (by decide +kernel) ⟨(Nat.le_of_ble_eq_true rfl), (Nat.le_of_ble_eq_true rfl)⟩) hK hP hD hS hA hX (va_recv hK hP (ci := 9) (q0 := 38) rfl rfl) rfl hl.1 rfl (Nat.le_of_ble_eq_true rfl) dL_law_1155 ⟨(by show cc + 0 ≤ room_1.cells; omega), (by show ss + 0 ≤ room_1.slots; omega)⟩ (fun r_1155 _ H locs hr_1155 hP hD hS => ?_)
  subst hr_1155
  have hP : va_P D vwCl (YW ct a y (KR a b rs (BW ct a d (bWells y bz (y_cn y)) (IW ct i (xE g) iv (LW ct lb lz (YW ct sa sy (XO x a sa h b d i lb xv (HW ct h ha hz R)))))))) H := hP
  have hD : va_D A (YW ct a y (KR a b rs (BW ct a d (bWells y bz (y_cn y)) (IW ct i (xE g) iv (LW ct lb lz (YW ct sa sy (XO x a sa h b d i lb xv (HW ct h ha hz R)))))))) := hD
  refine zTop (y := nI (t_tk y (nI 0))) acc_1 ?_
  refine lv_iload hx hb dL_law_1158 (lv_at hl 5 rfl) ?_
  refine lv_icmp_ne (tgt := 1297) hx hb dL_law_1160 (by decide) (fun c9 => absurd rfl c9) (fun c9 => ?_)
  refine lv_aload_n hx hb dL_law_1163 rfl (lv_at hl 0 rfl) ?_
  refine lv_iconst (v := nI (2)) hx hb dL_law_1164 (by decide) ?_
  refine zVIX [.int (nI (2))] [] (kX10_account (a) (y) (b) (rs) (d) ((bWells y bz (y_cn y))) (i) (iv) (lb) (lz) (sa) (sy) (x) (xv) (h) (ha) (hz) (R) (nI (2)) (show yI y from hy) (show yF y from hf)) hx hb hml hown hts (cwV 1 hts gL_law_X10_account rfl rfl rfl (by decide +kernel) ⟨(Nat.le_of_ble_eq_true rfl), (Nat.le_of_ble_eq_true rfl)⟩) hK hP hD hS hA hX (va_recv hK hP (ci := 9) (q0 := 38) rfl rfl) rfl hl.1 rfl (Nat.le_of_ble_eq_true rfl) dL_law_1165 ⟨(by show cc + 0 ≤ room_1.cells; omega), (by show ss + 0 ≤ room_1.slots; omega)⟩ (fun r_1165 _ H locs hr_1165 hP hD hS => ?_)
  subst hr_1165
  have hP : va_P D vwCl (YW ct a y (KR a b rs (BW ct a d (bWells y bz (y_cn y)) (IW ct i (xE g) iv (LW ct lb lz (YW ct sa sy (XO x a sa h b d i lb xv (HW ct h ha hz R)))))))) H := hP
  have hD : va_D A (YW ct a y (KR a b rs (BW ct a d (bWells y bz (y_cn y)) (IW ct i (xE g) iv (LW ct lb lz (YW ct sa sy (XO x a sa h b d i lb xv (HW ct h ha hz R)))))))) := hD
  refine zTop (y := nI ((y_n y - t_tk y (nI 0)))) (acc_2.trans (congrArg nI (by omega))) ?_
  refine lv_iload_n hx hb dL_law_1168 rfl (lv_at hl 3 rfl) ?_
  refine lv_iload hx hb dL_law_1169 (lv_at hl 5 rfl) ?_
  refine zNsub hx hb (by omega) dL_law_1171 ?_
  refine lv_icmp_ne (tgt := 1297) hx hb dL_law_1172 (by decide) (fun c9 => absurd rfl c9) (fun c9 => ?_)
  refine lv_aload_n hx hb dL_law_1175 rfl (lv_at hl 0 rfl) ?_
  refine lv_iconst (v := nI (3)) hx hb dL_law_1176 (by decide) ?_
  refine zVIX [.int (nI (3))] [] (kX10_account (a) (y) (b) (rs) (d) ((bWells y bz (y_cn y))) (i) (iv) (lb) (lz) (sa) (sy) (x) (xv) (h) (ha) (hz) (R) (nI (3)) (show yI y from hy) (show yF y from hf)) hx hb hml hown hts (cwV 1 hts gL_law_X10_account rfl rfl rfl (by decide +kernel) ⟨(Nat.le_of_ble_eq_true rfl), (Nat.le_of_ble_eq_true rfl)⟩) hK hP hD hS hA hX (va_recv hK hP (ci := 9) (q0 := 38) rfl rfl) rfl hl.1 rfl (Nat.le_of_ble_eq_true rfl) dL_law_1177 ⟨(by show cc + 0 ≤ room_1.cells; omega), (by show ss + 0 ≤ room_1.slots; omega)⟩ (fun r_1177 _ H locs hr_1177 hP hD hS => ?_)
  subst hr_1177
  have hP : va_P D vwCl (YW ct a y (KR a b rs (BW ct a d (bWells y bz (y_cn y)) (IW ct i (xE g) iv (LW ct lb lz (YW ct sa sy (XO x a sa h b d i lb xv (HW ct h ha hz R)))))))) H := hP
  have hD : va_D A (YW ct a y (KR a b rs (BW ct a d (bWells y bz (y_cn y)) (IW ct i (xE g) iv (LW ct lb lz (YW ct sa sy (XO x a sa h b d i lb xv (HW ct h ha hz R)))))))) := hD
  refine zTop (y := nI (t_tc y)) acc_3 ?_
  refine lv_iload hx hb dL_law_1180 (lv_at hl 6 rfl) ?_
  refine lv_icmp_ne (tgt := 1297) hx hb dL_law_1182 (by decide) (fun c9 => absurd rfl c9) (fun c9 => ?_)
  refine lv_aload_n hx hb dL_law_1185 rfl (lv_at hl 0 rfl) ?_
  refine lv_bipush (v := nI (6)) hx hb dL_law_1186 (by decide) ?_
  refine zVIX [.int (nI (6))] [] (kX10_account (a) (y) (b) (rs) (d) ((bWells y bz (y_cn y))) (i) (iv) (lb) (lz) (sa) (sy) (x) (xv) (h) (ha) (hz) (R) (nI (6)) (show yI y from hy) (show yF y from hf)) hx hb hml hown hts (cwV 1 hts gL_law_X10_account rfl rfl rfl (by decide +kernel) ⟨(Nat.le_of_ble_eq_true rfl), (Nat.le_of_ble_eq_true rfl)⟩) hK hP hD hS hA hX (va_recv hK hP (ci := 9) (q0 := 38) rfl rfl) rfl hl.1 rfl (Nat.le_of_ble_eq_true rfl) dL_law_1188 ⟨(by show cc + 0 ≤ room_1.cells; omega), (by show ss + 0 ≤ room_1.slots; omega)⟩ (fun r_1188 _ H locs hr_1188 hP hD hS => ?_)
  subst hr_1188
  have hP : va_P D vwCl (YW ct a y (KR a b rs (BW ct a d (bWells y bz (y_cn y)) (IW ct i (xE g) iv (LW ct lb lz (YW ct sa sy (XO x a sa h b d i lb xv (HW ct h ha hz R)))))))) H := hP
  have hD : va_D A (YW ct a y (KR a b rs (BW ct a d (bWells y bz (y_cn y)) (IW ct i (xE g) iv (LW ct lb lz (YW ct sa sy (XO x a sa h b d i lb xv (HW ct h ha hz R)))))))) := hD
  refine zTop (y := (t_wcs y)) acc_6 ?_
  refine lv_iload hx hb dL_law_1191 (lv_at hl 7 rfl) ?_
  refine lv_icmp_ne (tgt := 1297) hx hb dL_law_1193 (by decide) (fun c9 => absurd rfl c9) (fun c9 => ?_)
  refine lv_aload_n hx hb dL_law_1196 rfl (lv_at hl 0 rfl) ?_
  refine lv_bipush (v := nI (7)) hx hb dL_law_1197 (by decide) ?_
  refine zVIX [.int (nI (7))] [] (kX10_account (a) (y) (b) (rs) (d) ((bWells y bz (y_cn y))) (i) (iv) (lb) (lz) (sa) (sy) (x) (xv) (h) (ha) (hz) (R) (nI (7)) (show yI y from hy) (show yF y from hf)) hx hb hml hown hts (cwV 1 hts gL_law_X10_account rfl rfl rfl (by decide +kernel) ⟨(Nat.le_of_ble_eq_true rfl), (Nat.le_of_ble_eq_true rfl)⟩) hK hP hD hS hA hX (va_recv hK hP (ci := 9) (q0 := 38) rfl rfl) rfl hl.1 rfl (Nat.le_of_ble_eq_true rfl) dL_law_1199 ⟨(by show cc + 0 ≤ room_1.cells; omega), (by show ss + 0 ≤ room_1.slots; omega)⟩ (fun r_1199 _ H locs hr_1199 hP hD hS => ?_)
  subst hr_1199
  have hP : va_P D vwCl (YW ct a y (KR a b rs (BW ct a d (bWells y bz (y_cn y)) (IW ct i (xE g) iv (LW ct lb lz (YW ct sa sy (XO x a sa h b d i lb xv (HW ct h ha hz R)))))))) H := hP
  have hD : va_D A (YW ct a y (KR a b rs (BW ct a d (bWells y bz (y_cn y)) (IW ct i (xE g) iv (LW ct lb lz (YW ct sa sy (XO x a sa h b d i lb xv (HW ct h ha hz R)))))))) := hD
  refine zTop (y := nI (t_acr y)) acc_7 ?_
  refine lv_iload hx hb dL_law_1202 (lv_at hl 9 rfl) ?_
  refine lv_icmp_ne (tgt := 1297) hx hb dL_law_1204 (by decide) (fun c9 => absurd rfl c9) (fun c9 => ?_)
  refine lv_aload_n hx hb dL_law_1207 rfl (lv_at hl 0 rfl) ?_
  refine lv_bipush (v := nI (8)) hx hb dL_law_1208 (by decide) ?_
  refine zVIX [.int (nI (8))] [] (kX10_account (a) (y) (b) (rs) (d) ((bWells y bz (y_cn y))) (i) (iv) (lb) (lz) (sa) (sy) (x) (xv) (h) (ha) (hz) (R) (nI (8)) (show yI y from hy) (show yF y from hf)) hx hb hml hown hts (cwV 1 hts gL_law_X10_account rfl rfl rfl (by decide +kernel) ⟨(Nat.le_of_ble_eq_true rfl), (Nat.le_of_ble_eq_true rfl)⟩) hK hP hD hS hA hX (va_recv hK hP (ci := 9) (q0 := 38) rfl rfl) rfl hl.1 rfl (Nat.le_of_ble_eq_true rfl) dL_law_1210 ⟨(by show cc + 0 ≤ room_1.cells; omega), (by show ss + 0 ≤ room_1.slots; omega)⟩ (fun r_1210 _ H locs hr_1210 hP hD hS => ?_)
  subst hr_1210
  have hP : va_P D vwCl (YW ct a y (KR a b rs (BW ct a d (bWells y bz (y_cn y)) (IW ct i (xE g) iv (LW ct lb lz (YW ct sa sy (XO x a sa h b d i lb xv (HW ct h ha hz R)))))))) H := hP
  have hD : va_D A (YW ct a y (KR a b rs (BW ct a d (bWells y bz (y_cn y)) (IW ct i (xE g) iv (LW ct lb lz (YW ct sa sy (XO x a sa h b d i lb xv (HW ct h ha hz R)))))))) := hD
  refine zTop (y := nI (t_awn y)) acc_8 ?_
  refine lv_iload hx hb dL_law_1213 (lv_at hl 10 rfl) ?_
  refine lv_icmp_ne (tgt := 1297) hx hb dL_law_1215 (by decide) (fun c9 => absurd rfl c9) (fun c9 => ?_)
  refine lv_aload_n hx hb dL_law_1218 rfl (lv_at hl 0 rfl) ?_
  refine lv_bipush (v := nI (9)) hx hb dL_law_1219 (by decide) ?_
  refine zVIX [.int (nI (9))] [] (kX10_account (a) (y) (b) (rs) (d) ((bWells y bz (y_cn y))) (i) (iv) (lb) (lz) (sa) (sy) (x) (xv) (h) (ha) (hz) (R) (nI (9)) (show yI y from hy) (show yF y from hf)) hx hb hml hown hts (cwV 1 hts gL_law_X10_account rfl rfl rfl (by decide +kernel) ⟨(Nat.le_of_ble_eq_true rfl), (Nat.le_of_ble_eq_true rfl)⟩) hK hP hD hS hA hX (va_recv hK hP (ci := 9) (q0 := 38) rfl rfl) rfl hl.1 rfl (Nat.le_of_ble_eq_true rfl) dL_law_1221 ⟨(by show cc + 0 ≤ room_1.cells; omega), (by show ss + 0 ≤ room_1.slots; omega)⟩ (fun r_1221 _ H locs hr_1221 hP hD hS => ?_)
  subst hr_1221
  have hP : va_P D vwCl (YW ct a y (KR a b rs (BW ct a d (bWells y bz (y_cn y)) (IW ct i (xE g) iv (LW ct lb lz (YW ct sa sy (XO x a sa h b d i lb xv (HW ct h ha hz R)))))))) H := hP
  have hD : va_D A (YW ct a y (KR a b rs (BW ct a d (bWells y bz (y_cn y)) (IW ct i (xE g) iv (LW ct lb lz (YW ct sa sy (XO x a sa h b d i lb xv (HW ct h ha hz R)))))))) := hD
  refine zTop (y := (t_ts y)) acc_9 ?_
  refine lv_iload hx hb dL_law_1224 (lv_at hl 11 rfl) ?_
  refine lv_icmp_ne (tgt := 1297) hx hb dL_law_1226 (by decide) (fun c9 => absurd rfl c9) (fun c9 => ?_)
  refine lv_iload hx hb dL_law_1229 (lv_at hl 12 rfl) ?_
  refine zTop (y := (t_ts y)) hs1.symm ?_
  refine lv_iload hx hb dL_law_1231 (lv_at hl 11 rfl) ?_
  refine lv_icmp_ne (tgt := 1297) hx hb dL_law_1233 (by decide) (fun c9 => absurd rfl c9) (fun c9 => ?_)
  refine lv_aload_n hx hb dL_law_1236 rfl (lv_at hl 0 rfl) ?_
  refine lv_bipush (v := nI (10)) hx hb dL_law_1237 (by decide) ?_
  refine zVIX [.int (nI (10))] [] (kX10_account (a) (y) (b) (rs) (d) ((bWells y bz (y_cn y))) (i) (iv) (lb) (lz) (sa) (sy) (x) (xv) (h) (ha) (hz) (R) (nI (10)) (show yI y from hy) (show yF y from hf)) hx hb hml hown hts (cwV 1 hts gL_law_X10_account rfl rfl rfl (by decide +kernel) ⟨(Nat.le_of_ble_eq_true rfl), (Nat.le_of_ble_eq_true rfl)⟩) hK hP hD hS hA hX (va_recv hK hP (ci := 9) (q0 := 38) rfl rfl) rfl hl.1 rfl (Nat.le_of_ble_eq_true rfl) dL_law_1239 ⟨(by show cc + 0 ≤ room_1.cells; omega), (by show ss + 0 ≤ room_1.slots; omega)⟩ (fun r_1239 _ H locs hr_1239 hP hD hS => ?_)
  subst hr_1239
  have hP : va_P D vwCl (YW ct a y (KR a b rs (BW ct a d (bWells y bz (y_cn y)) (IW ct i (xE g) iv (LW ct lb lz (YW ct sa sy (XO x a sa h b d i lb xv (HW ct h ha hz R)))))))) H := hP
  have hD : va_D A (YW ct a y (KR a b rs (BW ct a d (bWells y bz (y_cn y)) (IW ct i (xE g) iv (LW ct lb lz (YW ct sa sy (XO x a sa h b d i lb xv (HW ct h ha hz R)))))))) := hD
  refine zTop (y := (sI (fun r => y_rt y r * y_mi y r) (y_rn y))) (acc_10.trans hs2) ?_
  refine lv_iload hx hb dL_law_1242 (lv_at hl 13 rfl) ?_
  refine lv_icmp_ne (tgt := 1297) hx hb dL_law_1244 (by decide) (fun c9 => absurd rfl c9) (fun c9 => ?_)
  refine lv_aload_n hx hb dL_law_1247 rfl (lv_at hl 0 rfl) ?_
  refine zVDX [] [] (kX10_meanWeight (a) (y) (b) (rs) (d) ((bWells y bz (y_cn y))) (i) (iv) (lb) (lz) (sa) (sy) (x) (xv) (h) (ha) (hz) (R) (show yI y from hy) (show yF y from hf)) hx hb hml hown hts (cwV 0 hts gL_law_X10_meanWeight rfl rfl rfl (by decide +kernel) ⟨(Nat.le_of_ble_eq_true rfl), (Nat.le_of_ble_eq_true rfl)⟩) hK hP hD hS hA hX (va_recv hK hP (ci := 9) (q0 := 38) rfl rfl) rfl hl.1 rfl (Nat.le_of_ble_eq_true rfl) dL_law_1248 ⟨(by show cc + 0 ≤ room_1.cells; omega), (by show ss + 0 ≤ room_1.slots; omega)⟩ (fun r_1248 _ H locs hr_1248 hP hD hS => ?_)
  subst hr_1248
  have hP : va_P D vwCl (YW ct a y (KR a b rs (BW ct a d (bWells y bz (y_cn y)) (IW ct i (xE g) iv (LW ct lb lz (YW ct sa sy (XO x a sa h b d i lb xv (HW ct h ha hz R)))))))) H := hP
  have hD : va_D A (YW ct a y (KR a b rs (BW ct a d (bWells y bz (y_cn y)) (IW ct i (xE g) iv (LW ct lb lz (YW ct sa sy (XO x a sa h b d i lb xv (HW ct h ha hz R)))))))) := hD
  rw [mean_is (show ¬ y_n y = 0 by omega)]
  refine lv_iload hx hb dL_law_1251 (lv_at hl 8 rfl) ?_
  refine lv_i2d hx hb dL_law_1253 ?_
  refine lv_iload_n hx hb dL_law_1254 rfl (lv_at hl 3 rfl) ?_
  refine lv_i2d hx hb dL_law_1255 ?_
  refine lv_ddiv hx hb dL_law_1256 (nD_n64 (mean_nD hy (by omega))) ?_
  refine lv_dcmp hx hb dL_law_1257 ?_
  refine zTop (y := nI (0)) (cmpD_self (mean_nD hy (by omega)) _) ?_
  refine lv_if_ne (tgt := 1297) hx hb dL_law_1258 (by decide) (fun c9 => absurd (by decide) c9) (fun c9 => ?_)
  refine lv_aload_n hx hb dL_law_1261 rfl (lv_at hl 0 rfl) ?_
  refine zVFX [] [] (kX10_creakShare (a) (y) (b) (rs) (d) ((bWells y bz (y_cn y))) (i) (iv) (lb) (lz) (sa) (sy) (x) (xv) (h) (ha) (hz) (R) (show yI y from hy) (show yF y from hf)) hx hb hml hown hts (cwV 0 hts gL_law_X10_creakShare rfl rfl rfl (by decide +kernel) ⟨(Nat.le_of_ble_eq_true rfl), (Nat.le_of_ble_eq_true rfl)⟩) hK hP hD hS hA hX (va_recv hK hP (ci := 9) (q0 := 38) rfl rfl) rfl hl.1 rfl (Nat.le_of_ble_eq_true rfl) dL_law_1262 ⟨(by show cc + 0 ≤ room_1.cells; omega), (by show ss + 0 ≤ room_1.slots; omega)⟩ (fun r_1262 _ H locs hr_1262 hP hD hS => ?_)
  subst hr_1262
  have hP : va_P D vwCl (YW ct a y (KR a b rs (BW ct a d (bWells y bz (y_cn y)) (IW ct i (xE g) iv (LW ct lb lz (YW ct sa sy (XO x a sa h b d i lb xv (HW ct h ha hz R)))))))) H := hP
  have hD : va_D A (YW ct a y (KR a b rs (BW ct a d (bWells y bz (y_cn y)) (IW ct i (xE g) iv (LW ct lb lz (YW ct sa sy (XO x a sa h b d i lb xv (HW ct h ha hz R)))))))) := hD
  rw [share_is (show ¬ y_cn y = 0 by omega)]
  refine lv_iload hx hb dL_law_1265 (lv_at hl 9 rfl) ?_
  refine lv_i2f hx hb dL_law_1267 ?_
  refine lv_iconst (v := nI (2)) hx hb dL_law_1268 (by decide) ?_
  refine lv_iload hx hb dL_law_1269 (lv_at hl 4 rfl) ?_
  refine zNmul hx hb dL_law_1271 ?_
  refine lv_i2f hx hb dL_law_1272 ?_
  refine lv_fdiv hx hb dL_law_1273 (nF_n32 (share_nF hy (by omega))) ?_
  refine lv_fcmp hx hb dL_law_1274 ?_
  refine zTop (y := nI (0)) (cmpF_self (share_nF hy (by omega)) _) ?_
  refine lv_if_ne (tgt := 1297) hx hb dL_law_1275 (by decide) (fun c9 => absurd (by decide) c9) (fun c9 => ?_)
  refine lv_aload_n hx hb dL_law_1278 rfl (lv_at hl 0 rfl) ?_
  refine lv_iload_n hx hb dL_law_1279 rfl (lv_at hl 3 rfl) ?_
  refine zVIX [.int (nI (y_n y))] [] (kX10_heaviest (a) (y) (b) (rs) (d) ((bWells y bz (y_cn y))) (i) (iv) (lb) (lz) (sa) (sy) (x) (xv) (h) (ha) (hz) (R) (nI (y_n y)) (show yI y from hy) (show yF y from hf)) hx hb hml hown hts (cwV 1 hts gL_law_X10_heaviest rfl rfl rfl (by decide +kernel) ⟨(Nat.le_of_ble_eq_true rfl), (Nat.le_of_ble_eq_true rfl)⟩) hK hP hD hS hA hX (va_recv hK hP (ci := 9) (q0 := 38) rfl rfl) rfl hl.1 rfl (Nat.le_of_ble_eq_true rfl) dL_law_1280 ⟨(by show cc + 0 ≤ room_1.cells; omega), (by show ss + 0 ≤ room_1.slots; omega)⟩ (fun r_1280 _ H locs hr_1280 hP hD hS => ?_)
  subst hr_1280
  have hP : va_P D vwCl (YW ct a y (KR a b rs (BW ct a d (bWells y bz (y_cn y)) (IW ct i (xE g) iv (LW ct lb lz (YW ct sa sy (XO x a sa h b d i lb xv (HW ct h ha hz R)))))))) H := hP
  have hD : va_D A (YW ct a y (KR a b rs (BW ct a d (bWells y bz (y_cn y)) (IW ct i (xE g) iv (LW ct lb lz (YW ct sa sy (XO x a sa h b d i lb xv (HW ct h ha hz R)))))))) := hD
  refine zTop (y := (-1)) (ordI_out (sO_T hy) (by omega)) ?_
  refine lv_iconst (v := (-1)) hx hb dL_law_1283 (by decide) ?_
  refine lv_icmp_ne (tgt := 1297) hx hb dL_law_1284 (by decide) (fun c9 => absurd rfl c9) (fun c9 => ?_)
  refine lv_aload_n hx hb dL_law_1287 rfl (lv_at hl 0 rfl) ?_
  refine lv_iload hx hb dL_law_1288 (lv_at hl 4 rfl) ?_
  refine zVIX [.int (nI (y_cn y))] [] (kX10_fullest (a) (y) (b) (rs) (d) ((bWells y bz (y_cn y))) (i) (iv) (lb) (lz) (sa) (sy) (x) (xv) (h) (ha) (hz) (R) (nI (y_cn y)) (show yI y from hy) (show yF y from hf)) hx hb hml hown hts (cwV 1 hts gL_law_X10_fullest rfl rfl rfl (by decide +kernel) ⟨(Nat.le_of_ble_eq_true rfl), (Nat.le_of_ble_eq_true rfl)⟩) hK hP hD hS hA hX (va_recv hK hP (ci := 9) (q0 := 38) rfl rfl) rfl hl.1 rfl (Nat.le_of_ble_eq_true rfl) dL_law_1290 ⟨(by show cc + 0 ≤ room_1.cells; omega), (by show ss + 0 ≤ room_1.slots; omega)⟩ (fun r_1290 _ H locs hr_1290 hP hD hS => ?_)
  subst hr_1290
  have hP : va_P D vwCl (YW ct a y (KR a b rs (BW ct a d (bWells y bz (y_cn y)) (IW ct i (xE g) iv (LW ct lb lz (YW ct sa sy (XO x a sa h b d i lb xv (HW ct h ha hz R)))))))) H := hP
  have hD : va_D A (YW ct a y (KR a b rs (BW ct a d (bWells y bz (y_cn y)) (IW ct i (xE g) iv (LW ct lb lz (YW ct sa sy (XO x a sa h b d i lb xv (HW ct h ha hz R)))))))) := hD
  refine zTop (y := (-1)) (ordI_out (sO_C hy) (by omega)) ?_
  refine lv_iconst (v := (-1)) hx hb dL_law_1293 (by decide) ?_
  refine lv_icmp_eq (tgt := 1299) hx hb dL_law_1294 (by decide) (fun c9 => ?_) (fun c9 => absurd rfl c9)
  exact go1299 (bWells y bz (y_cn y)) H locs ls hP hD hS (lv_sub hl [0, 1, 2, 3, 4] rfl)
