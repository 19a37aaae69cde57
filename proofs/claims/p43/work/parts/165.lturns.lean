/-! THE LAW'S BODY: a turn, and all three -/
set_option maxHeartbeats 4000000 in
set_option maxRecDepth 100000 in
theorem law_tb {D : va_G} {ct : Nat → ClassId} {g : XG} {p : Program} {l : Launch} {e : Env} {s : State} {m : MethodId} {args : Array Value} {below : List Frame} {meth : Method} {c : Code} {A : Nat → Prop} {Q : State → Prop} (hx : p.tables.exec = Jvm.exec) (hb : c.code = cL_law) (hml : c.maxLocals = 27) (hown : s.vm.findClass RL = some m.cls) (hts : ∀ w ∈ wsL_law, w.before args s = true) (hK : zK D ct s) (hA : ∀ q, s.heap.size ≤ q → A q) (hX : zX g A s s.heap) (a : Nat → Nat) (y : YS) (b : Nat → Nat) (rs : RS) (d : Nat → Nat) (bz : BS) (i : Nat → Nat) (iv : IS) (lb : Nat → Nat) (lz : LST) (sa : Nat → Nat) (sy : YS) (x : Nat → Nat) (xv : Int32 × Int32) (h : Nat → Nat) (ha : Nat → Nat → Nat) (hz : HS) (R : va_W) (t : Nat) (tx0 : List Nat) (hK4 : K43 y) (hZ : zT9 g s) (hL0 : LR tx0 lz) (hn8 : hz.1 ≤ 8) (hc8 : hz.2.1 ≤ 8) (hs9 : xL g ≤ 260) (ht : t < 3) (cc ss : Nat) (hcc : cc + 726 ≤ room_1.cells) (hss : ss + 31320 ≤ room_1.slots) (go15 : ∀ (y1 : YS) (rs1 : RS) (bz1 : BS) (z1 : LST) (hz1 : HS) (tx1 : List Nat) (H : Heap) (locs : List Loc) (ls : Array Slot), K43 y1 → hz1.1 ≤ 8 → hz1.2.1 ≤ 8 → LR tx1 z1 → va_P D vwCl (YW ct a y1 (KR a b rs1 (BW ct a d bz1 (IW ct i (xE g) iv (LW ct lb z1 (YW ct sa sy (XO x a sa h b d i lb xv (HW ct h ha hz1 R)))))))) H → va_D A (YW ct a y1 (KR a b rs1 (BW ct a d bz1 (IW ct i (xE g) iv (LW ct lb z1 (YW ct sa sy (XO x a sa h b d i lb xv (HW ct h ha hz1 R)))))))) → va_S A s.heap H locs → lv_has ls 27 [(1, .ref (x 0)), (0, .ref (xB g)), (2, .int (nI ((t + 1))))] → W p l e room_1 s m args below meth c H locs (cc + 726) (ss + 31320) Q (F0 m 15 ls [])) (H : Heap) (locs : List Loc) (ls : Array Slot) (hP : va_P D vwCl (YW ct a y (KR a b rs (BW ct a d bz (IW ct i (xE g) iv (LW ct lb lz (YW ct sa sy (XO x a sa h b d i lb xv (HW ct h ha hz R)))))))) H) (hD : va_D A (YW ct a y (KR a b rs (BW ct a d bz (IW ct i (xE g) iv (LW ct lb lz (YW ct sa sy (XO x a sa h b d i lb xv (HW ct h ha hz R))))))))) (hS : va_S A s.heap H locs) (hl : lv_has ls 27 [(1, .ref (x 0)), (0, .ref (xB g)), (2, .int (nI (t)))]) : W p l e room_1 s m args below meth c H locs cc ss Q (F0 m 20 ls []) := by
  refine law_s1 hx hb hml hown hts hK hA hX a y b rs d bz i iv lb lz sa sy x xv h ha hz R t hK4 cc ss (by omega) (by omega) ?_ H locs ls hP hD hS hl
  intro H locs ls hP hD hS hl
  refine law_s2 hx hb hml hown hts hK hA hX a y b rs d bz i iv lb lz sa sy x xv h ha hz R t hK4 cc ss (by omega) (by omega) ?_ H locs ls hP hD hS hl
  intro P Ld AW H locs ls e1 e2 e3 hP hD hS hl
  subst e1 e2 e3
  refine law_cl hx hb hml hown hts hK hA hX a y b rs d bz i iv lb lz sa sy x xv h ha hz R t tx0 hK4 hZ hL0 cc ss (by omega) (by omega) ?_ H locs ls hP hD hS hl
  intro bz1 z1 tx1 H locs ls hq1 hP hD hS hl
  refine law_s3 hx hb hml hown hts hK hA hX a y b rs d bz1 i iv lb z1 sa sy x xv h ha hz R t hK4 hZ (cc + 664) (ss + 27920) (by omega) (by omega) ?_ H locs ls hP hD hS hl
  intro sb sz H locs ls hS1 hP hD hS hl
  refine law_s4 hx hb hml hown hts hK hA hX a y b rs d bz1 i iv lb z1 sa sy x xv h ha hz R t sb sz tx1 hK4 hZ hq1 hS1 ((cc + 664) + 12) ((ss + 27920) + 600) (by omega) (by omega) ?_ H locs ls hP hD hS hl
  intro z2 H locs ls hq2 hP hD hS hl
  refine law_s5 hx hb hml hown hts hK hA hX a y b rs d bz1 i iv lb z2 sa sy x xv h ha hz R t hK4 (((cc + 664) + 12) + 50) (((ss + 27920) + 600) + 2800) (by omega) (by omega) ?_ H locs ls hP hD hS hl
  intro bz3 H locs ls hP hD hS hl
  refine law_s6 hx hb hml hown hts hK hA hX a y b rs d bz3 i iv lb z2 sa sy x xv h ha hz R t hK4 (((cc + 664) + 12) + 50) (((ss + 27920) + 600) + 2800) (by omega) (by omega) ?_ H locs ls hP hD hS hl
  intro H locs ls hP hD hS hl
  refine law_s7 hx hb hml hown hts hK hA hX a y b rs d bz3 i iv lb z2 sa sy x xv h ha hz R t hK4 (((cc + 664) + 12) + 50) (((ss + 27920) + 600) + 2800) (by omega) (by omega) ?_ H locs ls hP hD hS hl
  intro H locs ls hP hD hS hl
  refine law_s8 hx hb hml hown hts hK hA hX a y b rs d bz3 i iv lb z2 sa sy x xv h ha hz R t hK4 hn8 hc8 hs9 ht (((cc + 664) + 12) + 50) (((ss + 27920) + 600) + 2800) (by omega) (by omega) ?_ H locs ls hP hD hS (lv_sub hl [0, 1, 2] rfl)
  intro y1 rs1 hz1 H locs ls hk1 hk2 hk3 hP hD hS hl
  refine W.widen (k := cc + 726) (n := ss + 31320) (by show (((cc + 664) + 12) + 50) + 0 ≤ _; omega) (by show (((ss + 27920) + 600) + 2800) + 0 ≤ _; omega) ?_
  exact go15 y1 rs1 bz3 z2 hz1 (rdT y (y_rn y)) H locs ls hk1 hk2 hk3 hq2 hP hD hS hl
set_option maxHeartbeats 4000000 in
set_option maxRecDepth 100000 in
theorem law_tl {D : va_G} {ct : Nat → ClassId} {g : XG} {p : Program} {l : Launch} {e : Env} {s : State} {m : MethodId} {args : Array Value} {below : List Frame} {meth : Method} {c : Code} {A : Nat → Prop} {Q : State → Prop} (hx : p.tables.exec = Jvm.exec) (hb : c.code = cL_law) (hml : c.maxLocals = 27) (hown : s.vm.findClass RL = some m.cls) (hts : ∀ w ∈ wsL_law, w.before args s = true) (hK : zK D ct s) (hA : ∀ q, s.heap.size ≤ q → A q) (hX : zX g A s s.heap) (a : Nat → Nat) (b : Nat → Nat) (d : Nat → Nat) (i : Nat → Nat) (iv : IS) (lb : Nat → Nat) (sa : Nat → Nat) (sy : YS) (x : Nat → Nat) (xv : Int32 × Int32) (h : Nat → Nat) (ha : Nat → Nat → Nat)  (R : va_W) (hZ : zT9 g s) (hs9 : xL g ≤ 260) (go1511 : ∀ (cc ss : Nat) (H : Heap) (locs : List Loc) (ls : Array Slot), cc ≤ room_1.cells → ss ≤ room_1.slots → va_S A s.heap H locs → W p l e room_1 s m args below meth c H locs cc ss Q (F0 m 1511 ls [])) : ∀ (n t cc ss : Nat) (y : YS) (rs : RS) (bz : BS) (lz : LST) (hz : HS) (tx0 : List Nat) (H : Heap) (locs : List Loc) (ls : Array Slot), t + n = 3 → cc + 726 * n ≤ room_1.cells → ss + 31320 * n ≤ room_1.slots → K43 y → hz.1 ≤ 8 → hz.2.1 ≤ 8 → LR tx0 lz → va_P D vwCl (YW ct a y (KR a b rs (BW ct a d bz (IW ct i (xE g) iv (LW ct lb lz (YW ct sa sy (XO x a sa h b d i lb xv (HW ct h ha hz R)))))))) H → va_D A (YW ct a y (KR a b rs (BW ct a d bz (IW ct i (xE g) iv (LW ct lb lz (YW ct sa sy (XO x a sa h b d i lb xv (HW ct h ha hz R)))))))) → va_S A s.heap H locs → lv_has ls 27 [(1, .ref (x 0)), (0, .ref (xB g)), (2, .int (nI (t)))] → W p l e room_1 s m args below meth c H locs cc ss Q (F0 m 15 ls []) := by
  intro n
  induction n with
  | zero =>
    intro t cc ss y rs bz lz hz tx0 H locs ls hn hcc hss hK4 hn8 hc8 hL0 hP hD hS hl
    refine lv_iload_n hx hb dL_law_15 rfl (lv_at hl 2 rfl) ?_
    refine lv_iconst (v := nI (3)) hx hb dL_law_16 (by decide) ?_
    refine zN_icmp_ge (tgt := 1511) hx hb (by omega) (by omega) dL_law_17 (by decide) (fun _ => go1511 cc ss H locs ls (by omega) (by omega) hS) (fun h => absurd h (by omega))
  | succ n ih =>
    intro t cc ss y rs bz lz hz tx0 H locs ls hn hcc hss hK4 hn8 hc8 hL0 hP hD hS hl
    refine lv_iload_n hx hb dL_law_15 rfl (lv_at hl 2 rfl) ?_
    refine lv_iconst (v := nI (3)) hx hb dL_law_16 (by decide) ?_
    refine zN_icmp_ge (tgt := 1511) hx hb (by omega) (by omega) dL_law_17 (by decide) (fun h => absurd h (by omega)) (fun _ => ?_)
    refine law_tb hx hb hml hown hts hK hA hX a y b rs d bz i iv lb lz sa sy x xv h ha hz R t tx0 hK4 hZ hL0 hn8 hc8 hs9 (by omega) cc ss (by omega) (by omega) ?_ H locs ls hP hD hS hl
    intro y1 rs1 bz1 z1 hz1 tx1 H locs ls hk1 hk2 hk3 hq1 hP hD hS hl
    exact ih (t + 1) (cc + 726) (ss + 31320) y1 rs1 bz1 z1 hz1 tx1 H locs ls (by omega) (by omega) (by omega) hk1 hk2 hk3 hq1 hP hD hS hl
