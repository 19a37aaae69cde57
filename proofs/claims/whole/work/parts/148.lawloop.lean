/-! THE LAW: its switch and its loop -/
set_option maxHeartbeats 4000000 in
set_option maxRecDepth 100000 in
theorem law_sw {D : va_G} {ct : Nat → ClassId} {g : XG} {p : Program} {l : Launch} {e : Env} {s : State} {m : MethodId} {b L : Nat} {xs : Nat → Int32} {below : List Frame} {meth : Method} {c : Code} {K : CK} {o : Nat → Nat} {i cc ss : Nat} {Q : State → Prop} (C : lwX D ct g p s m b L xs c) (hi : i + 3 < L) (hL : L ≤ 2048) (hcc : cc + 64 ≤ room_1.cells) (hss : ss + 4000 ≤ room_1.slots) (go : lwAt D ct g p l e s m b below meth c K o i (cc + 64) (ss + 4000) Q 1418) (w : Int32) (y : YS) (rs : RS) (bz : BS) (iv : IS) (lz : LST) (sy : YS) (xv : Int32 × Int32) (tx : List Nat) (hz : HS) (v : MS) (H : Heap) (locs : List Loc) (ls : Array Slot) (hQ : LQ y rs iv sy xv tx hz v) (hR : LR tx lz) (hP : va_P D vwCl (CWd ct (xE g) K y rs bz iv lz sy xv hz (MW ct o v [])) H) (hD : va_D (AD s) (CWd ct (xE g) K y rs bz iv lz sy xv hz (MW ct o v []))) (hS : va_S (AD s) s.heap H locs) (hl : lv_has ls 8 [(3, .int (nI i)), (2, .ref (o 0)), (1, .ref (kX K 0)), (0, .ref b)]) : W p l e room_1 s m #[Value.ref b] below meth c H locs cc ss Q (F0 m 32 ls [.int w]) := by
  have hx := C.1
  have hb := C.2.1
  rcases zSw 0 39 w (by decide) (by decide) with sw | ⟨j, ⟨hj1, hj2⟩, ew⟩
  · refine lv_tableOut (tgt := 1418) hx hb dL_law_32 (zSwO sw) (by decide) ?_
    exact W.widen (k := cc + 64) (n := ss + 4000) (by omega) (by omega) (go y rs bz iv lz sy xv tx hz v H locs ls hQ hR hP hD hS hl)
  · rcases (show j = 0 ∨ j = 1 ∨ j = 2 ∨ j = 3 ∨ j = 4 ∨ j = 5 ∨ j = 6 ∨ j = 7 ∨ j = 8 ∨ j = 9 ∨ j = 10 ∨ j = 11 ∨ j = 12 ∨ j = 13 ∨ j = 14 ∨ j = 15 ∨ j = 16 ∨ j = 17 ∨ j = 18 ∨ j = 19 ∨ j = 20 ∨ j = 21 ∨ j = 22 ∨ j = 23 ∨ j = 24 ∨ j = 25 ∨ j = 26 ∨ j = 27 ∨ j = 28 ∨ j = 29 ∨ j = 30 ∨ j = 31 ∨ j = 32 ∨ j = 33 ∨ j = 34 ∨ j = 35 ∨ j = 36 ∨ j = 37 ∨ j = 38 ∨ j = 39 by omega) with rfl | rfl | rfl | rfl | rfl | rfl | rfl | rfl | rfl | rfl | rfl | rfl | rfl | rfl | rfl | rfl | rfl | rfl | rfl | rfl | rfl | rfl | rfl | rfl | rfl | rfl | rfl | rfl | rfl | rfl | rfl | rfl | rfl | rfl | rfl | rfl | rfl | rfl | rfl | rfl
    · exact lv_tableIn (off := 176) (tgt := 208) hx hb dL_law_32 (by rw [ew]; decide) (by rw [ew]; decide) (by rw [ew]; rfl) (by decide) (law_c0 C hi hL hcc hss go y rs bz iv lz sy xv tx hz v H locs ls hQ hR hP hD hS hl)
    · exact lv_tableIn (off := 189) (tgt := 221) hx hb dL_law_32 (by rw [ew]; decide) (by rw [ew]; decide) (by rw [ew]; rfl) (by decide) (law_c1 C hi hL hcc hss go y rs bz iv lz sy xv tx hz v H locs ls hQ hR hP hD hS hl)
    · exact lv_tableIn (off := 214) (tgt := 246) hx hb dL_law_32 (by rw [ew]; decide) (by rw [ew]; decide) (by rw [ew]; rfl) (by decide) (law_c2 C hi hL hcc hss go y rs bz iv lz sy xv tx hz v H locs ls hQ hR hP hD hS hl)
    · exact lv_tableIn (off := 237) (tgt := 269) hx hb dL_law_32 (by rw [ew]; decide) (by rw [ew]; decide) (by rw [ew]; rfl) (by decide) (law_c3 C hi hL hcc hss go y rs bz iv lz sy xv tx hz v H locs ls hQ hR hP hD hS hl)
    · exact lv_tableIn (off := 260) (tgt := 292) hx hb dL_law_32 (by rw [ew]; decide) (by rw [ew]; decide) (by rw [ew]; rfl) (by decide) (law_c4 C hi hL hcc hss go y rs bz iv lz sy xv tx hz v H locs ls hQ hR hP hD hS hl)
    · exact lv_tableIn (off := 283) (tgt := 315) hx hb dL_law_32 (by rw [ew]; decide) (by rw [ew]; decide) (by rw [ew]; rfl) (by decide) (law_c5 C hi hL hcc hss go y rs bz iv lz sy xv tx hz v H locs ls hQ hR hP hD hS hl)
    · exact lv_tableIn (off := 326) (tgt := 358) hx hb dL_law_32 (by rw [ew]; decide) (by rw [ew]; decide) (by rw [ew]; rfl) (by decide) (law_c6 C hi hL hcc hss go y rs bz iv lz sy xv tx hz v H locs ls hQ hR hP hD hS hl)
    · exact lv_tableIn (off := 369) (tgt := 401) hx hb dL_law_32 (by rw [ew]; decide) (by rw [ew]; decide) (by rw [ew]; rfl) (by decide) (law_c7 C hi hL hcc hss go y rs bz iv lz sy xv tx hz v H locs ls hQ hR hP hD hS hl)
    · exact lv_tableIn (off := 392) (tgt := 424) hx hb dL_law_32 (by rw [ew]; decide) (by rw [ew]; decide) (by rw [ew]; rfl) (by decide) (law_c8 C hi hL hcc hss go y rs bz iv lz sy xv tx hz v H locs ls hQ hR hP hD hS hl)
    · exact lv_tableIn (off := 435) (tgt := 467) hx hb dL_law_32 (by rw [ew]; decide) (by rw [ew]; decide) (by rw [ew]; rfl) (by decide) (law_c9 C hi hL hcc hss go y rs bz iv lz sy xv tx hz v H locs ls hQ hR hP hD hS hl)
    · exact lv_tableIn (off := 468) (tgt := 500) hx hb dL_law_32 (by rw [ew]; decide) (by rw [ew]; decide) (by rw [ew]; rfl) (by decide) (law_c10 C hi hL hcc hss go y rs bz iv lz sy xv tx hz v H locs ls hQ hR hP hD hS hl)
    · exact lv_tableIn (off := 491) (tgt := 523) hx hb dL_law_32 (by rw [ew]; decide) (by rw [ew]; decide) (by rw [ew]; rfl) (by decide) (law_c11 C hi hL hcc hss go y rs bz iv lz sy xv tx hz v H locs ls hQ hR hP hD hS hl)
    · exact lv_tableIn (off := 504) (tgt := 536) hx hb dL_law_32 (by rw [ew]; decide) (by rw [ew]; decide) (by rw [ew]; rfl) (by decide) (law_c12 C hi hL hcc hss go y rs bz iv lz sy xv tx hz v H locs ls hQ hR hP hD hS hl)
    · exact lv_tableIn (off := 517) (tgt := 549) hx hb dL_law_32 (by rw [ew]; decide) (by rw [ew]; decide) (by rw [ew]; rfl) (by decide) (law_c13 C hi hL hcc hss go y rs bz iv lz sy xv tx hz v H locs ls hQ hR hP hD hS hl)
    · exact lv_tableIn (off := 566) (tgt := 598) hx hb dL_law_32 (by rw [ew]; decide) (by rw [ew]; decide) (by rw [ew]; rfl) (by decide) (law_c14 C hi hL hcc hss go y rs bz iv lz sy xv tx hz v H locs ls hQ hR hP hD hS hl)
    · exact lv_tableIn (off := 599) (tgt := 631) hx hb dL_law_32 (by rw [ew]; decide) (by rw [ew]; decide) (by rw [ew]; rfl) (by decide) (law_c15 C hi hL hcc hss go y rs bz iv lz sy xv tx hz v H locs ls hQ hR hP hD hS hl)
    · exact lv_tableIn (off := 632) (tgt := 664) hx hb dL_law_32 (by rw [ew]; decide) (by rw [ew]; decide) (by rw [ew]; rfl) (by decide) (law_c16 C hi hL hcc hss go y rs bz iv lz sy xv tx hz v H locs ls hQ hR hP hD hS hl)
    · exact lv_tableIn (off := 665) (tgt := 697) hx hb dL_law_32 (by rw [ew]; decide) (by rw [ew]; decide) (by rw [ew]; rfl) (by decide) (law_c17 C hi hL hcc hss go y rs bz iv lz sy xv tx hz v H locs ls hQ hR hP hD hS hl)
    · exact lv_tableIn (off := 698) (tgt := 730) hx hb dL_law_32 (by rw [ew]; decide) (by rw [ew]; decide) (by rw [ew]; rfl) (by decide) (law_c18 C hi hL hcc hss go y rs bz iv lz sy xv tx hz v H locs ls hQ hR hP hD hS hl)
    · exact lv_tableIn (off := 747) (tgt := 779) hx hb dL_law_32 (by rw [ew]; decide) (by rw [ew]; decide) (by rw [ew]; rfl) (by decide) (law_c19 C hi hL hcc hss go y rs bz iv lz sy xv tx hz v H locs ls hQ hR hP hD hS hl)
    · exact lv_tableIn (off := 796) (tgt := 828) hx hb dL_law_32 (by rw [ew]; decide) (by rw [ew]; decide) (by rw [ew]; rfl) (by decide) (law_c20 C hi hL hcc hss go y rs bz iv lz sy xv tx hz v H locs ls hQ hR hP hD hS hl)
    · exact lv_tableIn (off := 875) (tgt := 907) hx hb dL_law_32 (by rw [ew]; decide) (by rw [ew]; decide) (by rw [ew]; rfl) (by decide) (law_c21 C hi hL hcc hss go y rs bz iv lz sy xv tx hz v H locs ls hQ hR hP hD hS hl)
    · exact lv_tableIn (off := 954) (tgt := 986) hx hb dL_law_32 (by rw [ew]; decide) (by rw [ew]; decide) (by rw [ew]; rfl) (by decide) (law_c22 C hi hL hcc hss go y rs bz iv lz sy xv tx hz v H locs ls hQ hR hP hD hS hl)
    · exact lv_tableIn (off := 997) (tgt := 1029) hx hb dL_law_32 (by rw [ew]; decide) (by rw [ew]; decide) (by rw [ew]; rfl) (by decide) (law_c23 C hi hL hcc hss go y rs bz iv lz sy xv tx hz v H locs ls hQ hR hP hD hS hl)
    · exact lv_tableIn (off := 1020) (tgt := 1052) hx hb dL_law_32 (by rw [ew]; decide) (by rw [ew]; decide) (by rw [ew]; rfl) (by decide) (law_c24 C hi hL hcc hss go y rs bz iv lz sy xv tx hz v H locs ls hQ hR hP hD hS hl)
    · exact lv_tableIn (off := 1043) (tgt := 1075) hx hb dL_law_32 (by rw [ew]; decide) (by rw [ew]; decide) (by rw [ew]; rfl) (by decide) (law_c25 C hi hL hcc hss go y rs bz iv lz sy xv tx hz v H locs ls hQ hR hP hD hS hl)
    · exact lv_tableIn (off := 1076) (tgt := 1108) hx hb dL_law_32 (by rw [ew]; decide) (by rw [ew]; decide) (by rw [ew]; rfl) (by decide) (law_c26 C hi hL hcc hss go y rs bz iv lz sy xv tx hz v H locs ls hQ hR hP hD hS hl)
    · exact lv_tableIn (off := 1099) (tgt := 1131) hx hb dL_law_32 (by rw [ew]; decide) (by rw [ew]; decide) (by rw [ew]; rfl) (by decide) (law_c27 C hi hL hcc hss go y rs bz iv lz sy xv tx hz v H locs ls hQ hR hP hD hS hl)
    · exact lv_tableIn (off := 1122) (tgt := 1154) hx hb dL_law_32 (by rw [ew]; decide) (by rw [ew]; decide) (by rw [ew]; rfl) (by decide) (law_c28 C hi hL hcc hss go y rs bz iv lz sy xv tx hz v H locs ls hQ hR hP hD hS hl)
    · exact lv_tableIn (off := 1145) (tgt := 1177) hx hb dL_law_32 (by rw [ew]; decide) (by rw [ew]; decide) (by rw [ew]; rfl) (by decide) (law_c29 C hi hL hcc hss go y rs bz iv lz sy xv tx hz v H locs ls hQ hR hP hD hS hl)
    · exact lv_tableIn (off := 1168) (tgt := 1200) hx hb dL_law_32 (by rw [ew]; decide) (by rw [ew]; decide) (by rw [ew]; rfl) (by decide) (law_c30 C hi hL hcc hss go y rs bz iv lz sy xv tx hz v H locs ls hQ hR hP hD hS hl)
    · exact lv_tableIn (off := 1191) (tgt := 1223) hx hb dL_law_32 (by rw [ew]; decide) (by rw [ew]; decide) (by rw [ew]; rfl) (by decide) (law_c31 C hi hL hcc hss go y rs bz iv lz sy xv tx hz v H locs ls hQ hR hP hD hS hl)
    · exact lv_tableIn (off := 1204) (tgt := 1236) hx hb dL_law_32 (by rw [ew]; decide) (by rw [ew]; decide) (by rw [ew]; rfl) (by decide) (law_c32 C hi hL hcc hss go y rs bz iv lz sy xv tx hz v H locs ls hQ hR hP hD hS hl)
    · exact lv_tableIn (off := 1227) (tgt := 1259) hx hb dL_law_32 (by rw [ew]; decide) (by rw [ew]; decide) (by rw [ew]; rfl) (by decide) (law_c33 C hi hL hcc hss go y rs bz iv lz sy xv tx hz v H locs ls hQ hR hP hD hS hl)
    · exact lv_tableIn (off := 1240) (tgt := 1272) hx hb dL_law_32 (by rw [ew]; decide) (by rw [ew]; decide) (by rw [ew]; rfl) (by decide) (law_c34 C hi hL hcc hss go y rs bz iv lz sy xv tx hz v H locs ls hQ hR hP hD hS hl)
    · exact lv_tableIn (off := 1281) (tgt := 1313) hx hb dL_law_32 (by rw [ew]; decide) (by rw [ew]; decide) (by rw [ew]; rfl) (by decide) (law_c35 C hi hL hcc hss go y rs bz iv lz sy xv tx hz v H locs ls hQ hR hP hD hS hl)
    · exact lv_tableIn (off := 1324) (tgt := 1356) hx hb dL_law_32 (by rw [ew]; decide) (by rw [ew]; decide) (by rw [ew]; rfl) (by decide) (law_c36 C hi hL hcc hss go y rs bz iv lz sy xv tx hz v H locs ls hQ hR hP hD hS hl)
    · exact lv_tableIn (off := 1347) (tgt := 1379) hx hb dL_law_32 (by rw [ew]; decide) (by rw [ew]; decide) (by rw [ew]; rfl) (by decide) (law_c37 C hi hL hcc hss go y rs bz iv lz sy xv tx hz v H locs ls hQ hR hP hD hS hl)
    · exact lv_tableIn (off := 1360) (tgt := 1392) hx hb dL_law_32 (by rw [ew]; decide) (by rw [ew]; decide) (by rw [ew]; rfl) (by decide) (law_c38 C hi hL hcc hss go y rs bz iv lz sy xv tx hz v H locs ls hQ hR hP hD hS hl)
    · exact lv_tableIn (off := 1373) (tgt := 1405) hx hb dL_law_32 (by rw [ew]; decide) (by rw [ew]; decide) (by rw [ew]; rfl) (by decide) (law_c39 C hi hL hcc hss go y rs bz iv lz sy xv tx hz v H locs ls hQ hR hP hD hS hl)
theorem law_gt {L i : Nat} (hL : L ≤ 2048) (hi : i ≤ 4096) : Int32.ofNat L - nI 4 < nI i ↔ L < i + 4 := by
  have e : (nI L - nI 4).toInt = (L : Int) - ((4 : Nat) : Int) := pk_sub_toInt (by omega) (by decide)
  show nI L - nI 4 < nI i ↔ _
  rw [Int32.lt_iff_toInt_lt, e, nI_toInt (by omega)]
  omega
set_option maxHeartbeats 4000000 in
set_option maxRecDepth 100000 in
theorem law_loop {D : va_G} {ct : Nat → ClassId} {g : XG} {p : Program} {l : Launch} {e : Env} {s : State} {m : MethodId} {b L : Nat} {xs : Nat → Int32} {below : List Frame} {meth : Method} {c : Code} {K : CK} {o : Nat → Nat} (C : lwX D ct g p s m b L xs c) (hL : L ≤ 2048) (hr : meth.sig.returnType = ret) (hlocks : meth.locks = false) : ∀ (n i cc ss : Nat), L ≤ i + 4 * n → i ≤ 2052 → cc + 64 * n ≤ room_1.cells → ss + 4000 * n ≤ room_1.slots → lwAt D ct g p l e s m b below meth c K o i cc ss (lw_Z below #[Value.ref b] s) 18 := by
  intro n
  induction n with
  | zero =>
    intro i cc ss h1 h2 h3 h4 y rs bz iv lz sy xv tx hz v H locs ls hQ hR hP hD hS hl
    obtain ⟨hx, hb, hml, hown, hts, hXs, hbl, hK, hX⟩ := C
    have hbA : ¬ AD s b := Nat.not_le.mpr hbl
    refine lv_iload_n hx hb dL_law_18 rfl (lv_at hl 0 rfl) ?_
    refine lv_aload_n hx hb dL_law_19 rfl (lv_at hl 3 rfl) ?_
    refine va_slen hx hb hXs hbl hbA hS dL_law_20 ?_
    refine lv_iconst (v := nI 4) hx hb dL_law_21 (by decide) ?_
    refine lv_isub hx hb dL_law_22 ?_
    refine lv_icmp_gt (tgt := 1424) hx hb dL_law_23 (by decide) (fun _ => ?_) (fun h => absurd ((law_gt hL (by omega)).mpr (by omega)) h)
    refine lv_iconst (v := 1) hx hb dL_law_1424 (by decide) ?_
    refine va_forget (fun q hq => hS.2.2 q hq) ?_
    refine W.widen (k := 600000) (n := 7302250) (Nat.le_trans (Nat.le_add_right _ _) h3) (Nat.le_trans (Nat.le_add_right _ _) h4) ?_
    exact lw_ret (d0 := s.drawn) (Drawn.sameBut.refl s.drawn lw_cs) hx hb hr hlocks dL_law_1425
  | succ n ih =>
    intro i cc ss h1 h2 h3 h4 y rs bz iv lz sy xv tx hz v H locs ls hQ hR hP hD hS hl
    obtain ⟨hx, hb, hml, hown, hts, hXs, hbl, hK, hX⟩ := id C
    have hbA : ¬ AD s b := Nat.not_le.mpr hbl
    refine lv_iload_n hx hb dL_law_18 rfl (lv_at hl 0 rfl) ?_
    refine lv_aload_n hx hb dL_law_19 rfl (lv_at hl 3 rfl) ?_
    refine va_slen hx hb hXs hbl hbA hS dL_law_20 ?_
    refine lv_iconst (v := nI 4) hx hb dL_law_21 (by decide) ?_
    refine lv_isub hx hb dL_law_22 ?_
    refine lv_icmp_gt (tgt := 1424) hx hb dL_law_23 (by decide) (fun _ => ?_) (fun h => ?_)
    · refine lv_iconst (v := 1) hx hb dL_law_1424 (by decide) ?_
      refine va_forget (fun q hq => hS.2.2 q hq) ?_
      refine W.widen (k := 600000) (n := 7302250) (Nat.le_trans (Nat.le_add_right _ _) h3) (Nat.le_trans (Nat.le_add_right _ _) h4) ?_
      exact lw_ret (d0 := s.drawn) (Drawn.sameBut.refl s.drawn lw_cs) hx hb hr hlocks dL_law_1425
    · have hi : i + 3 < L := by
        have hn : ¬ L < i + 4 := fun z => h ((law_gt hL (by omega)).mpr z)
        omega
      refine lv_aload_n hx hb dL_law_26 rfl (lv_at hl 3 rfl) ?_
      refine lv_iload_n hx hb dL_law_27 rfl (lv_at hl 0 rfl) ?_
      refine va_sld hx hb hXs hbl hbA hS (vp_in_nI (show i < L by omega) (by omega)) dL_law_28 ?_
      refine lv_bipush (v := nI 63) hx hb dL_law_29 (by decide) ?_
      refine lv_iand hx hb dL_law_31 ?_
      refine law_sw (K := K) (o := o) C hi hL (by omega) (by omega) ?_ _ y rs bz iv lz sy xv tx hz v H locs ls hQ hR hP hD hS hl
      intro y rs bz iv lz sy xv tx hz v H locs ls hQ hR hP hD hS hl
      refine lv_iinc (v := nI (i + 4)) (lv' := [(3, .int (nI (i + 4))), (2, .ref (o 0)), (1, .ref (kX K 0)), (0, .ref b)]) hx hb dL_law_1418 hl (k := 0) rfl (by rw [show Int32.ofInt 4 = nI 4 by decide]; exact nI_add i 4) (by decide) rfl (fun ls hl => ?_)
      refine lv_goto (tgt := 18) hx hb dL_law_1421 (by decide) ?_
      exact ih (i + 4) (cc + 64) (ss + 4000) (by omega) (by omega) (by omega) (by omega) y rs bz iv lz sy xv tx hz v H locs ls hQ hR hP hD hS hl
