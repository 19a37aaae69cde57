/-! CONSTRUCTORS: input, line, history -/
theorem zAtQ {D : va_G} {a n : Nat} {c : ClassId} {f g : Nat → Option Nat} {H : Heap} (h : ∀ j, j < n → f j = g j) (q : va_at D vwCl (a, .inl (c, n, .inr (.inr (.inr (.inr f))))) H) : va_at D vwCl (a, .inl (c, n, .inr (.inr (.inr (.inr g))))) H := by
  have e : vp_cell c (n, .inr (.inr (.inr (.inr f)))) = vp_cell c (n, .inr (.inr (.inr (.inr g)))) := by rw [vp_cell_q, vp_cell_q]; exact zArr (fun j hj => congrArg va_rf (h j hj))
  show H[a]? = some (vp_cell c (n, .inr (.inr (.inr (.inr g)))))
  rw [← e]; exact q
theorem zEqQ {D : va_G} {a n : Nat} {c : ClassId} {f g : Nat → Option Nat} {H : Heap} {c0 : Nat × va_E} {Y : va_W} (h : ∀ j, j < n → f j = g j) (hP : va_P D vwCl (c0 :: (a, .inl (c, n, .inr (.inr (.inr (.inr f))))) :: Y) H) : va_P D vwCl (c0 :: (a, .inl (c, n, .inr (.inr (.inr (.inr g))))) :: Y) H := fun k q hk => by
  match k, hk with
  | 0, hk => exact hP 0 q hk
  | 1, hk =>
    have e : (a, (Sum.inl (c, n, .inr (.inr (.inr (.inr g)))) : va_E)) = q := Option.some.inj hk
    subst e
    exact zAtQ h (hP 1 _ rfl)
  | k + 2, hk => exact hP (k + 2) q hk
section ZNEWQ
variable {D : va_G} {ct : Nat → ClassId} {g : XG} {p : Program} {l : Launch} {e : Env} {R : Room} {s : State} {m : MethodId} {args : Array Value} {below : List Frame} {meth : Method} {c : Code} {H : Heap} {locs : List Loc} {cells slots : Nat} {Q : State → Prop}
variable {cc : ByteArray} {pc : Nat} {ls : Array Slot} {rest st0 : List Value} {A : Nat → Prop} {ws : va_W} {a a0 : Nat} {S : Type}
theorem zQast (hx : p.tables.exec = Jvm.exec) (hb : c.code = cc) (hK : zK D ct s) (hP : va_P D vwCl ws H) (hD : va_D A ws) (hS : va_S A s.heap H locs) (q0 qk : Nat) {n v i : Nat} {vs : List Value} {f : Nat → Option Nat} (ha : ws[q0]? = some (a, .inl (ct 5, n, .inr (.inr (.inr (.inr f)))))) (hv : ws[qk]? = some (v, .inr (8, vs))) (hi : i < n) (hn : n < 2 ^ 31) (hdg : decode cc pc = .ok (.aastore, 1))
    (kk : ∀ (H1 : Heap) (locs1 : List Loc), va_P D vwCl (ws.set q0 (a, .inl (ct 5, n, .inr (.inr (.inr (.inr (va_up f i (some v)))))))) H1 → va_D A (ws.set q0 (a, .inl (ct 5, n, .inr (.inr (.inr (.inr (va_up f i (some v)))))))) → va_S A s.heap H1 locs1 → W p l e R s m args below meth c H1 locs1 cells slots Q (F0 m (pc + 1) ls rest)) : W p l e R s m args below meth c H locs cells slots Q (F0 m pc ls (.ref v :: .int (nI i) :: .ref a :: rest)) :=
  va_astq (r := (RX9, TX9, 16)) hx hb hK hP hD hS q0 5 qk 8 ha rfl hv rfl (vp_in_nI hi hn) hdg (by rw [nI_clamp (Nat.lt_trans hi hn)]; exact kk)
theorem zNewQ {N index : Nat} {own : String} (hx : p.tables.exec = Jvm.exec) (hb : c.code = cc) (hown : s.vm.findClass own = some m.cls) (hclink : (Cond.classLink own index RX9).before args s = true) (hover : va_AO RX9 s) (hK : zK D ct s) (hP : va_P D vwCl ws H) (hD : va_D A ws) (hS : va_S A s.heap H locs) (hA : ∀ q, s.heap.size ≤ q → A q) (hN : N < 65536) (hcells : cells + 1 ≤ R.cells) (hslots : slots + N ≤ R.slots) (hdg : decode cc pc = .ok (.anewarray index, 3))
    (kk : ∀ (q : Nat) (H1 : Heap), va_P D vwCl ((q, .inl (ct 5, N, .inr (.inr (.inr (.inr (fun _ => none)))))) :: ws) H1 → va_D A ((q, .inl (ct 5, N, .inr (.inr (.inr (.inr (fun _ => none)))))) :: ws) → va_S A s.heap H1 locs → W p l e R s m args below meth c H1 locs (cells + 1) (slots + N) Q (F0 m (pc + 3) ls (.ref q :: rest))) : W p l e R s m args below meth c H locs cells slots Q (F0 m pc ls (.int (nI N) :: rest)) := by
  refine va_newq (N' := N) hx hb hown hclink hover hK hP hD hS hA (nI_pos (by omega)) (nI_clamp (by omega)) (by omega) hcells hslots hdg (fun q cA H1 hK1 hP1 hD1 hS1 => ?_)
  have e1 : cA = ct 5 := by
    obtain ⟨_, _, _, _, _, h1⟩ := (hK1.2 6 (cA, .object RX9) rfl).2
    obtain ⟨_, _, _, _, _, h2⟩ := (hK.2 5 (ct 5, .object RX9) rfl).2
    exact Option.some.inj (h1.symm.trans h2)
  subst e1
  exact kk q H1 (zPp (List.perm_append_singleton _ _) hP1) (zDp (List.perm_append_singleton _ _) hD1) hS1
end ZNEWQ
def zPY (D : va_G) (ct : Nat → ClassId) (g : XG) (w : va_W) (sz : Nat) : State → Prop := fun U => zPX D ct g w sz U ∧ va_AO RX9 U
theorem zPY_blind {D : va_G} {ct : Nat → ClassId} {g : XG} {av : List Value} {w : va_W} {sz : Nat} : FrameBlind (va_Pc av (zPY D ct g w sz)) :=
  fun a U f mk q => by
    obtain ⟨q0, qX, qO⟩ := q
    exact ⟨q0, (zPX_blind a U f mk ⟨q0, qX⟩).2, va_AO.moved (u := U) (U := U.calling f mk a) (Vm.Alike.refl U.vm) qO⟩
def MY (D : va_G) (ct : Nat → ClassId) (g : XG) (l : Launch) (y : MethodName) (ws : List Cond) (rm : Room) (w : va_W) (av : List Value) (Qc : (Nat → Prop) → Array Value → State → Outcome → State → Prop) : Prop :=
  ∀ sz : Nat, Met l y ws rm (va_Pc av (zPY D ct g w sz)) (Qc (va_A w sz)) rm.cells rm.slots (va_A w sz)
theorem MYof {D : va_G} {ct : Nat → ClassId} {g : XG} {l : Launch} {y : MethodName} {ws ws' : List Cond} {rm : Room} {w : va_W} {av : List Value} {cc : ByteArray} {maxL : Nat} {ret : Option FieldType} {Qc : (Nat → Prop) → Array Value → State → Outcome → State → Prop} (hy : plainName y.cls = true) (hw : ws = Cond.code y cc maxL ret :: ws') (hlen : (lg_sl av).length ≤ maxL)
    (body : ∀ (p : Program) (e : Env) (s : State) (m : MethodId) (args : Array Value) (below : List Frame) (meth : Method) (c : Code) (A : Nat → Prop) (H : Heap) (locs : List Loc), zF p y ws cc maxL ret s m args meth c → va_P D vwCl w H → zK D ct s → va_D A w → va_S A s.heap H locs → (∀ q, s.heap.size ≤ q → A q) → zX g A s s.heap → va_AO RX9 s →
      ∀ ls : Array Slot, lv_has ls maxL (lv_args 0 av) → W p l e rm s m args below meth c H locs 0 0 (MQ below (Qc A) args s rm.cells rm.slots A) (F0 m 0 ls [])) : MY D ct g l y ws rm w av Qc := by
  intro sz
  refine Met.ofW (cc := cc) (maxL := maxL) (ret := ret) hy hw ?_
  intro p e s m args below meth c s₁ B hml hv
  obtain ⟨rfl, ⟨⟨hsz, hP, hK, hD0⟩, hX⟩, hO⟩ := hv
  subst hsz
  have hD := hD0.self (sz := s.heap.size)
  have hl := lv_entry av (n := maxL) hlen
  rw [lg_entry_eq]
  exact body p e s m _ below meth c (va_A w s.heap.size) s.heap [] ⟨B.exec, B.bytes, B.returns, B.notSynchronized, hml, findClass_of_methodNamed B.named, atoms_spec (ws := ws) B.pre, (name_of_methodNamed B.named B.method).1⟩ hP hK hD va_S.rf (fun q h => Or.inr h) hX hO _ hl
section ZWY
variable {D : va_G} {ct : Nat → ClassId} {g : XG} {p : Program} {l : Launch} {e : Env} {R : Room} {s : State} {m : MethodId} {args : Array Value} {below : List Frame} {meth : Method} {c : Code} {H : Heap} {locs : List Loc} {cells slots : Nat} {Q : State → Prop}
variable {cc : ByteArray} {pc : Nat} {ls : Array Slot} {rest st0 : List Value} {A : Nat → Prop} {ws : va_W} {a a0 : Nat} {S : Type}
variable {y : MethodName} {bytes : ByteArray} {maxL nL index n : Nat} {cws : List Cond} {rm : Room} {Ts : List Cond} {own C : String} {b : Addr} {As : List Value} {wc : va_W} {wf : S → va_W}
theorem zNVY (As rest : List Value) {post : S → Prop} (hM : MY D ct g l y cws rm wc (.ref b :: As) (QV D ct post wf)) (hx : p.tables.exec = Jvm.exec) (hb : c.code = cc) (hml : c.maxLocals = nL) (hown : s.vm.findClass own = some m.cls) (hts : ∀ w ∈ Ts, w.before args s = true) (cw : CallB R s args own index y bytes maxL none cws rm rm.cells rm.slots n ∧ y.name = "<init>" ∧ (Cond.instanceMethod y).before args s = true) (hK : zK D ct s) (hP : va_P D vwCl wc H) (hD : va_D A wc) (hS : va_S A s.heap H locs) (hA : ∀ q, s.heap.size ≤ q → A q) (hX : zX g A s s.heap) (hO : va_AO RX9 s) (hn : As.length = n) (hsize : ls.size = nL) (hst : st0 = As.reverse ++ .ref b :: rest) (hW : (rest.map fun v => v.category).sum ≤ 8) (hdg : decode cc pc = .ok (.invokespecial index, 3)) (hf : cells + rm.cells ≤ R.cells ∧ slots + rm.slots ≤ R.slots) (kk : ∀ (u : S) (H1 : Heap) (locs1 : List Loc), post u → va_P D vwCl (wf u) H1 → va_D A (wf u) → va_S A s.heap H1 locs1 → W p l e R s m args below meth c H1 locs1 (cells + rm.cells) (slots + rm.slots) Q (F0 m (pc + 3) ls (rest))) : W p l e R s m args below meth c H locs cells slots Q (F0 m pc ls st0) :=
  zCallV (va_runI (g := F0 m pc ls st0) ⟨hx, hb, hml, hown, hts⟩ (hM H.size) cw ⟨zPY_blind, fun U hU hW => ⟨rfl, (zPreX hX hS hA hK hP hD (.ref b :: As) U hU hW).2, va_AO.moved hW.alike hO⟩⟩ rfl hn hsize hst (lv_room hW) hdg hf) hD hS hA kk
end ZWY
abbrev rmX4_init : Room := { frames := 1, cells := 2, slots := 63, locals := 20 }
theorem in_X4_init : ∀ w ∈ u_ws RX4 TX4 5, w ∈ wsX4_init := by decide +kernel
def i00 : IS := (fun _ => 0, 0, 0, fun _ => 0, 0)
set_option maxHeartbeats 4000000 in
set_option maxRecDepth 100000 in
theorem kX4_init {D : va_G} {ct : Nat → ClassId} {g : XG} {l : Launch} (o9 : Nat) (R : va_W) : MX D ct g l yX4_init wsX4_init rmX4_init ((o9, .inr (3, [.null, .int (nI 0), .null, .null, .int (nI 0)])) :: R) [.ref o9] (QV D ct (fun o : Nat → Nat => o 0 = o9) (fun o : Nat → Nat => IW ct o (xE g) i00 R)) := by
  refine MXof (cc := cX4_init) (maxL := 1) (ret := none) (by decide) rfl (Nat.le_of_ble_eq_true rfl) ?_
  intro p e s m args below meth c A H locs F hP hK hD hS hA hX ls hl
  obtain ⟨hx, hb, hr, hlocks, hml, hown, hts, hin⟩ := F
  have hl : lv_has ls 1 [(0, .ref o9)] := hl
  have h_own := in_X4_init
  refine lv_aload_n hx hb dX4_init_0 rfl (lv_at hl 0 rfl) ?_
  refine W.objInit hx hb hown (hts (.methodLink RX4 3 objectInit) (by decide +kernel)) (hts (.instanceMethod objectInit) (by decide +kernel)) (hts (.code objectInit ⟨#[0xb1]⟩ 1 none) (by decide +kernel)) rfl (by rw [hml]; exact hl.1) rfl dX4_init_1 (Nat.le_of_ble_eq_true rfl) (Nat.le_of_ble_eq_true rfl) ?_
  refine W.eq (g2 := F0 m 4 ls []) rfl ?_
  refine lv_aload_n hx hb dX4_init_4 rfl (lv_at hl 0 rfl) ?_
  refine lv_bipush (v := nI (60)) hx hb dX4_init_5 (by decide) ?_
  refine zNewC (N := 60) hx hb (hts (.arrayClass .char) (by decide +kernel)) hK hP hD hS hA (by decide) (Nat.le_of_ble_eq_true rfl) (Nat.le_of_ble_eq_true rfl) dX4_init_7 (fun q1 H hP hD hS => ?_)
  refine va_putF (ci := 3) (v := .ref q1) (ty := tyX4 0) hx hb hts h_own tyX4 tyX4_ok nmX4 hown hK hP hD hS 1 rfl rfl 0 (by decide) (hts (.fieldLink RX4 9 "CartArguments$Input" "signs" "[C") (by decide +kernel)) (fun _ h9 => h9) rfl (hin.trans rfl) rfl (tyX4_ok 0 (by decide)) rfl rfl (Nat.le_of_ble_eq_true rfl) dX4_init_9 (fun H locs hP hD hS => ?_)
  have hP : va_P D vwCl ((q1, aC ct 60 (fun _ => 0)) :: (o9, .inr (3, [.ref q1, .int (nI 0), .null, .null, .int (nI 0)])) :: R) H := hP
  have hD : va_D A ((q1, aC ct 60 (fun _ => 0)) :: (o9, .inr (3, [.ref q1, .int (nI 0), .null, .null, .int (nI 0)])) :: R) := hD
  refine lv_aload_n hx hb dX4_init_12 rfl (lv_at hl 0 rfl) ?_
  refine va_gets (v := .ref (xE g 0)) hx hb hX.g5 hS hown (hts (.fieldLink RX4 15 "CartArguments$Command" "PREMISE" "LCartArguments$Command;") (by decide +kernel)) (fun _ h => h) dX4_init_13 ?_
  refine va_put (ci := 3) (v := .ref (xE g 0)) (ty := tyX4 2) hx hb hts h_own tyX4 tyX4_ok nmX4 hown hK hP hD hS 1 rfl rfl 2 (by decide) (hts (.fieldLink RX4 21 "CartArguments$Input" "command" "LCartArguments$Command;") (by decide +kernel)) (fun _ h9 => h9) rfl (tyX4_ok 2 (by decide)) rfl rfl (Nat.le_of_ble_eq_true rfl) dX4_init_16 (fun H locs hP hD hS => ?_)
  have hP : va_P D vwCl ((q1, aC ct 60 (fun _ => 0)) :: (o9, .inr (3, [.ref q1, .int (nI 0), .ref (xE g 0), .null, .int (nI 0)])) :: R) H := hP
  have hD : va_D A ((q1, aC ct 60 (fun _ => 0)) :: (o9, .inr (3, [.ref q1, .int (nI 0), .ref (xE g 0), .null, .int (nI 0)])) :: R) := hD
  refine lv_aload_n hx hb dX4_init_19 rfl (lv_at hl 0 rfl) ?_
  refine lv_iconst (v := nI (3)) hx hb dX4_init_20 (by decide) ?_
  refine zNewI (N := 3) hx hb (hts (.arrayClass .int) (by decide +kernel)) hK hP hD hS hA (by decide) (Nat.le_of_ble_eq_true rfl) (Nat.le_of_ble_eq_true rfl) dX4_init_21 (fun q2 H hP hD hS => ?_)
  refine va_putF (ci := 3) (v := .ref q2) (ty := tyX4 3) hx hb hts h_own tyX4 tyX4_ok nmX4 hown hK hP hD hS 2 rfl rfl 3 (by decide) (hts (.fieldLink RX4 24 "CartArguments$Input" "numbers" "[I") (by decide +kernel)) (fun _ h9 => h9) rfl (hin.trans rfl) rfl (tyX4_ok 3 (by decide)) rfl rfl (Nat.le_of_ble_eq_true rfl) dX4_init_23 (fun H locs hP hD hS => ?_)
  have hP : va_P D vwCl ((q2, aI ct 3 (fun _ => 0)) :: (q1, aC ct 60 (fun _ => 0)) :: (o9, .inr (3, [.ref q1, .int (nI 0), .ref (xE g 0), .ref q2, .int (nI 0)])) :: R) H := hP
  have hD : va_D A ((q2, aI ct 3 (fun _ => 0)) :: (q1, aC ct 60 (fun _ => 0)) :: (o9, .inr (3, [.ref q1, .int (nI 0), .ref (xE g 0), .ref q2, .int (nI 0)])) :: R) := hD
  have hP := zPp ((List.reverse_perm [(q2, aI ct 3 (fun _ => 0)), (q1, aC ct 60 (fun _ => 0)), (o9, .inr (3, [.ref q1, .int (nI 0), .ref (xE g 0), .ref q2, .int (nI 0)]))]).symm.append_right R) hP
  have hD := zDp ((List.reverse_perm [(q2, aI ct 3 (fun _ => 0)), (q1, aC ct 60 (fun _ => 0)), (o9, .inr (3, [.ref q1, .int (nI 0), .ref (xE g 0), .ref q2, .int (nI 0)]))]).symm.append_right R) hD
  exact zVret (wf := fun o : Nat → Nat => IW ct o (xE g) i00 R) (fun k => [o9, q1, q2].getD k 0) hx hb hr hlocks hK hP hD hS dX4_init_26 rfl
abbrev rmJ5_init_d00df : Room := { frames := 1, cells := 1, slots := 16, locals := 20 }
theorem in_J5_init_d00df : ∀ w ∈ u_ws RJ4 TJ4 4, w ∈ wsJ5_init_d00df := by decide +kernel
set_option maxHeartbeats 4000000 in
set_option maxRecDepth 100000 in
theorem kJ5_init_d00df {D : va_G} {ct : Nat → ClassId} {g : XG} {l : Launch} (o9 : Nat) (R : va_W) : MX D ct g l yJ5_init_d00df wsJ5_init_d00df rmJ5_init_d00df ((o9, .inr (0, [.null, .int (nI 0), .int 0, .int (nI 0)])) :: R) [.ref o9, .int (nI 16)] (QV D ct (fun _ : Nat => True) (fun z : Nat => LW ct (fun _ => o9) (z, 16, fun _ => 0, 0, 0) R)) := by
  refine MXof (cc := cJ5_init_d00df) (maxL := 2) (ret := none) (by decide) rfl (Nat.le_of_ble_eq_true rfl) ?_
  intro p e s m args below meth c A H locs F hP hK hD hS hA hX ls hl
  obtain ⟨hx, hb, hr, hlocks, hml, hown, hts, hin⟩ := F
  have hl : lv_has ls 2 [(0, .ref o9), (1, .int (nI 16))] := hl
  have h_own := in_J5_init_d00df
  refine lv_aload_n hx hb dJ5_init_d00df_0 rfl (lv_at hl 0 rfl) ?_
  refine W.objInit hx hb hown (hts (.methodLink RJ5 3 objectInit) (by decide +kernel)) (hts (.instanceMethod objectInit) (by decide +kernel)) (hts (.code objectInit ⟨#[0xb1]⟩ 1 none) (by decide +kernel)) rfl (by rw [hml]; exact hl.1) rfl dJ5_init_d00df_1 (Nat.le_of_ble_eq_true rfl) (Nat.le_of_ble_eq_true rfl) ?_
  refine W.eq (g2 := F0 m 4 ls []) rfl ?_
  refine va_gets (v := .int (nI 1)) hx hb hX.g8 hS hown (hts (.fieldLink RJ5 18 "java/lang/String" "COMPACT_STRINGS" "Z") (by decide +kernel)) (fun _ h => h) dJ5_init_d00df_4 ?_
  refine lv_if_eq (tgt := 25) hx hb dJ5_init_d00df_7 (by decide) (fun c9 => absurd c9 (by decide)) (fun c9 => ?_)
  refine lv_aload_n hx hb dJ5_init_d00df_10 rfl (lv_at hl 0 rfl) ?_
  refine lv_iload_n hx hb dJ5_init_d00df_11 rfl (lv_at hl 1 rfl) ?_
  refine zNewB (N := 16) hx hb (hts (.arrayClass .byte) (by decide +kernel)) hK hP hD hS hA (by decide) (Nat.le_of_ble_eq_true rfl) (Nat.le_of_ble_eq_true rfl) dJ5_init_d00df_12 (fun q1 H hP hD hS => ?_)
  refine va_put (ci := 0) (v := .ref q1) (ty := tyJ4 0) hx hb hts h_own tyJ4 tyJ4_ok nmJ4 hown hK hP hD hS 1 rfl rfl 0 (by decide) (hts (.fieldLink RJ5 15 "java/lang/AbstractStringBuilder" "value" "[B") (by decide +kernel)) (fun _ h9 => h9) rfl (tyJ4_ok 0 (by decide)) rfl rfl (Nat.le_of_ble_eq_true rfl) dJ5_init_d00df_14 (fun H locs hP hD hS => ?_)
  have hP : va_P D vwCl ((q1, aB ct 16 (fun _ => 0)) :: (o9, .inr (0, [.ref q1, .int (nI 0), .int 0, .int (nI 0)])) :: R) H := hP
  have hD : va_D A ((q1, aB ct 16 (fun _ => 0)) :: (o9, .inr (0, [.ref q1, .int (nI 0), .int 0, .int (nI 0)])) :: R) := hD
  refine lv_aload_n hx hb dJ5_init_d00df_17 rfl (lv_at hl 0 rfl) ?_
  refine lv_iconst (v := nI (0)) hx hb dJ5_init_d00df_18 (by decide) ?_
  refine va_put (ci := 0) (v := .int (nI 0)) (ty := tyJ4 1) hx hb hts h_own tyJ4 tyJ4_ok nmJ4 hown hK hP hD hS 1 rfl rfl 1 (by decide) (hts (.fieldLink RJ5 22 "java/lang/AbstractStringBuilder" "coder" "B") (by decide +kernel)) (fun _ h9 => h9) rfl (tyJ4_ok 1 (by decide)) rfl rfl (Nat.le_of_ble_eq_true rfl) dJ5_init_d00df_19 (fun H locs hP hD hS => ?_)
  have hP : va_P D vwCl ((q1, aB ct 16 (fun _ => 0)) :: (o9, .inr (0, [.ref q1, .int (nI 0), .int 0, .int (nI 0)])) :: R) H := hP
  have hD : va_D A ((q1, aB ct 16 (fun _ => 0)) :: (o9, .inr (0, [.ref q1, .int (nI 0), .int 0, .int (nI 0)])) :: R) := hD
  refine lv_goto (tgt := 38) hx hb dJ5_init_d00df_22 (by decide) ?_
  have hP := zPp ((List.reverse_perm [(q1, aB ct 16 (fun _ => 0)), (o9, .inr (0, [.ref q1, .int (nI 0), .int 0, .int (nI 0)]))]).symm.append_right R) hP
  have hD := zDp ((List.reverse_perm [(q1, aB ct 16 (fun _ => 0)), (o9, .inr (0, [.ref q1, .int (nI 0), .int 0, .int (nI 0)]))]).symm.append_right R) hD
  exact zVret (wf := fun z : Nat => LW ct (fun _ => o9) (z, 16, fun _ => 0, 0, 0) R) q1 hx hb hr hlocks hK hP hD hS dJ5_init_d00df_38 trivial
abbrev rmJ4_init_da8c8 : Room := { frames := 2, cells := 1, slots := 16, locals := 60 }
set_option maxHeartbeats 4000000 in
set_option maxRecDepth 100000 in
theorem kJ4_init_da8c8 {D : va_G} {ct : Nat → ClassId} {g : XG} {l : Launch} (o9 : Nat) (R : va_W) : MX D ct g l yJ4_init_da8c8 wsJ4_init_da8c8 rmJ4_init_da8c8 ((o9, .inr (0, [.null, .int (nI 0), .int 0, .int (nI 0)])) :: R) [.ref o9] (QV D ct (fun _ : Nat => True) (fun z : Nat => LW ct (fun _ => o9) (z, 16, fun _ => 0, 0, 0) R)) := by
  refine MXof (cc := cJ4_init_da8c8) (maxL := 1) (ret := none) (by decide) rfl (Nat.le_of_ble_eq_true rfl) ?_
  intro p e s m args below meth c A H locs F hP hK hD hS hA hX ls hl
  obtain ⟨hx, hb, hr, hlocks, hml, hown, hts, hin⟩ := F
  have hl : lv_has ls 1 [(0, .ref o9)] := hl
  refine lv_aload_n hx hb dJ4_init_da8c8_0 rfl (lv_at hl 0 rfl) ?_
  refine lv_bipush (v := nI (16)) hx hb dJ4_init_da8c8_1 (by decide) ?_
  refine zNVX [.int (nI 16)] [] (kJ5_init_d00df o9 R) hx hb hml hown hts (cwI 1 hts gJ4_init_da8c8_J5_init_d00df rfl rfl rfl (hts (.initialized RJ5) (by decide +kernel)) (hts (.methodLink RJ4 1 yJ5_init_d00df) (by decide +kernel)) (hts (.instanceMethod yJ5_init_d00df) (by decide +kernel)) rfl (by decide +kernel) ⟨(Nat.le_of_ble_eq_true rfl), (Nat.le_of_ble_eq_true rfl)⟩) hK hP hD hS hA hX rfl hl.1 rfl (Nat.le_of_ble_eq_true rfl) dJ4_init_da8c8_3 ⟨(Nat.le_of_ble_eq_true rfl), (Nat.le_of_ble_eq_true rfl)⟩ (fun u H locs hu hP hD hS => ?_)
  exact zVret (wf := fun z : Nat => LW ct (fun _ => o9) (z, 16, fun _ => 0, 0, 0) R) u hx hb hr hlocks hK hP hD hS dJ4_init_da8c8_6 trivial
abbrev rmX3_init : Room := { frames := 2, cells := 109, slots := 909, locals := 60 }
theorem in_X3_init : ∀ w ∈ u_ws RX3 TX3 3, w ∈ wsX3_init := by decide +kernel
theorem in_X3_init_X9 : ∀ w ∈ u_ws RX9 TX9 16, w ∈ wsX3_init := by decide +kernel
theorem ty9_v : ∀ j, j < 16 → defaultValue (tyX9 j) = vp_V [.int (nI 0), .null, .null, .null, .null, .int (nI 0), .null, .null, .null, .int (nI 0), .null, .null, .null, .null, .float 0, .int (nI 0)] j := fun j hj => by
  rcases (show j = 0 ∨ j = 1 ∨ j = 2 ∨ j = 3 ∨ j = 4 ∨ j = 5 ∨ j = 6 ∨ j = 7 ∨ j = 8 ∨ j = 9 ∨ j = 10 ∨ j = 11 ∨ j = 12 ∨ j = 13 ∨ j = 14 ∨ j = 15 by omega) with rfl | rfl | rfl | rfl | rfl | rfl | rfl | rfl | rfl | rfl | rfl | rfl | rfl | rfl | rfl | rfl <;> rfl
set_option maxHeartbeats 4000000 in
set_option maxRecDepth 100000 in
theorem kX3_init {D : va_G} {ct : Nat → ClassId} {g : XG} {l : Launch} (o9 : Nat) (R : va_W) : MY D ct g l yX3_init wsX3_init rmX3_init ((o9, .inr (2, [.null, .int (nI 0), .int (nI 0)])) :: R) [.ref o9] (QV D ct (fun o : (Nat → Nat) × (Nat → Nat → Nat) => o.1 0 = o9) (fun o => HW ct o.1 o.2 (0, 0, fun _ => y00) R)) := by
  refine MYof (cc := cX3_init) (maxL := 2) (ret := none) (by decide) rfl (Nat.le_of_ble_eq_true rfl) ?_
  intro p e s m args below meth c A H locs F hP hK hD hS hA hX hO ls hl
  obtain ⟨hx, hb, hr, hlocks, hml, hown, hts, hin⟩ := F
  have hl : lv_has ls 2 [(0, .ref o9)] := hl
  have h_own := in_X3_init
  refine lv_aload_n hx hb dX3_init_0 rfl (lv_at hl 0 rfl) ?_
  refine W.objInit hx hb hown (hts (.methodLink RX3 3 objectInit) (by decide +kernel)) (hts (.instanceMethod objectInit) (by decide +kernel)) (hts (.code objectInit ⟨#[0xb1]⟩ 1 none) (by decide +kernel)) rfl (by rw [hml]; exact hl.1) rfl dX3_init_1 (Nat.le_of_ble_eq_true rfl) (Nat.le_of_ble_eq_true rfl) ?_
  refine W.eq (g2 := F0 m 4 ls []) rfl ?_
  refine lv_aload_n hx hb dX3_init_4 rfl (lv_at hl 0 rfl) ?_
  refine lv_bipush (v := nI (9)) hx hb dX3_init_5 (by decide) ?_
  refine zNewQ (N := 9) hx hb hown (hts (.classLink RX3 9 RX9) (by decide +kernel)) hO hK hP hD hS hA (by decide) (Nat.le_of_ble_eq_true rfl) (Nat.le_of_ble_eq_true rfl) dX3_init_7 (fun q1 H hP hD hS => ?_)
  refine va_putF (ci := 2) (v := .ref q1) (ty := tyX3 0) hx hb hts h_own tyX3 tyX3_ok nmX3 hown hK hP hD hS 1 rfl rfl 0 (by decide) (hts (.fieldLink RX3 11 "CartArguments$History" "slots" "[LCartArguments$Yard;") (by decide +kernel)) (fun _ h9 => h9) rfl (hin.trans rfl) rfl (tyX3_ok 0 (by decide)) rfl rfl (Nat.le_of_ble_eq_true rfl) dX3_init_10 (fun H locs hP hD hS => ?_)
  have hP : va_P D vwCl ((q1, .inl (ct 5, 9, .inr (.inr (.inr (.inr (fun _ => none)))))) :: (o9, .inr (2, [.ref q1, .int (nI 0), .int (nI 0)])) :: R) H := hP
  have hD : va_D A ((q1, .inl (ct 5, 9, .inr (.inr (.inr (.inr (fun _ => none)))))) :: (o9, .inr (2, [.ref q1, .int (nI 0), .int (nI 0)])) :: R) := hD
  have hP : va_P D vwCl ((o9, .inr (2, [.ref q1, .int (nI 0), .int (nI 0)])) :: (q1, .inl (ct 5, 9, .inr (.inr (.inr (.inr (fun _ => none)))))) :: R) H := zPp (List.Perm.swap _ _ _) hP
  have hD : va_D A ((o9, .inr (2, [.ref q1, .int (nI 0), .int (nI 0)])) :: (q1, .inl (ct 5, 9, .inr (.inr (.inr (.inr (fun _ => none)))))) :: R) := zDp (List.Perm.swap _ _ _) hD
  refine lv_iconst (v := nI (0)) hx hb dX3_init_13 (by decide) ?_
  refine lv_istore_n (lv' := [(1, .int (nI (0))), (0, .ref o9)]) hx hb dX3_init_14 rfl hl (by decide) rfl (fun ls hl => ?_)
  refine lv_iload_n hx hb dX3_init_15 rfl (lv_at hl 0 rfl) ?_
  refine lv_bipush (v := nI (8)) hx hb dX3_init_16 (by decide) ?_
  refine zN_icmp_gt (tgt := 40) hx hb (by decide) (by decide) dX3_init_18 (by decide) (fun c18 => absurd c18 (by decide)) (fun c18 => ?_)
  refine lv_aload_n hx hb dX3_init_21 rfl (lv_at hl 1 rfl) ?_
  refine va_get (ci := 2) (v := .ref q1) hx hb hts h_own hown hK hP 0 rfl rfl 0 (by decide) (hts (.fieldLink RX3 11 "CartArguments$History" "slots" "[LCartArguments$Yard;") (by decide +kernel)) (fun _ h9 => h9) rfl dX3_init_22 ?_
  refine lv_iload_n hx hb dX3_init_25 rfl (lv_at hl 0 rfl) ?_
  refine va_new (ci := 8) (fs := [.int (nI 0), .null, .null, .null, .null, .int (nI 0), .null, .null, .null, .int (nI 0), .null, .null, .null, .null, .float 0, .int (nI 0)]) (C := RX9) (T := TX9) (N := 16) hx hb hts in_X3_init_X9 tyX9 tyX9_ok hown (hts (.classLink RX3 9 RX9) (by decide +kernel)) (hts (.instantiable RX9 16) (by decide +kernel)) (hts (.initialized RX9) (by decide +kernel)) hK hP hD hS hA rfl ty9_v (Nat.le_of_ble_eq_true rfl) (Nat.le_of_ble_eq_true rfl) dX3_init_26 (fun n0 H hP hD hS => ?_)
  have hP := zPp (List.perm_append_singleton _ _) hP
  have hD := zDp (List.perm_append_singleton _ _) hD
  refine lv_dup hx hb dX3_init_29 rfl ?_
  refine zNV [] [.ref n0, .int (nI (0)), .ref q1] (kX9_init n0 ((o9, .inr (2, [.ref q1, .int (nI 0), .int (nI 0)])) :: (q1, .inl (ct 5, 9, .inr (.inr (.inr (.inr (fun _ => none)))))) :: R)) hx hb hml hown hts (cwI 0 hts gX3_init_X9_init rfl rfl rfl (hts (.initialized RX9) (by decide +kernel)) (hts (.methodLink RX3 17 yX9_init) (by decide +kernel)) (hts (.instanceMethod yX9_init) (by decide +kernel)) rfl (by decide +kernel) ⟨(Nat.le_of_ble_eq_true rfl), (Nat.le_of_ble_eq_true rfl)⟩) hK hP hD hS hA rfl hl.1 rfl (Nat.le_of_ble_eq_true rfl) dX3_init_30 ⟨(Nat.le_of_ble_eq_true rfl), (Nat.le_of_ble_eq_true rfl)⟩ (fun u0 H locs hu hP hD hS => ?_)
  rw [← hu]
  have hP := zPp (zMv1 (YW ct u0 y00 []) [(o9, .inr (2, [.ref q1, .int (nI 0), .int (nI 0)])), (q1, .inl (ct 5, 9, .inr (.inr (.inr (.inr (fun _ => none))))))] R) hP
  have hD := zDp (zMv1 (YW ct u0 y00 []) [(o9, .inr (2, [.ref q1, .int (nI 0), .int (nI 0)])), (q1, .inl (ct 5, 9, .inr (.inr (.inr (.inr (fun _ => none))))))] R) hD
  have hP : va_P D vwCl ((o9, .inr (2, [.ref q1, .int (nI 0), .int (nI 0)])) :: (q1, .inl (ct 5, 9, .inr (.inr (.inr (.inr (fun _ => none)))))) :: (YW ct u0 y00 R)) H := hP
  have hD : va_D A ((o9, .inr (2, [.ref q1, .int (nI 0), .int (nI 0)])) :: (q1, .inl (ct 5, 9, .inr (.inr (.inr (.inr (fun _ => none)))))) :: (YW ct u0 y00 R)) := hD
  refine zQast (i := 0) hx hb hK hP hD hS 1 2 rfl rfl (by decide) (by decide) dX3_init_33 (fun H locs hP hD hS => ?_)
  have hP : va_P D vwCl ((o9, .inr (2, [.ref q1, .int (nI 0), .int (nI 0)])) :: (q1, .inl (ct 5, 9, .inr (.inr (.inr (.inr (va_up (fun _ => none) 0 (some (u0 0)))))))) :: (YW ct u0 y00 R)) H := hP
  have hD : va_D A ((o9, .inr (2, [.ref q1, .int (nI 0), .int (nI 0)])) :: (q1, .inl (ct 5, 9, .inr (.inr (.inr (.inr (va_up (fun _ => none) 0 (some (u0 0)))))))) :: (YW ct u0 y00 R)) := hD
  refine lv_iinc (v := nI (1)) (lv' := [(1, .int (nI (1))), (0, .ref o9)]) hx hb dX3_init_34 hl (k := 0) rfl (zInc _) (by decide) rfl (fun ls hl => ?_)
  refine lv_goto (tgt := 15) hx hb dX3_init_37 (by decide) ?_
  refine lv_iload_n hx hb dX3_init_15 rfl (lv_at hl 0 rfl) ?_
  refine lv_bipush (v := nI (8)) hx hb dX3_init_16 (by decide) ?_
  refine zN_icmp_gt (tgt := 40) hx hb (by decide) (by decide) dX3_init_18 (by decide) (fun c18 => absurd c18 (by decide)) (fun c18 => ?_)
  refine lv_aload_n hx hb dX3_init_21 rfl (lv_at hl 1 rfl) ?_
  refine va_get (ci := 2) (v := .ref q1) hx hb hts h_own hown hK hP 0 rfl rfl 0 (by decide) (hts (.fieldLink RX3 11 "CartArguments$History" "slots" "[LCartArguments$Yard;") (by decide +kernel)) (fun _ h9 => h9) rfl dX3_init_22 ?_
  refine lv_iload_n hx hb dX3_init_25 rfl (lv_at hl 0 rfl) ?_
  refine va_new (ci := 8) (fs := [.int (nI 0), .null, .null, .null, .null, .int (nI 0), .null, .null, .null, .int (nI 0), .null, .null, .null, .null, .float 0, .int (nI 0)]) (C := RX9) (T := TX9) (N := 16) hx hb hts in_X3_init_X9 tyX9 tyX9_ok hown (hts (.classLink RX3 9 RX9) (by decide +kernel)) (hts (.instantiable RX9 16) (by decide +kernel)) (hts (.initialized RX9) (by decide +kernel)) hK hP hD hS hA rfl ty9_v (Nat.le_of_ble_eq_true rfl) (Nat.le_of_ble_eq_true rfl) dX3_init_26 (fun n1 H hP hD hS => ?_)
  have hP := zPp (List.perm_append_singleton _ _) hP
  have hD := zDp (List.perm_append_singleton _ _) hD
  refine lv_dup hx hb dX3_init_29 rfl ?_
  refine zNV [] [.ref n1, .int (nI (1)), .ref q1] (kX9_init n1 ((o9, .inr (2, [.ref q1, .int (nI 0), .int (nI 0)])) :: (q1, .inl (ct 5, 9, .inr (.inr (.inr (.inr (va_up (fun _ => none) 0 (some (u0 0)))))))) :: (YW ct u0 y00 R))) hx hb hml hown hts (cwI 0 hts gX3_init_X9_init rfl rfl rfl (hts (.initialized RX9) (by decide +kernel)) (hts (.methodLink RX3 17 yX9_init) (by decide +kernel)) (hts (.instanceMethod yX9_init) (by decide +kernel)) rfl (by decide +kernel) ⟨(Nat.le_of_ble_eq_true rfl), (Nat.le_of_ble_eq_true rfl)⟩) hK hP hD hS hA rfl hl.1 rfl (Nat.le_of_ble_eq_true rfl) dX3_init_30 ⟨(Nat.le_of_ble_eq_true rfl), (Nat.le_of_ble_eq_true rfl)⟩ (fun u1 H locs hu hP hD hS => ?_)
  rw [← hu]
  have hP := zPp (zMv1 (YW ct u1 y00 []) [(o9, .inr (2, [.ref q1, .int (nI 0), .int (nI 0)])), (q1, .inl (ct 5, 9, .inr (.inr (.inr (.inr (va_up (fun _ => none) 0 (some (u0 0))))))))] (YW ct u0 y00 R)) hP
  have hD := zDp (zMv1 (YW ct u1 y00 []) [(o9, .inr (2, [.ref q1, .int (nI 0), .int (nI 0)])), (q1, .inl (ct 5, 9, .inr (.inr (.inr (.inr (va_up (fun _ => none) 0 (some (u0 0))))))))] (YW ct u0 y00 R)) hD
  have hP : va_P D vwCl ((o9, .inr (2, [.ref q1, .int (nI 0), .int (nI 0)])) :: (q1, .inl (ct 5, 9, .inr (.inr (.inr (.inr (va_up (fun _ => none) 0 (some (u0 0)))))))) :: (YW ct u1 y00 (YW ct u0 y00 R))) H := hP
  have hD : va_D A ((o9, .inr (2, [.ref q1, .int (nI 0), .int (nI 0)])) :: (q1, .inl (ct 5, 9, .inr (.inr (.inr (.inr (va_up (fun _ => none) 0 (some (u0 0)))))))) :: (YW ct u1 y00 (YW ct u0 y00 R))) := hD
  refine zQast (i := 1) hx hb hK hP hD hS 1 2 rfl rfl (by decide) (by decide) dX3_init_33 (fun H locs hP hD hS => ?_)
  have hP : va_P D vwCl ((o9, .inr (2, [.ref q1, .int (nI 0), .int (nI 0)])) :: (q1, .inl (ct 5, 9, .inr (.inr (.inr (.inr (va_up (va_up (fun _ => none) 0 (some (u0 0))) 1 (some (u1 0)))))))) :: (YW ct u1 y00 (YW ct u0 y00 R))) H := hP
  have hD : va_D A ((o9, .inr (2, [.ref q1, .int (nI 0), .int (nI 0)])) :: (q1, .inl (ct 5, 9, .inr (.inr (.inr (.inr (va_up (va_up (fun _ => none) 0 (some (u0 0))) 1 (some (u1 0)))))))) :: (YW ct u1 y00 (YW ct u0 y00 R))) := hD
  refine lv_iinc (v := nI (2)) (lv' := [(1, .int (nI (2))), (0, .ref o9)]) hx hb dX3_init_34 hl (k := 0) rfl (zInc _) (by decide) rfl (fun ls hl => ?_)
  refine lv_goto (tgt := 15) hx hb dX3_init_37 (by decide) ?_
  refine lv_iload_n hx hb dX3_init_15 rfl (lv_at hl 0 rfl) ?_
  refine lv_bipush (v := nI (8)) hx hb dX3_init_16 (by decide) ?_
  refine zN_icmp_gt (tgt := 40) hx hb (by decide) (by decide) dX3_init_18 (by decide) (fun c18 => absurd c18 (by decide)) (fun c18 => ?_)
  refine lv_aload_n hx hb dX3_init_21 rfl (lv_at hl 1 rfl) ?_
  refine va_get (ci := 2) (v := .ref q1) hx hb hts h_own hown hK hP 0 rfl rfl 0 (by decide) (hts (.fieldLink RX3 11 "CartArguments$History" "slots" "[LCartArguments$Yard;") (by decide +kernel)) (fun _ h9 => h9) rfl dX3_init_22 ?_
  refine lv_iload_n hx hb dX3_init_25 rfl (lv_at hl 0 rfl) ?_
  refine va_new (ci := 8) (fs := [.int (nI 0), .null, .null, .null, .null, .int (nI 0), .null, .null, .null, .int (nI 0), .null, .null, .null, .null, .float 0, .int (nI 0)]) (C := RX9) (T := TX9) (N := 16) hx hb hts in_X3_init_X9 tyX9 tyX9_ok hown (hts (.classLink RX3 9 RX9) (by decide +kernel)) (hts (.instantiable RX9 16) (by decide +kernel)) (hts (.initialized RX9) (by decide +kernel)) hK hP hD hS hA rfl ty9_v (Nat.le_of_ble_eq_true rfl) (Nat.le_of_ble_eq_true rfl) dX3_init_26 (fun n2 H hP hD hS => ?_)
  have hP := zPp (List.perm_append_singleton _ _) hP
  have hD := zDp (List.perm_append_singleton _ _) hD
  refine lv_dup hx hb dX3_init_29 rfl ?_
  refine zNV [] [.ref n2, .int (nI (2)), .ref q1] (kX9_init n2 ((o9, .inr (2, [.ref q1, .int (nI 0), .int (nI 0)])) :: (q1, .inl (ct 5, 9, .inr (.inr (.inr (.inr (va_up (va_up (fun _ => none) 0 (some (u0 0))) 1 (some (u1 0)))))))) :: (YW ct u1 y00 (YW ct u0 y00 R)))) hx hb hml hown hts (cwI 0 hts gX3_init_X9_init rfl rfl rfl (hts (.initialized RX9) (by decide +kernel)) (hts (.methodLink RX3 17 yX9_init) (by decide +kernel)) (hts (.instanceMethod yX9_init) (by decide +kernel)) rfl (by decide +kernel) ⟨(Nat.le_of_ble_eq_true rfl), (Nat.le_of_ble_eq_true rfl)⟩) hK hP hD hS hA rfl hl.1 rfl (Nat.le_of_ble_eq_true rfl) dX3_init_30 ⟨(Nat.le_of_ble_eq_true rfl), (Nat.le_of_ble_eq_true rfl)⟩ (fun u2 H locs hu hP hD hS => ?_)
  rw [← hu]
  have hP := zPp (zMv1 (YW ct u2 y00 []) [(o9, .inr (2, [.ref q1, .int (nI 0), .int (nI 0)])), (q1, .inl (ct 5, 9, .inr (.inr (.inr (.inr (va_up (va_up (fun _ => none) 0 (some (u0 0))) 1 (some (u1 0))))))))] (YW ct u1 y00 (YW ct u0 y00 R))) hP
  have hD := zDp (zMv1 (YW ct u2 y00 []) [(o9, .inr (2, [.ref q1, .int (nI 0), .int (nI 0)])), (q1, .inl (ct 5, 9, .inr (.inr (.inr (.inr (va_up (va_up (fun _ => none) 0 (some (u0 0))) 1 (some (u1 0))))))))] (YW ct u1 y00 (YW ct u0 y00 R))) hD
  have hP : va_P D vwCl ((o9, .inr (2, [.ref q1, .int (nI 0), .int (nI 0)])) :: (q1, .inl (ct 5, 9, .inr (.inr (.inr (.inr (va_up (va_up (fun _ => none) 0 (some (u0 0))) 1 (some (u1 0)))))))) :: (YW ct u2 y00 (YW ct u1 y00 (YW ct u0 y00 R)))) H := hP
  have hD : va_D A ((o9, .inr (2, [.ref q1, .int (nI 0), .int (nI 0)])) :: (q1, .inl (ct 5, 9, .inr (.inr (.inr (.inr (va_up (va_up (fun _ => none) 0 (some (u0 0))) 1 (some (u1 0)))))))) :: (YW ct u2 y00 (YW ct u1 y00 (YW ct u0 y00 R)))) := hD
  refine zQast (i := 2) hx hb hK hP hD hS 1 2 rfl rfl (by decide) (by decide) dX3_init_33 (fun H locs hP hD hS => ?_)
  have hP : va_P D vwCl ((o9, .inr (2, [.ref q1, .int (nI 0), .int (nI 0)])) :: (q1, .inl (ct 5, 9, .inr (.inr (.inr (.inr (va_up (va_up (va_up (fun _ => none) 0 (some (u0 0))) 1 (some (u1 0))) 2 (some (u2 0)))))))) :: (YW ct u2 y00 (YW ct u1 y00 (YW ct u0 y00 R)))) H := hP
  have hD : va_D A ((o9, .inr (2, [.ref q1, .int (nI 0), .int (nI 0)])) :: (q1, .inl (ct 5, 9, .inr (.inr (.inr (.inr (va_up (va_up (va_up (fun _ => none) 0 (some (u0 0))) 1 (some (u1 0))) 2 (some (u2 0)))))))) :: (YW ct u2 y00 (YW ct u1 y00 (YW ct u0 y00 R)))) := hD
  refine lv_iinc (v := nI (3)) (lv' := [(1, .int (nI (3))), (0, .ref o9)]) hx hb dX3_init_34 hl (k := 0) rfl (zInc _) (by decide) rfl (fun ls hl => ?_)
  refine lv_goto (tgt := 15) hx hb dX3_init_37 (by decide) ?_
  refine lv_iload_n hx hb dX3_init_15 rfl (lv_at hl 0 rfl) ?_
  refine lv_bipush (v := nI (8)) hx hb dX3_init_16 (by decide) ?_
  refine zN_icmp_gt (tgt := 40) hx hb (by decide) (by decide) dX3_init_18 (by decide) (fun c18 => absurd c18 (by decide)) (fun c18 => ?_)
  refine lv_aload_n hx hb dX3_init_21 rfl (lv_at hl 1 rfl) ?_
  refine va_get (ci := 2) (v := .ref q1) hx hb hts h_own hown hK hP 0 rfl rfl 0 (by decide) (hts (.fieldLink RX3 11 "CartArguments$History" "slots" "[LCartArguments$Yard;") (by decide +kernel)) (fun _ h9 => h9) rfl dX3_init_22 ?_
  refine lv_iload_n hx hb dX3_init_25 rfl (lv_at hl 0 rfl) ?_
  refine va_new (ci := 8) (fs := [.int (nI 0), .null, .null, .null, .null, .int (nI 0), .null, .null, .null, .int (nI 0), .null, .null, .null, .null, .float 0, .int (nI 0)]) (C := RX9) (T := TX9) (N := 16) hx hb hts in_X3_init_X9 tyX9 tyX9_ok hown (hts (.classLink RX3 9 RX9) (by decide +kernel)) (hts (.instantiable RX9 16) (by decide +kernel)) (hts (.initialized RX9) (by decide +kernel)) hK hP hD hS hA rfl ty9_v (Nat.le_of_ble_eq_true rfl) (Nat.le_of_ble_eq_true rfl) dX3_init_26 (fun n3 H hP hD hS => ?_)
  have hP := zPp (List.perm_append_singleton _ _) hP
  have hD := zDp (List.perm_append_singleton _ _) hD
  refine lv_dup hx hb dX3_init_29 rfl ?_
  refine zNV [] [.ref n3, .int (nI (3)), .ref q1] (kX9_init n3 ((o9, .inr (2, [.ref q1, .int (nI 0), .int (nI 0)])) :: (q1, .inl (ct 5, 9, .inr (.inr (.inr (.inr (va_up (va_up (va_up (fun _ => none) 0 (some (u0 0))) 1 (some (u1 0))) 2 (some (u2 0)))))))) :: (YW ct u2 y00 (YW ct u1 y00 (YW ct u0 y00 R))))) hx hb hml hown hts (cwI 0 hts gX3_init_X9_init rfl rfl rfl (hts (.initialized RX9) (by decide +kernel)) (hts (.methodLink RX3 17 yX9_init) (by decide +kernel)) (hts (.instanceMethod yX9_init) (by decide +kernel)) rfl (by decide +kernel) ⟨(Nat.le_of_ble_eq_true rfl), (Nat.le_of_ble_eq_true rfl)⟩) hK hP hD hS hA rfl hl.1 rfl (Nat.le_of_ble_eq_true rfl) dX3_init_30 ⟨(Nat.le_of_ble_eq_true rfl), (Nat.le_of_ble_eq_true rfl)⟩ (fun u3 H locs hu hP hD hS => ?_)
  rw [← hu]
  have hP := zPp (zMv1 (YW ct u3 y00 []) [(o9, .inr (2, [.ref q1, .int (nI 0), .int (nI 0)])), (q1, .inl (ct 5, 9, .inr (.inr (.inr (.inr (va_up (va_up (va_up (fun _ => none) 0 (some (u0 0))) 1 (some (u1 0))) 2 (some (u2 0))))))))] (YW ct u2 y00 (YW ct u1 y00 (YW ct u0 y00 R)))) hP
  have hD := zDp (zMv1 (YW ct u3 y00 []) [(o9, .inr (2, [.ref q1, .int (nI 0), .int (nI 0)])), (q1, .inl (ct 5, 9, .inr (.inr (.inr (.inr (va_up (va_up (va_up (fun _ => none) 0 (some (u0 0))) 1 (some (u1 0))) 2 (some (u2 0))))))))] (YW ct u2 y00 (YW ct u1 y00 (YW ct u0 y00 R)))) hD
  have hP : va_P D vwCl ((o9, .inr (2, [.ref q1, .int (nI 0), .int (nI 0)])) :: (q1, .inl (ct 5, 9, .inr (.inr (.inr (.inr (va_up (va_up (va_up (fun _ => none) 0 (some (u0 0))) 1 (some (u1 0))) 2 (some (u2 0)))))))) :: (YW ct u3 y00 (YW ct u2 y00 (YW ct u1 y00 (YW ct u0 y00 R))))) H := hP
  have hD : va_D A ((o9, .inr (2, [.ref q1, .int (nI 0), .int (nI 0)])) :: (q1, .inl (ct 5, 9, .inr (.inr (.inr (.inr (va_up (va_up (va_up (fun _ => none) 0 (some (u0 0))) 1 (some (u1 0))) 2 (some (u2 0)))))))) :: (YW ct u3 y00 (YW ct u2 y00 (YW ct u1 y00 (YW ct u0 y00 R))))) := hD
  refine zQast (i := 3) hx hb hK hP hD hS 1 2 rfl rfl (by decide) (by decide) dX3_init_33 (fun H locs hP hD hS => ?_)
  have hP : va_P D vwCl ((o9, .inr (2, [.ref q1, .int (nI 0), .int (nI 0)])) :: (q1, .inl (ct 5, 9, .inr (.inr (.inr (.inr (va_up (va_up (va_up (va_up (fun _ => none) 0 (some (u0 0))) 1 (some (u1 0))) 2 (some (u2 0))) 3 (some (u3 0)))))))) :: (YW ct u3 y00 (YW ct u2 y00 (YW ct u1 y00 (YW ct u0 y00 R))))) H := hP
  have hD : va_D A ((o9, .inr (2, [.ref q1, .int (nI 0), .int (nI 0)])) :: (q1, .inl (ct 5, 9, .inr (.inr (.inr (.inr (va_up (va_up (va_up (va_up (fun _ => none) 0 (some (u0 0))) 1 (some (u1 0))) 2 (some (u2 0))) 3 (some (u3 0)))))))) :: (YW ct u3 y00 (YW ct u2 y00 (YW ct u1 y00 (YW ct u0 y00 R))))) := hD
  refine lv_iinc (v := nI (4)) (lv' := [(1, .int (nI (4))), (0, .ref o9)]) hx hb dX3_init_34 hl (k := 0) rfl (zInc _) (by decide) rfl (fun ls hl => ?_)
  refine lv_goto (tgt := 15) hx hb dX3_init_37 (by decide) ?_
  refine lv_iload_n hx hb dX3_init_15 rfl (lv_at hl 0 rfl) ?_
  refine lv_bipush (v := nI (8)) hx hb dX3_init_16 (by decide) ?_
  refine zN_icmp_gt (tgt := 40) hx hb (by decide) (by decide) dX3_init_18 (by decide) (fun c18 => absurd c18 (by decide)) (fun c18 => ?_)
  refine lv_aload_n hx hb dX3_init_21 rfl (lv_at hl 1 rfl) ?_
  refine va_get (ci := 2) (v := .ref q1) hx hb hts h_own hown hK hP 0 rfl rfl 0 (by decide) (hts (.fieldLink RX3 11 "CartArguments$History" "slots" "[LCartArguments$Yard;") (by decide +kernel)) (fun _ h9 => h9) rfl dX3_init_22 ?_
  refine lv_iload_n hx hb dX3_init_25 rfl (lv_at hl 0 rfl) ?_
  refine va_new (ci := 8) (fs := [.int (nI 0), .null, .null, .null, .null, .int (nI 0), .null, .null, .null, .int (nI 0), .null, .null, .null, .null, .float 0, .int (nI 0)]) (C := RX9) (T := TX9) (N := 16) hx hb hts in_X3_init_X9 tyX9 tyX9_ok hown (hts (.classLink RX3 9 RX9) (by decide +kernel)) (hts (.instantiable RX9 16) (by decide +kernel)) (hts (.initialized RX9) (by decide +kernel)) hK hP hD hS hA rfl ty9_v (Nat.le_of_ble_eq_true rfl) (Nat.le_of_ble_eq_true rfl) dX3_init_26 (fun n4 H hP hD hS => ?_)
  have hP := zPp (List.perm_append_singleton _ _) hP
  have hD := zDp (List.perm_append_singleton _ _) hD
  refine lv_dup hx hb dX3_init_29 rfl ?_
  refine zNV [] [.ref n4, .int (nI (4)), .ref q1] (kX9_init n4 ((o9, .inr (2, [.ref q1, .int (nI 0), .int (nI 0)])) :: (q1, .inl (ct 5, 9, .inr (.inr (.inr (.inr (va_up (va_up (va_up (va_up (fun _ => none) 0 (some (u0 0))) 1 (some (u1 0))) 2 (some (u2 0))) 3 (some (u3 0)))))))) :: (YW ct u3 y00 (YW ct u2 y00 (YW ct u1 y00 (YW ct u0 y00 R)))))) hx hb hml hown hts (cwI 0 hts gX3_init_X9_init rfl rfl rfl (hts (.initialized RX9) (by decide +kernel)) (hts (.methodLink RX3 17 yX9_init) (by decide +kernel)) (hts (.instanceMethod yX9_init) (by decide +kernel)) rfl (by decide +kernel) ⟨(Nat.le_of_ble_eq_true rfl), (Nat.le_of_ble_eq_true rfl)⟩) hK hP hD hS hA rfl hl.1 rfl (Nat.le_of_ble_eq_true rfl) dX3_init_30 ⟨(Nat.le_of_ble_eq_true rfl), (Nat.le_of_ble_eq_true rfl)⟩ (fun u4 H locs hu hP hD hS => ?_)
  rw [← hu]
  have hP := zPp (zMv1 (YW ct u4 y00 []) [(o9, .inr (2, [.ref q1, .int (nI 0), .int (nI 0)])), (q1, .inl (ct 5, 9, .inr (.inr (.inr (.inr (va_up (va_up (va_up (va_up (fun _ => none) 0 (some (u0 0))) 1 (some (u1 0))) 2 (some (u2 0))) 3 (some (u3 0))))))))] (YW ct u3 y00 (YW ct u2 y00 (YW ct u1 y00 (YW ct u0 y00 R))))) hP
  have hD := zDp (zMv1 (YW ct u4 y00 []) [(o9, .inr (2, [.ref q1, .int (nI 0), .int (nI 0)])), (q1, .inl (ct 5, 9, .inr (.inr (.inr (.inr (va_up (va_up (va_up (va_up (fun _ => none) 0 (some (u0 0))) 1 (some (u1 0))) 2 (some (u2 0))) 3 (some (u3 0))))))))] (YW ct u3 y00 (YW ct u2 y00 (YW ct u1 y00 (YW ct u0 y00 R))))) hD
  have hP : va_P D vwCl ((o9, .inr (2, [.ref q1, .int (nI 0), .int (nI 0)])) :: (q1, .inl (ct 5, 9, .inr (.inr (.inr (.inr (va_up (va_up (va_up (va_up (fun _ => none) 0 (some (u0 0))) 1 (some (u1 0))) 2 (some (u2 0))) 3 (some (u3 0)))))))) :: (YW ct u4 y00 (YW ct u3 y00 (YW ct u2 y00 (YW ct u1 y00 (YW ct u0 y00 R)))))) H := hP
  have hD : va_D A ((o9, .inr (2, [.ref q1, .int (nI 0), .int (nI 0)])) :: (q1, .inl (ct 5, 9, .inr (.inr (.inr (.inr (va_up (va_up (va_up (va_up (fun _ => none) 0 (some (u0 0))) 1 (some (u1 0))) 2 (some (u2 0))) 3 (some (u3 0)))))))) :: (YW ct u4 y00 (YW ct u3 y00 (YW ct u2 y00 (YW ct u1 y00 (YW ct u0 y00 R)))))) := hD
  refine zQast (i := 4) hx hb hK hP hD hS 1 2 rfl rfl (by decide) (by decide) dX3_init_33 (fun H locs hP hD hS => ?_)
  have hP : va_P D vwCl ((o9, .inr (2, [.ref q1, .int (nI 0), .int (nI 0)])) :: (q1, .inl (ct 5, 9, .inr (.inr (.inr (.inr (va_up (va_up (va_up (va_up (va_up (fun _ => none) 0 (some (u0 0))) 1 (some (u1 0))) 2 (some (u2 0))) 3 (some (u3 0))) 4 (some (u4 0)))))))) :: (YW ct u4 y00 (YW ct u3 y00 (YW ct u2 y00 (YW ct u1 y00 (YW ct u0 y00 R)))))) H := hP
  have hD : va_D A ((o9, .inr (2, [.ref q1, .int (nI 0), .int (nI 0)])) :: (q1, .inl (ct 5, 9, .inr (.inr (.inr (.inr (va_up (va_up (va_up (va_up (va_up (fun _ => none) 0 (some (u0 0))) 1 (some (u1 0))) 2 (some (u2 0))) 3 (some (u3 0))) 4 (some (u4 0)))))))) :: (YW ct u4 y00 (YW ct u3 y00 (YW ct u2 y00 (YW ct u1 y00 (YW ct u0 y00 R)))))) := hD
  refine lv_iinc (v := nI (5)) (lv' := [(1, .int (nI (5))), (0, .ref o9)]) hx hb dX3_init_34 hl (k := 0) rfl (zInc _) (by decide) rfl (fun ls hl => ?_)
  refine lv_goto (tgt := 15) hx hb dX3_init_37 (by decide) ?_
  refine lv_iload_n hx hb dX3_init_15 rfl (lv_at hl 0 rfl) ?_
  refine lv_bipush (v := nI (8)) hx hb dX3_init_16 (by decide) ?_
  refine zN_icmp_gt (tgt := 40) hx hb (by decide) (by decide) dX3_init_18 (by decide) (fun c18 => absurd c18 (by decide)) (fun c18 => ?_)
  refine lv_aload_n hx hb dX3_init_21 rfl (lv_at hl 1 rfl) ?_
  refine va_get (ci := 2) (v := .ref q1) hx hb hts h_own hown hK hP 0 rfl rfl 0 (by decide) (hts (.fieldLink RX3 11 "CartArguments$History" "slots" "[LCartArguments$Yard;") (by decide +kernel)) (fun _ h9 => h9) rfl dX3_init_22 ?_
  refine lv_iload_n hx hb dX3_init_25 rfl (lv_at hl 0 rfl) ?_
  refine va_new (ci := 8) (fs := [.int (nI 0), .null, .null, .null, .null, .int (nI 0), .null, .null, .null, .int (nI 0), .null, .null, .null, .null, .float 0, .int (nI 0)]) (C := RX9) (T := TX9) (N := 16) hx hb hts in_X3_init_X9 tyX9 tyX9_ok hown (hts (.classLink RX3 9 RX9) (by decide +kernel)) (hts (.instantiable RX9 16) (by decide +kernel)) (hts (.initialized RX9) (by decide +kernel)) hK hP hD hS hA rfl ty9_v (Nat.le_of_ble_eq_true rfl) (Nat.le_of_ble_eq_true rfl) dX3_init_26 (fun n5 H hP hD hS => ?_)
  have hP := zPp (List.perm_append_singleton _ _) hP
  have hD := zDp (List.perm_append_singleton _ _) hD
  refine lv_dup hx hb dX3_init_29 rfl ?_
  refine zNV [] [.ref n5, .int (nI (5)), .ref q1] (kX9_init n5 ((o9, .inr (2, [.ref q1, .int (nI 0), .int (nI 0)])) :: (q1, .inl (ct 5, 9, .inr (.inr (.inr (.inr (va_up (va_up (va_up (va_up (va_up (fun _ => none) 0 (some (u0 0))) 1 (some (u1 0))) 2 (some (u2 0))) 3 (some (u3 0))) 4 (some (u4 0)))))))) :: (YW ct u4 y00 (YW ct u3 y00 (YW ct u2 y00 (YW ct u1 y00 (YW ct u0 y00 R))))))) hx hb hml hown hts (cwI 0 hts gX3_init_X9_init rfl rfl rfl (hts (.initialized RX9) (by decide +kernel)) (hts (.methodLink RX3 17 yX9_init) (by decide +kernel)) (hts (.instanceMethod yX9_init) (by decide +kernel)) rfl (by decide +kernel) ⟨(Nat.le_of_ble_eq_true rfl), (Nat.le_of_ble_eq_true rfl)⟩) hK hP hD hS hA rfl hl.1 rfl (Nat.le_of_ble_eq_true rfl) dX3_init_30 ⟨(Nat.le_of_ble_eq_true rfl), (Nat.le_of_ble_eq_true rfl)⟩ (fun u5 H locs hu hP hD hS => ?_)
  rw [← hu]
  have hP := zPp (zMv1 (YW ct u5 y00 []) [(o9, .inr (2, [.ref q1, .int (nI 0), .int (nI 0)])), (q1, .inl (ct 5, 9, .inr (.inr (.inr (.inr (va_up (va_up (va_up (va_up (va_up (fun _ => none) 0 (some (u0 0))) 1 (some (u1 0))) 2 (some (u2 0))) 3 (some (u3 0))) 4 (some (u4 0))))))))] (YW ct u4 y00 (YW ct u3 y00 (YW ct u2 y00 (YW ct u1 y00 (YW ct u0 y00 R)))))) hP
  have hD := zDp (zMv1 (YW ct u5 y00 []) [(o9, .inr (2, [.ref q1, .int (nI 0), .int (nI 0)])), (q1, .inl (ct 5, 9, .inr (.inr (.inr (.inr (va_up (va_up (va_up (va_up (va_up (fun _ => none) 0 (some (u0 0))) 1 (some (u1 0))) 2 (some (u2 0))) 3 (some (u3 0))) 4 (some (u4 0))))))))] (YW ct u4 y00 (YW ct u3 y00 (YW ct u2 y00 (YW ct u1 y00 (YW ct u0 y00 R)))))) hD
  have hP : va_P D vwCl ((o9, .inr (2, [.ref q1, .int (nI 0), .int (nI 0)])) :: (q1, .inl (ct 5, 9, .inr (.inr (.inr (.inr (va_up (va_up (va_up (va_up (va_up (fun _ => none) 0 (some (u0 0))) 1 (some (u1 0))) 2 (some (u2 0))) 3 (some (u3 0))) 4 (some (u4 0)))))))) :: (YW ct u5 y00 (YW ct u4 y00 (YW ct u3 y00 (YW ct u2 y00 (YW ct u1 y00 (YW ct u0 y00 R))))))) H := hP
  have hD : va_D A ((o9, .inr (2, [.ref q1, .int (nI 0), .int (nI 0)])) :: (q1, .inl (ct 5, 9, .inr (.inr (.inr (.inr (va_up (va_up (va_up (va_up (va_up (fun _ => none) 0 (some (u0 0))) 1 (some (u1 0))) 2 (some (u2 0))) 3 (some (u3 0))) 4 (some (u4 0)))))))) :: (YW ct u5 y00 (YW ct u4 y00 (YW ct u3 y00 (YW ct u2 y00 (YW ct u1 y00 (YW ct u0 y00 R))))))) := hD
  refine zQast (i := 5) hx hb hK hP hD hS 1 2 rfl rfl (by decide) (by decide) dX3_init_33 (fun H locs hP hD hS => ?_)
  have hP : va_P D vwCl ((o9, .inr (2, [.ref q1, .int (nI 0), .int (nI 0)])) :: (q1, .inl (ct 5, 9, .inr (.inr (.inr (.inr (va_up (va_up (va_up (va_up (va_up (va_up (fun _ => none) 0 (some (u0 0))) 1 (some (u1 0))) 2 (some (u2 0))) 3 (some (u3 0))) 4 (some (u4 0))) 5 (some (u5 0)))))))) :: (YW ct u5 y00 (YW ct u4 y00 (YW ct u3 y00 (YW ct u2 y00 (YW ct u1 y00 (YW ct u0 y00 R))))))) H := hP
  have hD : va_D A ((o9, .inr (2, [.ref q1, .int (nI 0), .int (nI 0)])) :: (q1, .inl (ct 5, 9, .inr (.inr (.inr (.inr (va_up (va_up (va_up (va_up (va_up (va_up (fun _ => none) 0 (some (u0 0))) 1 (some (u1 0))) 2 (some (u2 0))) 3 (some (u3 0))) 4 (some (u4 0))) 5 (some (u5 0)))))))) :: (YW ct u5 y00 (YW ct u4 y00 (YW ct u3 y00 (YW ct u2 y00 (YW ct u1 y00 (YW ct u0 y00 R))))))) := hD
  refine lv_iinc (v := nI (6)) (lv' := [(1, .int (nI (6))), (0, .ref o9)]) hx hb dX3_init_34 hl (k := 0) rfl (zInc _) (by decide) rfl (fun ls hl => ?_)
  refine lv_goto (tgt := 15) hx hb dX3_init_37 (by decide) ?_
  refine lv_iload_n hx hb dX3_init_15 rfl (lv_at hl 0 rfl) ?_
  refine lv_bipush (v := nI (8)) hx hb dX3_init_16 (by decide) ?_
  refine zN_icmp_gt (tgt := 40) hx hb (by decide) (by decide) dX3_init_18 (by decide) (fun c18 => absurd c18 (by decide)) (fun c18 => ?_)
  refine lv_aload_n hx hb dX3_init_21 rfl (lv_at hl 1 rfl) ?_
  refine va_get (ci := 2) (v := .ref q1) hx hb hts h_own hown hK hP 0 rfl rfl 0 (by decide) (hts (.fieldLink RX3 11 "CartArguments$History" "slots" "[LCartArguments$Yard;") (by decide +kernel)) (fun _ h9 => h9) rfl dX3_init_22 ?_
  refine lv_iload_n hx hb dX3_init_25 rfl (lv_at hl 0 rfl) ?_
  refine va_new (ci := 8) (fs := [.int (nI 0), .null, .null, .null, .null, .int (nI 0), .null, .null, .null, .int (nI 0), .null, .null, .null, .null, .float 0, .int (nI 0)]) (C := RX9) (T := TX9) (N := 16) hx hb hts in_X3_init_X9 tyX9 tyX9_ok hown (hts (.classLink RX3 9 RX9) (by decide +kernel)) (hts (.instantiable RX9 16) (by decide +kernel)) (hts (.initialized RX9) (by decide +kernel)) hK hP hD hS hA rfl ty9_v (Nat.le_of_ble_eq_true rfl) (Nat.le_of_ble_eq_true rfl) dX3_init_26 (fun n6 H hP hD hS => ?_)
  have hP := zPp (List.perm_append_singleton _ _) hP
  have hD := zDp (List.perm_append_singleton _ _) hD
  refine lv_dup hx hb dX3_init_29 rfl ?_
  refine zNV [] [.ref n6, .int (nI (6)), .ref q1] (kX9_init n6 ((o9, .inr (2, [.ref q1, .int (nI 0), .int (nI 0)])) :: (q1, .inl (ct 5, 9, .inr (.inr (.inr (.inr (va_up (va_up (va_up (va_up (va_up (va_up (fun _ => none) 0 (some (u0 0))) 1 (some (u1 0))) 2 (some (u2 0))) 3 (some (u3 0))) 4 (some (u4 0))) 5 (some (u5 0)))))))) :: (YW ct u5 y00 (YW ct u4 y00 (YW ct u3 y00 (YW ct u2 y00 (YW ct u1 y00 (YW ct u0 y00 R)))))))) hx hb hml hown hts (cwI 0 hts gX3_init_X9_init rfl rfl rfl (hts (.initialized RX9) (by decide +kernel)) (hts (.methodLink RX3 17 yX9_init) (by decide +kernel)) (hts (.instanceMethod yX9_init) (by decide +kernel)) rfl (by decide +kernel) ⟨(Nat.le_of_ble_eq_true rfl), (Nat.le_of_ble_eq_true rfl)⟩) hK hP hD hS hA rfl hl.1 rfl (Nat.le_of_ble_eq_true rfl) dX3_init_30 ⟨(Nat.le_of_ble_eq_true rfl), (Nat.le_of_ble_eq_true rfl)⟩ (fun u6 H locs hu hP hD hS => ?_)
  rw [← hu]
  have hP := zPp (zMv1 (YW ct u6 y00 []) [(o9, .inr (2, [.ref q1, .int (nI 0), .int (nI 0)])), (q1, .inl (ct 5, 9, .inr (.inr (.inr (.inr (va_up (va_up (va_up (va_up (va_up (va_up (fun _ => none) 0 (some (u0 0))) 1 (some (u1 0))) 2 (some (u2 0))) 3 (some (u3 0))) 4 (some (u4 0))) 5 (some (u5 0))))))))] (YW ct u5 y00 (YW ct u4 y00 (YW ct u3 y00 (YW ct u2 y00 (YW ct u1 y00 (YW ct u0 y00 R))))))) hP
  have hD := zDp (zMv1 (YW ct u6 y00 []) [(o9, .inr (2, [.ref q1, .int (nI 0), .int (nI 0)])), (q1, .inl (ct 5, 9, .inr (.inr (.inr (.inr (va_up (va_up (va_up (va_up (va_up (va_up (fun _ => none) 0 (some (u0 0))) 1 (some (u1 0))) 2 (some (u2 0))) 3 (some (u3 0))) 4 (some (u4 0))) 5 (some (u5 0))))))))] (YW ct u5 y00 (YW ct u4 y00 (YW ct u3 y00 (YW ct u2 y00 (YW ct u1 y00 (YW ct u0 y00 R))))))) hD
  have hP : va_P D vwCl ((o9, .inr (2, [.ref q1, .int (nI 0), .int (nI 0)])) :: (q1, .inl (ct 5, 9, .inr (.inr (.inr (.inr (va_up (va_up (va_up (va_up (va_up (va_up (fun _ => none) 0 (some (u0 0))) 1 (some (u1 0))) 2 (some (u2 0))) 3 (some (u3 0))) 4 (some (u4 0))) 5 (some (u5 0)))))))) :: (YW ct u6 y00 (YW ct u5 y00 (YW ct u4 y00 (YW ct u3 y00 (YW ct u2 y00 (YW ct u1 y00 (YW ct u0 y00 R)))))))) H := hP
  have hD : va_D A ((o9, .inr (2, [.ref q1, .int (nI 0), .int (nI 0)])) :: (q1, .inl (ct 5, 9, .inr (.inr (.inr (.inr (va_up (va_up (va_up (va_up (va_up (va_up (fun _ => none) 0 (some (u0 0))) 1 (some (u1 0))) 2 (some (u2 0))) 3 (some (u3 0))) 4 (some (u4 0))) 5 (some (u5 0)))))))) :: (YW ct u6 y00 (YW ct u5 y00 (YW ct u4 y00 (YW ct u3 y00 (YW ct u2 y00 (YW ct u1 y00 (YW ct u0 y00 R)))))))) := hD
  refine zQast (i := 6) hx hb hK hP hD hS 1 2 rfl rfl (by decide) (by decide) dX3_init_33 (fun H locs hP hD hS => ?_)
  have hP : va_P D vwCl ((o9, .inr (2, [.ref q1, .int (nI 0), .int (nI 0)])) :: (q1, .inl (ct 5, 9, .inr (.inr (.inr (.inr (va_up (va_up (va_up (va_up (va_up (va_up (va_up (fun _ => none) 0 (some (u0 0))) 1 (some (u1 0))) 2 (some (u2 0))) 3 (some (u3 0))) 4 (some (u4 0))) 5 (some (u5 0))) 6 (some (u6 0)))))))) :: (YW ct u6 y00 (YW ct u5 y00 (YW ct u4 y00 (YW ct u3 y00 (YW ct u2 y00 (YW ct u1 y00 (YW ct u0 y00 R)))))))) H := hP
  have hD : va_D A ((o9, .inr (2, [.ref q1, .int (nI 0), .int (nI 0)])) :: (q1, .inl (ct 5, 9, .inr (.inr (.inr (.inr (va_up (va_up (va_up (va_up (va_up (va_up (va_up (fun _ => none) 0 (some (u0 0))) 1 (some (u1 0))) 2 (some (u2 0))) 3 (some (u3 0))) 4 (some (u4 0))) 5 (some (u5 0))) 6 (some (u6 0)))))))) :: (YW ct u6 y00 (YW ct u5 y00 (YW ct u4 y00 (YW ct u3 y00 (YW ct u2 y00 (YW ct u1 y00 (YW ct u0 y00 R)))))))) := hD
  refine lv_iinc (v := nI (7)) (lv' := [(1, .int (nI (7))), (0, .ref o9)]) hx hb dX3_init_34 hl (k := 0) rfl (zInc _) (by decide) rfl (fun ls hl => ?_)
  refine lv_goto (tgt := 15) hx hb dX3_init_37 (by decide) ?_
  refine lv_iload_n hx hb dX3_init_15 rfl (lv_at hl 0 rfl) ?_
  refine lv_bipush (v := nI (8)) hx hb dX3_init_16 (by decide) ?_
  refine zN_icmp_gt (tgt := 40) hx hb (by decide) (by decide) dX3_init_18 (by decide) (fun c18 => absurd c18 (by decide)) (fun c18 => ?_)
  refine lv_aload_n hx hb dX3_init_21 rfl (lv_at hl 1 rfl) ?_
  refine va_get (ci := 2) (v := .ref q1) hx hb hts h_own hown hK hP 0 rfl rfl 0 (by decide) (hts (.fieldLink RX3 11 "CartArguments$History" "slots" "[LCartArguments$Yard;") (by decide +kernel)) (fun _ h9 => h9) rfl dX3_init_22 ?_
  refine lv_iload_n hx hb dX3_init_25 rfl (lv_at hl 0 rfl) ?_
  refine va_new (ci := 8) (fs := [.int (nI 0), .null, .null, .null, .null, .int (nI 0), .null, .null, .null, .int (nI 0), .null, .null, .null, .null, .float 0, .int (nI 0)]) (C := RX9) (T := TX9) (N := 16) hx hb hts in_X3_init_X9 tyX9 tyX9_ok hown (hts (.classLink RX3 9 RX9) (by decide +kernel)) (hts (.instantiable RX9 16) (by decide +kernel)) (hts (.initialized RX9) (by decide +kernel)) hK hP hD hS hA rfl ty9_v (Nat.le_of_ble_eq_true rfl) (Nat.le_of_ble_eq_true rfl) dX3_init_26 (fun n7 H hP hD hS => ?_)
  have hP := zPp (List.perm_append_singleton _ _) hP
  have hD := zDp (List.perm_append_singleton _ _) hD
  refine lv_dup hx hb dX3_init_29 rfl ?_
  refine zNV [] [.ref n7, .int (nI (7)), .ref q1] (kX9_init n7 ((o9, .inr (2, [.ref q1, .int (nI 0), .int (nI 0)])) :: (q1, .inl (ct 5, 9, .inr (.inr (.inr (.inr (va_up (va_up (va_up (va_up (va_up (va_up (va_up (fun _ => none) 0 (some (u0 0))) 1 (some (u1 0))) 2 (some (u2 0))) 3 (some (u3 0))) 4 (some (u4 0))) 5 (some (u5 0))) 6 (some (u6 0)))))))) :: (YW ct u6 y00 (YW ct u5 y00 (YW ct u4 y00 (YW ct u3 y00 (YW ct u2 y00 (YW ct u1 y00 (YW ct u0 y00 R))))))))) hx hb hml hown hts (cwI 0 hts gX3_init_X9_init rfl rfl rfl (hts (.initialized RX9) (by decide +kernel)) (hts (.methodLink RX3 17 yX9_init) (by decide +kernel)) (hts (.instanceMethod yX9_init) (by decide +kernel)) rfl (by decide +kernel) ⟨(Nat.le_of_ble_eq_true rfl), (Nat.le_of_ble_eq_true rfl)⟩) hK hP hD hS hA rfl hl.1 rfl (Nat.le_of_ble_eq_true rfl) dX3_init_30 ⟨(Nat.le_of_ble_eq_true rfl), (Nat.le_of_ble_eq_true rfl)⟩ (fun u7 H locs hu hP hD hS => ?_)
  rw [← hu]
  have hP := zPp (zMv1 (YW ct u7 y00 []) [(o9, .inr (2, [.ref q1, .int (nI 0), .int (nI 0)])), (q1, .inl (ct 5, 9, .inr (.inr (.inr (.inr (va_up (va_up (va_up (va_up (va_up (va_up (va_up (fun _ => none) 0 (some (u0 0))) 1 (some (u1 0))) 2 (some (u2 0))) 3 (some (u3 0))) 4 (some (u4 0))) 5 (some (u5 0))) 6 (some (u6 0))))))))] (YW ct u6 y00 (YW ct u5 y00 (YW ct u4 y00 (YW ct u3 y00 (YW ct u2 y00 (YW ct u1 y00 (YW ct u0 y00 R)))))))) hP
  have hD := zDp (zMv1 (YW ct u7 y00 []) [(o9, .inr (2, [.ref q1, .int (nI 0), .int (nI 0)])), (q1, .inl (ct 5, 9, .inr (.inr (.inr (.inr (va_up (va_up (va_up (va_up (va_up (va_up (va_up (fun _ => none) 0 (some (u0 0))) 1 (some (u1 0))) 2 (some (u2 0))) 3 (some (u3 0))) 4 (some (u4 0))) 5 (some (u5 0))) 6 (some (u6 0))))))))] (YW ct u6 y00 (YW ct u5 y00 (YW ct u4 y00 (YW ct u3 y00 (YW ct u2 y00 (YW ct u1 y00 (YW ct u0 y00 R)))))))) hD
  have hP : va_P D vwCl ((o9, .inr (2, [.ref q1, .int (nI 0), .int (nI 0)])) :: (q1, .inl (ct 5, 9, .inr (.inr (.inr (.inr (va_up (va_up (va_up (va_up (va_up (va_up (va_up (fun _ => none) 0 (some (u0 0))) 1 (some (u1 0))) 2 (some (u2 0))) 3 (some (u3 0))) 4 (some (u4 0))) 5 (some (u5 0))) 6 (some (u6 0)))))))) :: (YW ct u7 y00 (YW ct u6 y00 (YW ct u5 y00 (YW ct u4 y00 (YW ct u3 y00 (YW ct u2 y00 (YW ct u1 y00 (YW ct u0 y00 R))))))))) H := hP
  have hD : va_D A ((o9, .inr (2, [.ref q1, .int (nI 0), .int (nI 0)])) :: (q1, .inl (ct 5, 9, .inr (.inr (.inr (.inr (va_up (va_up (va_up (va_up (va_up (va_up (va_up (fun _ => none) 0 (some (u0 0))) 1 (some (u1 0))) 2 (some (u2 0))) 3 (some (u3 0))) 4 (some (u4 0))) 5 (some (u5 0))) 6 (some (u6 0)))))))) :: (YW ct u7 y00 (YW ct u6 y00 (YW ct u5 y00 (YW ct u4 y00 (YW ct u3 y00 (YW ct u2 y00 (YW ct u1 y00 (YW ct u0 y00 R))))))))) := hD
  refine zQast (i := 7) hx hb hK hP hD hS 1 2 rfl rfl (by decide) (by decide) dX3_init_33 (fun H locs hP hD hS => ?_)
  have hP : va_P D vwCl ((o9, .inr (2, [.ref q1, .int (nI 0), .int (nI 0)])) :: (q1, .inl (ct 5, 9, .inr (.inr (.inr (.inr (va_up (va_up (va_up (va_up (va_up (va_up (va_up (va_up (fun _ => none) 0 (some (u0 0))) 1 (some (u1 0))) 2 (some (u2 0))) 3 (some (u3 0))) 4 (some (u4 0))) 5 (some (u5 0))) 6 (some (u6 0))) 7 (some (u7 0)))))))) :: (YW ct u7 y00 (YW ct u6 y00 (YW ct u5 y00 (YW ct u4 y00 (YW ct u3 y00 (YW ct u2 y00 (YW ct u1 y00 (YW ct u0 y00 R))))))))) H := hP
  have hD : va_D A ((o9, .inr (2, [.ref q1, .int (nI 0), .int (nI 0)])) :: (q1, .inl (ct 5, 9, .inr (.inr (.inr (.inr (va_up (va_up (va_up (va_up (va_up (va_up (va_up (va_up (fun _ => none) 0 (some (u0 0))) 1 (some (u1 0))) 2 (some (u2 0))) 3 (some (u3 0))) 4 (some (u4 0))) 5 (some (u5 0))) 6 (some (u6 0))) 7 (some (u7 0)))))))) :: (YW ct u7 y00 (YW ct u6 y00 (YW ct u5 y00 (YW ct u4 y00 (YW ct u3 y00 (YW ct u2 y00 (YW ct u1 y00 (YW ct u0 y00 R))))))))) := hD
  refine lv_iinc (v := nI (8)) (lv' := [(1, .int (nI (8))), (0, .ref o9)]) hx hb dX3_init_34 hl (k := 0) rfl (zInc _) (by decide) rfl (fun ls hl => ?_)
  refine lv_goto (tgt := 15) hx hb dX3_init_37 (by decide) ?_
  refine lv_iload_n hx hb dX3_init_15 rfl (lv_at hl 0 rfl) ?_
  refine lv_bipush (v := nI (8)) hx hb dX3_init_16 (by decide) ?_
  refine zN_icmp_gt (tgt := 40) hx hb (by decide) (by decide) dX3_init_18 (by decide) (fun c18 => absurd c18 (by decide)) (fun c18 => ?_)
  refine lv_aload_n hx hb dX3_init_21 rfl (lv_at hl 1 rfl) ?_
  refine va_get (ci := 2) (v := .ref q1) hx hb hts h_own hown hK hP 0 rfl rfl 0 (by decide) (hts (.fieldLink RX3 11 "CartArguments$History" "slots" "[LCartArguments$Yard;") (by decide +kernel)) (fun _ h9 => h9) rfl dX3_init_22 ?_
  refine lv_iload_n hx hb dX3_init_25 rfl (lv_at hl 0 rfl) ?_
  refine va_new (ci := 8) (fs := [.int (nI 0), .null, .null, .null, .null, .int (nI 0), .null, .null, .null, .int (nI 0), .null, .null, .null, .null, .float 0, .int (nI 0)]) (C := RX9) (T := TX9) (N := 16) hx hb hts in_X3_init_X9 tyX9 tyX9_ok hown (hts (.classLink RX3 9 RX9) (by decide +kernel)) (hts (.instantiable RX9 16) (by decide +kernel)) (hts (.initialized RX9) (by decide +kernel)) hK hP hD hS hA rfl ty9_v (Nat.le_of_ble_eq_true rfl) (Nat.le_of_ble_eq_true rfl) dX3_init_26 (fun n8 H hP hD hS => ?_)
  have hP := zPp (List.perm_append_singleton _ _) hP
  have hD := zDp (List.perm_append_singleton _ _) hD
  refine lv_dup hx hb dX3_init_29 rfl ?_
  refine zNV [] [.ref n8, .int (nI (8)), .ref q1] (kX9_init n8 ((o9, .inr (2, [.ref q1, .int (nI 0), .int (nI 0)])) :: (q1, .inl (ct 5, 9, .inr (.inr (.inr (.inr (va_up (va_up (va_up (va_up (va_up (va_up (va_up (va_up (fun _ => none) 0 (some (u0 0))) 1 (some (u1 0))) 2 (some (u2 0))) 3 (some (u3 0))) 4 (some (u4 0))) 5 (some (u5 0))) 6 (some (u6 0))) 7 (some (u7 0)))))))) :: (YW ct u7 y00 (YW ct u6 y00 (YW ct u5 y00 (YW ct u4 y00 (YW ct u3 y00 (YW ct u2 y00 (YW ct u1 y00 (YW ct u0 y00 R)))))))))) hx hb hml hown hts (cwI 0 hts gX3_init_X9_init rfl rfl rfl (hts (.initialized RX9) (by decide +kernel)) (hts (.methodLink RX3 17 yX9_init) (by decide +kernel)) (hts (.instanceMethod yX9_init) (by decide +kernel)) rfl (by decide +kernel) ⟨(Nat.le_of_ble_eq_true rfl), (Nat.le_of_ble_eq_true rfl)⟩) hK hP hD hS hA rfl hl.1 rfl (Nat.le_of_ble_eq_true rfl) dX3_init_30 ⟨(Nat.le_of_ble_eq_true rfl), (Nat.le_of_ble_eq_true rfl)⟩ (fun u8 H locs hu hP hD hS => ?_)
  rw [← hu]
  have hP := zPp (zMv1 (YW ct u8 y00 []) [(o9, .inr (2, [.ref q1, .int (nI 0), .int (nI 0)])), (q1, .inl (ct 5, 9, .inr (.inr (.inr (.inr (va_up (va_up (va_up (va_up (va_up (va_up (va_up (va_up (fun _ => none) 0 (some (u0 0))) 1 (some (u1 0))) 2 (some (u2 0))) 3 (some (u3 0))) 4 (some (u4 0))) 5 (some (u5 0))) 6 (some (u6 0))) 7 (some (u7 0))))))))] (YW ct u7 y00 (YW ct u6 y00 (YW ct u5 y00 (YW ct u4 y00 (YW ct u3 y00 (YW ct u2 y00 (YW ct u1 y00 (YW ct u0 y00 R))))))))) hP
  have hD := zDp (zMv1 (YW ct u8 y00 []) [(o9, .inr (2, [.ref q1, .int (nI 0), .int (nI 0)])), (q1, .inl (ct 5, 9, .inr (.inr (.inr (.inr (va_up (va_up (va_up (va_up (va_up (va_up (va_up (va_up (fun _ => none) 0 (some (u0 0))) 1 (some (u1 0))) 2 (some (u2 0))) 3 (some (u3 0))) 4 (some (u4 0))) 5 (some (u5 0))) 6 (some (u6 0))) 7 (some (u7 0))))))))] (YW ct u7 y00 (YW ct u6 y00 (YW ct u5 y00 (YW ct u4 y00 (YW ct u3 y00 (YW ct u2 y00 (YW ct u1 y00 (YW ct u0 y00 R))))))))) hD
  have hP : va_P D vwCl ((o9, .inr (2, [.ref q1, .int (nI 0), .int (nI 0)])) :: (q1, .inl (ct 5, 9, .inr (.inr (.inr (.inr (va_up (va_up (va_up (va_up (va_up (va_up (va_up (va_up (fun _ => none) 0 (some (u0 0))) 1 (some (u1 0))) 2 (some (u2 0))) 3 (some (u3 0))) 4 (some (u4 0))) 5 (some (u5 0))) 6 (some (u6 0))) 7 (some (u7 0)))))))) :: (YW ct u8 y00 (YW ct u7 y00 (YW ct u6 y00 (YW ct u5 y00 (YW ct u4 y00 (YW ct u3 y00 (YW ct u2 y00 (YW ct u1 y00 (YW ct u0 y00 R)))))))))) H := hP
  have hD : va_D A ((o9, .inr (2, [.ref q1, .int (nI 0), .int (nI 0)])) :: (q1, .inl (ct 5, 9, .inr (.inr (.inr (.inr (va_up (va_up (va_up (va_up (va_up (va_up (va_up (va_up (fun _ => none) 0 (some (u0 0))) 1 (some (u1 0))) 2 (some (u2 0))) 3 (some (u3 0))) 4 (some (u4 0))) 5 (some (u5 0))) 6 (some (u6 0))) 7 (some (u7 0)))))))) :: (YW ct u8 y00 (YW ct u7 y00 (YW ct u6 y00 (YW ct u5 y00 (YW ct u4 y00 (YW ct u3 y00 (YW ct u2 y00 (YW ct u1 y00 (YW ct u0 y00 R)))))))))) := hD
  refine zQast (i := 8) hx hb hK hP hD hS 1 2 rfl rfl (by decide) (by decide) dX3_init_33 (fun H locs hP hD hS => ?_)
  have hP : va_P D vwCl ((o9, .inr (2, [.ref q1, .int (nI 0), .int (nI 0)])) :: (q1, .inl (ct 5, 9, .inr (.inr (.inr (.inr (va_up (va_up (va_up (va_up (va_up (va_up (va_up (va_up (va_up (fun _ => none) 0 (some (u0 0))) 1 (some (u1 0))) 2 (some (u2 0))) 3 (some (u3 0))) 4 (some (u4 0))) 5 (some (u5 0))) 6 (some (u6 0))) 7 (some (u7 0))) 8 (some (u8 0)))))))) :: (YW ct u8 y00 (YW ct u7 y00 (YW ct u6 y00 (YW ct u5 y00 (YW ct u4 y00 (YW ct u3 y00 (YW ct u2 y00 (YW ct u1 y00 (YW ct u0 y00 R)))))))))) H := hP
  have hD : va_D A ((o9, .inr (2, [.ref q1, .int (nI 0), .int (nI 0)])) :: (q1, .inl (ct 5, 9, .inr (.inr (.inr (.inr (va_up (va_up (va_up (va_up (va_up (va_up (va_up (va_up (va_up (fun _ => none) 0 (some (u0 0))) 1 (some (u1 0))) 2 (some (u2 0))) 3 (some (u3 0))) 4 (some (u4 0))) 5 (some (u5 0))) 6 (some (u6 0))) 7 (some (u7 0))) 8 (some (u8 0)))))))) :: (YW ct u8 y00 (YW ct u7 y00 (YW ct u6 y00 (YW ct u5 y00 (YW ct u4 y00 (YW ct u3 y00 (YW ct u2 y00 (YW ct u1 y00 (YW ct u0 y00 R)))))))))) := hD
  refine lv_iinc (v := nI (9)) (lv' := [(1, .int (nI (9))), (0, .ref o9)]) hx hb dX3_init_34 hl (k := 0) rfl (zInc _) (by decide) rfl (fun ls hl => ?_)
  refine lv_goto (tgt := 15) hx hb dX3_init_37 (by decide) ?_
  refine lv_iload_n hx hb dX3_init_15 rfl (lv_at hl 0 rfl) ?_
  refine lv_bipush (v := nI (8)) hx hb dX3_init_16 (by decide) ?_
  refine zN_icmp_gt (tgt := 40) hx hb (by decide) (by decide) dX3_init_18 (by decide) (fun c18 => ?_) (fun c18 => absurd (by decide) c18)
  have e9 : ∀ j, j < 9 → (va_up (va_up (va_up (va_up (va_up (va_up (va_up (va_up (va_up (fun _ => none) 0 (some (u0 0))) 1 (some (u1 0))) 2 (some (u2 0))) 3 (some (u3 0))) 4 (some (u4 0))) 5 (some (u5 0))) 6 (some (u6 0))) 7 (some (u7 0))) 8 (some (u8 0))) j = (fun i => some ((fun k => [u0, u1, u2, u3, u4, u5, u6, u7, u8].getD k u0) i 0)) j := fun j hj => by
    rcases (show j = 0 ∨ j = 1 ∨ j = 2 ∨ j = 3 ∨ j = 4 ∨ j = 5 ∨ j = 6 ∨ j = 7 ∨ j = 8 by omega) with rfl | rfl | rfl | rfl | rfl | rfl | rfl | rfl | rfl <;> rfl
  have hP := zEqQ e9 hP
  have hD : va_D A ((o9, .inr (2, [.ref q1, .int (nI 0), .int (nI 0)])) :: (q1, .inl (ct 5, 9, .inr (.inr (.inr (.inr (fun i => some ((fun k => [u0, u1, u2, u3, u4, u5, u6, u7, u8].getD k u0) i 0))))))) :: (YW ct u8 y00 (YW ct u7 y00 (YW ct u6 y00 (YW ct u5 y00 (YW ct u4 y00 (YW ct u3 y00 (YW ct u2 y00 (YW ct u1 y00 (YW ct u0 y00 R)))))))))) := hD.set (p := 1) (a := q1) rfl
  exact zVret (wf := fun o : (Nat → Nat) × (Nat → Nat → Nat) => HW ct o.1 o.2 (0, 0, fun _ => y00) R) ((fun k => [o9, q1].getD k 0), (fun k => [u0, u1, u2, u3, u4, u5, u6, u7, u8].getD k u0)) hx hb hr hlocks hK hP hD hS dX3_init_40 rfl
