/-! THE FRAME OF ALL CONTRACTS: one world a contract, the whole of it; its answer and its world behind are said -/
/-- the classes of the arrays: 0 int, 1 float, 2 long, 3 char, 4 byte, 5 Yard -/
abbrev zT (ct : Nat → ClassId) : List (ClassId × FieldType) := [(ct 0, .int), (ct 1, .float), (ct 2, .long), (ct 3, .char), (ct 4, .byte), (ct 5, .object RX9)]
abbrev zK (D : va_G) (ct : Nat → ClassId) (U : State) : Prop := va_K D vwCl (zT ct) U
def zP (D : va_G) (ct : Nat → ClassId) (w : va_W) (sz : Nat) : State → Prop := fun U => U.heap.size = sz ∧ va_P D vwCl w U.heap ∧ zK D ct U ∧ va_D (fun _ => True) w
def zB (D : va_G) (ct : Nat → ClassId) {S : Type} (A : Nat → Prop) (wf : S → va_W) : S → State → Prop := fun u t => va_P D vwCl (wf u) t.heap ∧ zK D ct t ∧ va_D A (wf u)
theorem zP_blind {D : va_G} {ct : Nat → ClassId} {av : List Value} {w : va_W} {sz : Nat} : FrameBlind (va_Pc av (zP D ct w sz)) :=
  fun a U g mk q => by
    obtain ⟨q0, q1, qP, qK, qD⟩ := q
    exact ⟨q0, q1, qP, va_K.moved (u := U) (U := U.calling g mk a) (Vm.Alike.refl U.vm) qK, qD⟩
def MI (D : va_G) (ct : Nat → ClassId) (l : Launch) (y : MethodName) (ws : List Cond) (rm : Room) (w : va_W) (av : List Value) {S : Type} (post : Int32 → S → Prop) (wf : S → va_W) : Prop :=
  ∀ sz : Nat, Met l y ws rm (va_Pc av (zP D ct w sz)) (va_Qi post (zB D ct (va_A w sz) wf) (va_A w sz)) rm.cells rm.slots (va_A w sz)
def MF (D : va_G) (ct : Nat → ClassId) (l : Launch) (y : MethodName) (ws : List Cond) (rm : Room) (w : va_W) (av : List Value) {S : Type} (post : UInt32 → S → Prop) (wf : S → va_W) : Prop :=
  ∀ sz : Nat, Met l y ws rm (va_Pc av (zP D ct w sz)) (va_Qf post (zB D ct (va_A w sz) wf) (va_A w sz)) rm.cells rm.slots (va_A w sz)
def MD (D : va_G) (ct : Nat → ClassId) (l : Launch) (y : MethodName) (ws : List Cond) (rm : Room) (w : va_W) (av : List Value) {S : Type} (post : UInt64 → S → Prop) (wf : S → va_W) : Prop :=
  ∀ sz : Nat, Met l y ws rm (va_Pc av (zP D ct w sz)) (va_Qd post (zB D ct (va_A w sz) wf) (va_A w sz)) rm.cells rm.slots (va_A w sz)
def MV (D : va_G) (ct : Nat → ClassId) (l : Launch) (y : MethodName) (ws : List Cond) (rm : Room) (w : va_W) (av : List Value) {S : Type} (post : S → Prop) (wf : S → va_W) : Prop :=
  ∀ sz : Nat, Met l y ws rm (va_Pc av (zP D ct w sz)) (va_Qv post (zB D ct (va_A w sz) wf) (va_A w sz)) rm.cells rm.slots (va_A w sz)
/-- what holds all along a method's walk -/
def zF (p : Program) (y : MethodName) (ws : List Cond) (cc : ByteArray) (maxL : Nat) (ret : Option FieldType) (s : State) (m : MethodId) (args : Array Value) (meth : Method) (c : Code) : Prop :=
  p.tables.exec = Jvm.exec ∧ c.code = cc ∧ meth.sig.returnType = ret ∧ meth.locks = false ∧ c.maxLocals = maxL ∧ s.vm.findClass y.cls = some m.cls ∧ (∀ w ∈ ws, w.before args s = true) ∧ meth.name = y.name
section ZOF
variable {D : va_G} {ct : Nat → ClassId} {l : Launch} {y : MethodName} {ws ws' : List Cond} {rm : Room} {w : va_W} {av : List Value} {S : Type} {cc : ByteArray} {maxL : Nat} {ret : Option FieldType}
theorem zOf {Qc : (Nat → Prop) → Array Value → State → Outcome → State → Prop} (hy : plainName y.cls = true) (hw : ws = Cond.code y cc maxL ret :: ws') (hlen : (lg_sl av).length ≤ maxL)
    (body : ∀ (p : Program) (e : Env) (s : State) (m : MethodId) (args : Array Value) (below : List Frame) (meth : Method) (c : Code) (A : Nat → Prop), zF p y ws cc maxL ret s m args meth c → va_P D vwCl w s.heap → zK D ct s → va_D A w → va_S A s.heap s.heap [] → (∀ q, s.heap.size ≤ q → A q) → (A = va_A w s.heap.size) →
      ∀ ls : Array Slot, lv_has ls maxL (lv_args 0 av) → W p l e rm s m args below meth c s.heap [] 0 0 (MQ below (Qc A) args s rm.cells rm.slots A) (F0 m 0 ls [])) :
    ∀ sz : Nat, Met l y ws rm (va_Pc av (zP D ct w sz)) (Qc (va_A w sz)) rm.cells rm.slots (va_A w sz) := by
  intro sz
  refine Met.ofW (cc := cc) (maxL := maxL) (ret := ret) hy hw ?_
  intro p e s m args below meth c s₁ B hml hv
  obtain ⟨rfl, hsz, hP, hK, hD0⟩ := hv
  subst hsz
  have hD := hD0.self (sz := s.heap.size)
  have hl := lv_entry av (n := maxL) hlen
  rw [lg_entry_eq]
  exact body p e s m _ below meth c (va_A w s.heap.size) ⟨B.exec, B.bytes, B.returns, B.notSynchronized, hml, findClass_of_methodNamed B.named, atoms_spec (ws := ws) B.pre, (name_of_methodNamed B.named B.method).1⟩ hP hK hD va_S.rf (fun q h => Or.inr h) rfl _ hl
end ZOF
section ZW
variable {D : va_G} {ct : Nat → ClassId} {p : Program} {l : Launch} {e : Env} {R : Room} {s : State} {m : MethodId} {args : Array Value} {below : List Frame} {meth : Method} {c : Code} {H : Heap} {locs : List Loc} {cells slots : Nat} {Q : State → Prop}
variable {cc : ByteArray} {pc : Nat} {ls : Array Slot} {rest st0 : List Value} {A : Nat → Prop} {ws : va_W} {S : Type}
theorem zIret {post : Int32 → S → Prop} {wf : S → va_W} {v : Int32} (u : S) (hx : p.tables.exec = Jvm.exec) (hb : c.code = cc) (hr : meth.sig.returnType = some .int) (hlocks : meth.locks = false) (hK : zK D ct s) (hP : va_P D vwCl (wf u) H) (hD : va_D A (wf u)) (hS : va_S A s.heap H locs) (hdg : decode cc pc = .ok (.ireturn, 1)) (hpost : post v u) :
    W p l e R s m args below meth c H locs cells slots (MQ below (va_Qi post (zB D ct A wf) A) args s cells slots A) (F0 m pc ls [.int v]) :=
  W.iret (v := v) hx hb hr (fun t ht hW => ⟨⟨v, u, rfl, hpost, by rw [ht]; exact hP, va_K.moved hW.alike hK, hD⟩, hS.F ht⟩) hS.2.2 hdg hlocks
theorem zZret {post : Int32 → S → Prop} {wf : S → va_W} {v : Int32} (u : S) (hn : narrow .boolean (.int v) = .int v) (hx : p.tables.exec = Jvm.exec) (hb : c.code = cc) (hr : meth.sig.returnType = some .boolean) (hlocks : meth.locks = false) (hK : zK D ct s) (hP : va_P D vwCl (wf u) H) (hD : va_D A (wf u)) (hS : va_S A s.heap H locs) (hdg : decode cc pc = .ok (.ireturn, 1)) (hpost : post v u) :
    W p l e R s m args below meth c H locs cells slots (MQ below (va_Qi post (zB D ct A wf) A) args s cells slots A) (F0 m pc ls [.int v]) :=
  W.zret (v := v) hx hb hr hn (fun t ht hW => ⟨⟨v, u, rfl, hpost, by rw [ht]; exact hP, va_K.moved hW.alike hK, hD⟩, hS.F ht⟩) hS.2.2 hdg hlocks
theorem zFret {post : UInt32 → S → Prop} {wf : S → va_W} {v : UInt32} (u : S) (hx : p.tables.exec = Jvm.exec) (hb : c.code = cc) (hr : meth.sig.returnType = some .float) (hlocks : meth.locks = false) (hK : zK D ct s) (hP : va_P D vwCl (wf u) H) (hD : va_D A (wf u)) (hS : va_S A s.heap H locs) (hdg : decode cc pc = .ok (.freturn, 1)) (hpost : post v u) :
    W p l e R s m args below meth c H locs cells slots (MQ below (va_Qf post (zB D ct A wf) A) args s cells slots A) (F0 m pc ls [.float v]) :=
  W.fret (v := v) hx hb hr (fun t ht hW => ⟨⟨v, u, rfl, hpost, by rw [ht]; exact hP, va_K.moved hW.alike hK, hD⟩, hS.F ht⟩) hS.2.2 hdg hlocks
theorem zDret {post : UInt64 → S → Prop} {wf : S → va_W} {v : UInt64} (u : S) (hx : p.tables.exec = Jvm.exec) (hb : c.code = cc) (hr : meth.sig.returnType = some .double) (hlocks : meth.locks = false) (hK : zK D ct s) (hP : va_P D vwCl (wf u) H) (hD : va_D A (wf u)) (hS : va_S A s.heap H locs) (hdg : decode cc pc = .ok (.dreturn, 1)) (hpost : post v u) :
    W p l e R s m args below meth c H locs cells slots (MQ below (va_Qd post (zB D ct A wf) A) args s cells slots A) (F0 m pc ls [.double v]) :=
  W.dret (v := v) hx hb hr (fun t ht hW => ⟨⟨v, u, rfl, hpost, by rw [ht]; exact hP, va_K.moved hW.alike hK, hD⟩, hS.F ht⟩) hS.2.2 hdg hlocks
theorem zVret {post : S → Prop} {wf : S → va_W} (u : S) (hx : p.tables.exec = Jvm.exec) (hb : c.code = cc) (hr : meth.sig.returnType = none) (hlocks : meth.locks = false) (hK : zK D ct s) (hP : va_P D vwCl (wf u) H) (hD : va_D A (wf u)) (hS : va_S A s.heap H locs) (hdg : decode cc pc = .ok (.return_, 1)) (hpost : post u) :
    W p l e R s m args below meth c H locs cells slots (MQ below (va_Qv post (zB D ct A wf) A) args s cells slots A) (F0 m pc ls []) :=
  W.vret hx hb hr (fun t ht hW => ⟨⟨u, rfl, hpost, by rw [ht]; exact hP, va_K.moved hW.alike hK, hD⟩, hS.F ht⟩) hS.2.2 hdg hlocks
/-- the cells that a callee over the whole world may write are the caller's -/
theorem zFree {ws : va_W} (hD : va_D A ws) (hS : va_S A s.heap H locs) (hA : ∀ q, s.heap.size ≤ q → A q) : ∀ q, va_A ws H.size q → A q := by
  intro q h
  rcases h with ⟨k, e, h⟩ | h
  · exact hD.2 k (q, e) h
  · exact hA q (Nat.le_trans hS.1 h)
variable {y : MethodName} {bytes : ByteArray} {maxL nL index n : Nat} {ret : Option FieldType} {cws : List Cond} {rm : Room} {Ts : List Cond} {own C : String} {b : Addr} {As : List Value} {wc : va_W}
theorem zPre (hK : zK D ct s) (hP : va_P D vwCl wc H) (hD : va_D A wc) (av : List Value) : ∀ U : State, U.heap = H → s.WarmedH U.vm → va_Pc av (zP D ct wc H.size) av.toArray U :=
  fun U hU hW => ⟨rfl, by rw [hU], by rw [hU]; exact hP, va_K.moved hW.alike hK, hD.weaken (fun _ _ _ _ => trivial)⟩
theorem zRunV {Qc : (Nat → Prop) → Array Value → State → Outcome → State → Prop} (hM : ∀ sz : Nat, Met l y cws rm (va_Pc (.ref b :: As) (zP D ct wc sz)) (Qc (va_A wc sz)) rm.cells rm.slots (va_A wc sz))
    (hx : p.tables.exec = Jvm.exec) (hb : c.code = cc) (hml : c.maxLocals = nL) (hown : s.vm.findClass own = some m.cls) (hts : ∀ w ∈ Ts, w.before args s = true) (cw : CallW R s args own C index y bytes maxL ret cws rm rm.cells rm.slots n)
    (hK : zK D ct s) (hP : va_P D vwCl wc H) (hD : va_D A wc) (hrec : ∃ cell : Cell, H[b]? = some cell ∧ cell.vm.isStatics = false ∧ s.vm.findClass C = some cell.cls) (hn : As.length = n) (hsize : ls.size = nL) (hst : st0 = As.reverse ++ .ref b :: rest) (hW : (rest.map fun v => v.category).sum ≤ 8)
    (hdg : decode cc pc = .ok (.invokevirtual index, 3)) (hf : cells + rm.cells ≤ R.cells ∧ slots + rm.slots ≤ R.slots) :
    va_Run p l e R s m args below meth c H locs cells slots rm.cells rm.slots (F0 m pc ls st0) rest (Qc (va_A wc H.size) (Value.ref b :: As).toArray) (va_A wc H.size) :=
  va_runV (g := F0 m pc ls st0) ⟨hx, hb, hml, hown, hts⟩ (hM H.size) cw ⟨zP_blind, hrec, zPre hK hP hD _⟩ rfl hn hsize hst (lv_room hW) hdg hf
theorem zRunI {Qc : (Nat → Prop) → Array Value → State → Outcome → State → Prop} (hM : ∀ sz : Nat, Met l y cws rm (va_Pc (.ref b :: As) (zP D ct wc sz)) (Qc (va_A wc sz)) rm.cells rm.slots (va_A wc sz))
    (hx : p.tables.exec = Jvm.exec) (hb : c.code = cc) (hml : c.maxLocals = nL) (hown : s.vm.findClass own = some m.cls) (hts : ∀ w ∈ Ts, w.before args s = true) (cw : CallB R s args own index y bytes maxL none cws rm rm.cells rm.slots n ∧ y.name = "<init>" ∧ (Cond.instanceMethod y).before args s = true)
    (hK : zK D ct s) (hP : va_P D vwCl wc H) (hD : va_D A wc) (hn : As.length = n) (hsize : ls.size = nL) (hst : st0 = As.reverse ++ .ref b :: rest) (hW : (rest.map fun v => v.category).sum ≤ 8)
    (hdg : decode cc pc = .ok (.invokespecial index, 3)) (hf : cells + rm.cells ≤ R.cells ∧ slots + rm.slots ≤ R.slots) :
    va_Run p l e R s m args below meth c H locs cells slots rm.cells rm.slots (F0 m pc ls st0) rest (Qc (va_A wc H.size) (Value.ref b :: As).toArray) (va_A wc H.size) :=
  va_runI (g := F0 m pc ls st0) ⟨hx, hb, hml, hown, hts⟩ (hM H.size) cw ⟨zP_blind, zPre hK hP hD _⟩ rfl hn hsize hst (lv_room hW) hdg hf
theorem zRunS {Qc : (Nat → Prop) → Array Value → State → Outcome → State → Prop} (hM : ∀ sz : Nat, Met l y cws rm (va_Pc As (zP D ct wc sz)) (Qc (va_A wc sz)) rm.cells rm.slots (va_A wc sz))
    (hx : p.tables.exec = Jvm.exec) (hb : c.code = cc) (hml : c.maxLocals = nL) (hown : s.vm.findClass own = some m.cls) (hts : ∀ w ∈ Ts, w.before args s = true) (cw : CallB R s args own index y bytes maxL ret cws rm rm.cells rm.slots n ∧ (Cond.static y).before args s = true)
    (hK : zK D ct s) (hP : va_P D vwCl wc H) (hD : va_D A wc) (hn : As.length = n) (hsize : ls.size = nL) (hst : st0 = As.reverse ++ rest) (hW : (rest.map fun v => v.category).sum ≤ 8)
    (hdg : decode cc pc = .ok (.invokestatic index, 3)) (hf : cells + rm.cells ≤ R.cells ∧ slots + rm.slots ≤ R.slots) :
    va_Run p l e R s m args below meth c H locs cells slots rm.cells rm.slots (F0 m pc ls st0) rest (Qc (va_A wc H.size) As.toArray) (va_A wc H.size) :=
  va_runS (g := F0 m pc ls st0) ⟨hx, hb, hml, hown, hts⟩ (hM H.size) cw ⟨zP_blind, zPre hK hP hD _⟩ rfl hn hsize hst (lv_room hW) hdg hf
theorem zCallI {post : Int32 → S → Prop} {wf : S → va_W} {a : Array Value} {mc ms : Nat} (hr : va_Run p l e R s m args below meth c H locs cells slots mc ms (F0 m pc ls st0) rest (va_Qi post (zB D ct (va_A wc H.size) wf) (va_A wc H.size) a) (va_A wc H.size))
    (hD : va_D A wc) (hS : va_S A s.heap H locs) (hA : ∀ q, s.heap.size ≤ q → A q)
    (kk : ∀ (r : Int32) (u : S) (H1 : Heap) (locs1 : List Loc), post r u → va_P D vwCl (wf u) H1 → va_D A (wf u) → va_S A s.heap H1 locs1 → W p l e R s m args below meth c H1 locs1 (cells + mc) (slots + ms) Q (F0 m (pc + 3) ls (.int r :: rest))) : W p l e R s m args below meth c H locs cells slots Q (F0 m pc ls st0) := by
  have hF := zFree hD hS hA
  refine va_calli hr hS (fun q _ h => hF q h) hF (fun r u t H1 locs1 ht hvm hw hB hz1 hk1 hS1 => ?_)
  obtain ⟨hP1, -, hD1⟩ := hB
  rw [ht] at hP1
  exact kk r u H1 locs1 hw hP1 (hD1.weaken (fun _ q _ h => hF q.1 h)) hS1
theorem zCallF {post : UInt32 → S → Prop} {wf : S → va_W} {a : Array Value} {mc ms : Nat} (hr : va_Run p l e R s m args below meth c H locs cells slots mc ms (F0 m pc ls st0) rest (va_Qf post (zB D ct (va_A wc H.size) wf) (va_A wc H.size) a) (va_A wc H.size))
    (hD : va_D A wc) (hS : va_S A s.heap H locs) (hA : ∀ q, s.heap.size ≤ q → A q)
    (kk : ∀ (r : UInt32) (u : S) (H1 : Heap) (locs1 : List Loc), post r u → va_P D vwCl (wf u) H1 → va_D A (wf u) → va_S A s.heap H1 locs1 → W p l e R s m args below meth c H1 locs1 (cells + mc) (slots + ms) Q (F0 m (pc + 3) ls (.float r :: rest))) : W p l e R s m args below meth c H locs cells slots Q (F0 m pc ls st0) := by
  have hF := zFree hD hS hA
  refine va_callf hr hS (fun q _ h => hF q h) hF (fun r u t H1 locs1 ht hvm hw hB hz1 hk1 hS1 => ?_)
  obtain ⟨hP1, -, hD1⟩ := hB
  rw [ht] at hP1
  exact kk r u H1 locs1 hw hP1 (hD1.weaken (fun _ q _ h => hF q.1 h)) hS1
theorem zCallD {post : UInt64 → S → Prop} {wf : S → va_W} {a : Array Value} {mc ms : Nat} (hr : va_Run p l e R s m args below meth c H locs cells slots mc ms (F0 m pc ls st0) rest (va_Qd post (zB D ct (va_A wc H.size) wf) (va_A wc H.size) a) (va_A wc H.size))
    (hD : va_D A wc) (hS : va_S A s.heap H locs) (hA : ∀ q, s.heap.size ≤ q → A q)
    (kk : ∀ (r : UInt64) (u : S) (H1 : Heap) (locs1 : List Loc), post r u → va_P D vwCl (wf u) H1 → va_D A (wf u) → va_S A s.heap H1 locs1 → W p l e R s m args below meth c H1 locs1 (cells + mc) (slots + ms) Q (F0 m (pc + 3) ls (.double r :: rest))) : W p l e R s m args below meth c H locs cells slots Q (F0 m pc ls st0) := by
  have hF := zFree hD hS hA
  refine va_calld hr hS (fun q _ h => hF q h) hF (fun r u t H1 locs1 ht hvm hw hB hz1 hk1 hS1 => ?_)
  obtain ⟨hP1, -, hD1⟩ := hB
  rw [ht] at hP1
  exact kk r u H1 locs1 hw hP1 (hD1.weaken (fun _ q _ h => hF q.1 h)) hS1
theorem zCallV {post : S → Prop} {wf : S → va_W} {a : Array Value} {mc ms : Nat} (hr : va_Run p l e R s m args below meth c H locs cells slots mc ms (F0 m pc ls st0) rest (va_Qv post (zB D ct (va_A wc H.size) wf) (va_A wc H.size) a) (va_A wc H.size))
    (hD : va_D A wc) (hS : va_S A s.heap H locs) (hA : ∀ q, s.heap.size ≤ q → A q)
    (kk : ∀ (u : S) (H1 : Heap) (locs1 : List Loc), post u → va_P D vwCl (wf u) H1 → va_D A (wf u) → va_S A s.heap H1 locs1 → W p l e R s m args below meth c H1 locs1 (cells + mc) (slots + ms) Q (F0 m (pc + 3) ls rest)) : W p l e R s m args below meth c H locs cells slots Q (F0 m pc ls st0) := by
  have hF := zFree hD hS hA
  refine va_callv hr hS (fun q _ h => hF q h) hF (fun u t H1 locs1 ht hvm hw hB hz1 hk1 hS1 => ?_)
  obtain ⟨hP1, -, hD1⟩ := hB
  rw [ht] at hP1
  exact kk u H1 locs1 hw hP1 (hD1.weaken (fun _ q _ h => hF q.1 h)) hS1
end ZW
section ZOF2
variable {D : va_G} {ct : Nat → ClassId} {l : Launch} {y : MethodName} {ws ws' : List Cond} {rm : Room} {w : va_W} {av : List Value} {S : Type} {wf : S → va_W} {cc : ByteArray} {maxL : Nat} {ret : Option FieldType}
theorem MIof {post : Int32 → S → Prop} (hy : plainName y.cls = true) (hw : ws = Cond.code y cc maxL ret :: ws') (hlen : (lg_sl av).length ≤ maxL)
    (body : ∀ (p : Program) (e : Env) (s : State) (m : MethodId) (args : Array Value) (below : List Frame) (meth : Method) (c : Code) (A : Nat → Prop) (H : Heap) (locs : List Loc), zF p y ws cc maxL ret s m args meth c → va_P D vwCl w H → zK D ct s → va_D A w → va_S A s.heap H locs → (∀ q, s.heap.size ≤ q → A q) →
      ∀ ls : Array Slot, lv_has ls maxL (lv_args 0 av) → W p l e rm s m args below meth c H locs 0 0 (MQ below (va_Qi post (zB D ct A wf) A) args s rm.cells rm.slots A) (F0 m 0 ls [])) : MI D ct l y ws rm w av post wf :=
  zOf (Qc := fun A => va_Qi post (zB D ct A wf) A) hy hw hlen (fun p e s m args below meth c A F hP hK hD hS hA _ ls hl => body p e s m args below meth c A s.heap [] F hP hK hD hS hA ls hl)
theorem MFof {post : UInt32 → S → Prop} (hy : plainName y.cls = true) (hw : ws = Cond.code y cc maxL ret :: ws') (hlen : (lg_sl av).length ≤ maxL)
    (body : ∀ (p : Program) (e : Env) (s : State) (m : MethodId) (args : Array Value) (below : List Frame) (meth : Method) (c : Code) (A : Nat → Prop) (H : Heap) (locs : List Loc), zF p y ws cc maxL ret s m args meth c → va_P D vwCl w H → zK D ct s → va_D A w → va_S A s.heap H locs → (∀ q, s.heap.size ≤ q → A q) →
      ∀ ls : Array Slot, lv_has ls maxL (lv_args 0 av) → W p l e rm s m args below meth c H locs 0 0 (MQ below (va_Qf post (zB D ct A wf) A) args s rm.cells rm.slots A) (F0 m 0 ls [])) : MF D ct l y ws rm w av post wf :=
  zOf (Qc := fun A => va_Qf post (zB D ct A wf) A) hy hw hlen (fun p e s m args below meth c A F hP hK hD hS hA _ ls hl => body p e s m args below meth c A s.heap [] F hP hK hD hS hA ls hl)
theorem MDof {post : UInt64 → S → Prop} (hy : plainName y.cls = true) (hw : ws = Cond.code y cc maxL ret :: ws') (hlen : (lg_sl av).length ≤ maxL)
    (body : ∀ (p : Program) (e : Env) (s : State) (m : MethodId) (args : Array Value) (below : List Frame) (meth : Method) (c : Code) (A : Nat → Prop) (H : Heap) (locs : List Loc), zF p y ws cc maxL ret s m args meth c → va_P D vwCl w H → zK D ct s → va_D A w → va_S A s.heap H locs → (∀ q, s.heap.size ≤ q → A q) →
      ∀ ls : Array Slot, lv_has ls maxL (lv_args 0 av) → W p l e rm s m args below meth c H locs 0 0 (MQ below (va_Qd post (zB D ct A wf) A) args s rm.cells rm.slots A) (F0 m 0 ls [])) : MD D ct l y ws rm w av post wf :=
  zOf (Qc := fun A => va_Qd post (zB D ct A wf) A) hy hw hlen (fun p e s m args below meth c A F hP hK hD hS hA _ ls hl => body p e s m args below meth c A s.heap [] F hP hK hD hS hA ls hl)
theorem MVof {post : S → Prop} (hy : plainName y.cls = true) (hw : ws = Cond.code y cc maxL ret :: ws') (hlen : (lg_sl av).length ≤ maxL)
    (body : ∀ (p : Program) (e : Env) (s : State) (m : MethodId) (args : Array Value) (below : List Frame) (meth : Method) (c : Code) (A : Nat → Prop) (H : Heap) (locs : List Loc), zF p y ws cc maxL ret s m args meth c → va_P D vwCl w H → zK D ct s → va_D A w → va_S A s.heap H locs → (∀ q, s.heap.size ≤ q → A q) →
      ∀ ls : Array Slot, lv_has ls maxL (lv_args 0 av) → W p l e rm s m args below meth c H locs 0 0 (MQ below (va_Qv post (zB D ct A wf) A) args s rm.cells rm.slots A) (F0 m 0 ls [])) : MV D ct l y ws rm w av post wf :=
  zOf (Qc := fun A => va_Qv post (zB D ct A wf) A) hy hw hlen (fun p e s m args below meth c A F hP hK hD hS hA _ ls hl => body p e s m args below meth c A s.heap [] F hP hK hD hS hA ls hl)
end ZOF2
theorem zSw (lo hi : Nat) (x : Int32) (hl : lo < 2 ^ 31) (hh : hi < 2 ^ 31) : (x.toInt < (lo : Int) ∨ (hi : Int) < x.toInt) ∨ ∃ j : Nat, (lo ≤ j ∧ j ≤ hi) ∧ x = nI j := by
  by_cases h1 : x.toInt < (lo : Int)
  · exact Or.inl (Or.inl h1)
  · by_cases h2 : (hi : Int) < x.toInt
    · exact Or.inl (Or.inr h2)
    · refine Or.inr ⟨x.toInt.toNat, ⟨by omega, by omega⟩, ?_⟩
      apply Int32.toInt_inj.mp
      rw [nI_toInt (by omega)]
      omega
theorem zSwO {lo hi : Nat} {x : Int32} (h : x.toInt < (lo : Int) ∨ (hi : Int) < x.toInt) : x.toInt < (lo : Int) ∨ (hi : Int) < x.toInt := h
section ZCALL
variable {D : va_G} {ct : Nat → ClassId} {p : Program} {l : Launch} {e : Env} {R : Room} {s : State} {m : MethodId} {args : Array Value} {below : List Frame} {meth : Method} {c : Code} {H : Heap} {locs : List Loc} {cells slots : Nat} {Q : State → Prop}
variable {cc : ByteArray} {pc : Nat} {ls : Array Slot} {A : Nat → Prop} {S : Type} {y : MethodName} {bytes : ByteArray} {maxL nL index n : Nat} {ret : Option FieldType} {cws : List Cond} {rm : Room} {Ts : List Cond} {own C : String} {b : Addr} {wc : va_W} {wf : S → va_W}
theorem zVI (As rest : List Value) {st0 : List Value} {post : Int32 → S → Prop} (hM : MI D ct l y cws rm wc (.ref b :: As) post wf) (hx : p.tables.exec = Jvm.exec) (hb : c.code = cc) (hml : c.maxLocals = nL) (hown : s.vm.findClass own = some m.cls) (hts : ∀ w ∈ Ts, w.before args s = true) (cw : CallW R s args own C index y bytes maxL ret cws rm rm.cells rm.slots n) (hK : zK D ct s) (hP : va_P D vwCl wc H) (hD : va_D A wc) (hS : va_S A s.heap H locs) (hA : ∀ q, s.heap.size ≤ q → A q) (hrec : ∃ cell : Cell, H[b]? = some cell ∧ cell.vm.isStatics = false ∧ s.vm.findClass C = some cell.cls) (hn : As.length = n) (hsize : ls.size = nL) (hst : st0 = As.reverse ++ .ref b :: rest) (hW : (rest.map fun v => v.category).sum ≤ 8) (hdg : decode cc pc = .ok (.invokevirtual index, 3)) (hf : cells + rm.cells ≤ R.cells ∧ slots + rm.slots ≤ R.slots) (kk : ∀ (r : Int32) (u : S) (H1 : Heap) (locs1 : List Loc), post r u → va_P D vwCl (wf u) H1 → va_D A (wf u) → va_S A s.heap H1 locs1 → W p l e R s m args below meth c H1 locs1 (cells + rm.cells) (slots + rm.slots) Q (F0 m (pc + 3) ls (.int r :: rest))) : W p l e R s m args below meth c H locs cells slots Q (F0 m pc ls st0) :=
  zCallI (zRunV (Qc := fun A => va_Qi post (zB D ct A wf) A) hM hx hb hml hown hts cw hK hP hD hrec hn hsize hst hW hdg hf) hD hS hA kk
theorem zSI (As rest : List Value) {st0 : List Value} {post : Int32 → S → Prop} (hM : MI D ct l y cws rm wc As post wf) (hx : p.tables.exec = Jvm.exec) (hb : c.code = cc) (hml : c.maxLocals = nL) (hown : s.vm.findClass own = some m.cls) (hts : ∀ w ∈ Ts, w.before args s = true) (cw : CallB R s args own index y bytes maxL ret cws rm rm.cells rm.slots n ∧ (Cond.static y).before args s = true) (hK : zK D ct s) (hP : va_P D vwCl wc H) (hD : va_D A wc) (hS : va_S A s.heap H locs) (hA : ∀ q, s.heap.size ≤ q → A q) (hn : As.length = n) (hsize : ls.size = nL) (hst : st0 = As.reverse ++ rest) (hW : (rest.map fun v => v.category).sum ≤ 8) (hdg : decode cc pc = .ok (.invokestatic index, 3)) (hf : cells + rm.cells ≤ R.cells ∧ slots + rm.slots ≤ R.slots) (kk : ∀ (r : Int32) (u : S) (H1 : Heap) (locs1 : List Loc), post r u → va_P D vwCl (wf u) H1 → va_D A (wf u) → va_S A s.heap H1 locs1 → W p l e R s m args below meth c H1 locs1 (cells + rm.cells) (slots + rm.slots) Q (F0 m (pc + 3) ls (.int r :: rest))) : W p l e R s m args below meth c H locs cells slots Q (F0 m pc ls st0) :=
  zCallI (zRunS (Qc := fun A => va_Qi post (zB D ct A wf) A) hM hx hb hml hown hts cw hK hP hD hn hsize hst hW hdg hf) hD hS hA kk
theorem zVF (As rest : List Value) {st0 : List Value} {post : UInt32 → S → Prop} (hM : MF D ct l y cws rm wc (.ref b :: As) post wf) (hx : p.tables.exec = Jvm.exec) (hb : c.code = cc) (hml : c.maxLocals = nL) (hown : s.vm.findClass own = some m.cls) (hts : ∀ w ∈ Ts, w.before args s = true) (cw : CallW R s args own C index y bytes maxL ret cws rm rm.cells rm.slots n) (hK : zK D ct s) (hP : va_P D vwCl wc H) (hD : va_D A wc) (hS : va_S A s.heap H locs) (hA : ∀ q, s.heap.size ≤ q → A q) (hrec : ∃ cell : Cell, H[b]? = some cell ∧ cell.vm.isStatics = false ∧ s.vm.findClass C = some cell.cls) (hn : As.length = n) (hsize : ls.size = nL) (hst : st0 = As.reverse ++ .ref b :: rest) (hW : (rest.map fun v => v.category).sum ≤ 8) (hdg : decode cc pc = .ok (.invokevirtual index, 3)) (hf : cells + rm.cells ≤ R.cells ∧ slots + rm.slots ≤ R.slots) (kk : ∀ (r : UInt32) (u : S) (H1 : Heap) (locs1 : List Loc), post r u → va_P D vwCl (wf u) H1 → va_D A (wf u) → va_S A s.heap H1 locs1 → W p l e R s m args below meth c H1 locs1 (cells + rm.cells) (slots + rm.slots) Q (F0 m (pc + 3) ls (.float r :: rest))) : W p l e R s m args below meth c H locs cells slots Q (F0 m pc ls st0) :=
  zCallF (zRunV (Qc := fun A => va_Qf post (zB D ct A wf) A) hM hx hb hml hown hts cw hK hP hD hrec hn hsize hst hW hdg hf) hD hS hA kk
theorem zSF (As rest : List Value) {st0 : List Value} {post : UInt32 → S → Prop} (hM : MF D ct l y cws rm wc As post wf) (hx : p.tables.exec = Jvm.exec) (hb : c.code = cc) (hml : c.maxLocals = nL) (hown : s.vm.findClass own = some m.cls) (hts : ∀ w ∈ Ts, w.before args s = true) (cw : CallB R s args own index y bytes maxL ret cws rm rm.cells rm.slots n ∧ (Cond.static y).before args s = true) (hK : zK D ct s) (hP : va_P D vwCl wc H) (hD : va_D A wc) (hS : va_S A s.heap H locs) (hA : ∀ q, s.heap.size ≤ q → A q) (hn : As.length = n) (hsize : ls.size = nL) (hst : st0 = As.reverse ++ rest) (hW : (rest.map fun v => v.category).sum ≤ 8) (hdg : decode cc pc = .ok (.invokestatic index, 3)) (hf : cells + rm.cells ≤ R.cells ∧ slots + rm.slots ≤ R.slots) (kk : ∀ (r : UInt32) (u : S) (H1 : Heap) (locs1 : List Loc), post r u → va_P D vwCl (wf u) H1 → va_D A (wf u) → va_S A s.heap H1 locs1 → W p l e R s m args below meth c H1 locs1 (cells + rm.cells) (slots + rm.slots) Q (F0 m (pc + 3) ls (.float r :: rest))) : W p l e R s m args below meth c H locs cells slots Q (F0 m pc ls st0) :=
  zCallF (zRunS (Qc := fun A => va_Qf post (zB D ct A wf) A) hM hx hb hml hown hts cw hK hP hD hn hsize hst hW hdg hf) hD hS hA kk
theorem zVD (As rest : List Value) {st0 : List Value} {post : UInt64 → S → Prop} (hM : MD D ct l y cws rm wc (.ref b :: As) post wf) (hx : p.tables.exec = Jvm.exec) (hb : c.code = cc) (hml : c.maxLocals = nL) (hown : s.vm.findClass own = some m.cls) (hts : ∀ w ∈ Ts, w.before args s = true) (cw : CallW R s args own C index y bytes maxL ret cws rm rm.cells rm.slots n) (hK : zK D ct s) (hP : va_P D vwCl wc H) (hD : va_D A wc) (hS : va_S A s.heap H locs) (hA : ∀ q, s.heap.size ≤ q → A q) (hrec : ∃ cell : Cell, H[b]? = some cell ∧ cell.vm.isStatics = false ∧ s.vm.findClass C = some cell.cls) (hn : As.length = n) (hsize : ls.size = nL) (hst : st0 = As.reverse ++ .ref b :: rest) (hW : (rest.map fun v => v.category).sum ≤ 8) (hdg : decode cc pc = .ok (.invokevirtual index, 3)) (hf : cells + rm.cells ≤ R.cells ∧ slots + rm.slots ≤ R.slots) (kk : ∀ (r : UInt64) (u : S) (H1 : Heap) (locs1 : List Loc), post r u → va_P D vwCl (wf u) H1 → va_D A (wf u) → va_S A s.heap H1 locs1 → W p l e R s m args below meth c H1 locs1 (cells + rm.cells) (slots + rm.slots) Q (F0 m (pc + 3) ls (.double r :: rest))) : W p l e R s m args below meth c H locs cells slots Q (F0 m pc ls st0) :=
  zCallD (zRunV (Qc := fun A => va_Qd post (zB D ct A wf) A) hM hx hb hml hown hts cw hK hP hD hrec hn hsize hst hW hdg hf) hD hS hA kk
theorem zSD (As rest : List Value) {st0 : List Value} {post : UInt64 → S → Prop} (hM : MD D ct l y cws rm wc As post wf) (hx : p.tables.exec = Jvm.exec) (hb : c.code = cc) (hml : c.maxLocals = nL) (hown : s.vm.findClass own = some m.cls) (hts : ∀ w ∈ Ts, w.before args s = true) (cw : CallB R s args own index y bytes maxL ret cws rm rm.cells rm.slots n ∧ (Cond.static y).before args s = true) (hK : zK D ct s) (hP : va_P D vwCl wc H) (hD : va_D A wc) (hS : va_S A s.heap H locs) (hA : ∀ q, s.heap.size ≤ q → A q) (hn : As.length = n) (hsize : ls.size = nL) (hst : st0 = As.reverse ++ rest) (hW : (rest.map fun v => v.category).sum ≤ 8) (hdg : decode cc pc = .ok (.invokestatic index, 3)) (hf : cells + rm.cells ≤ R.cells ∧ slots + rm.slots ≤ R.slots) (kk : ∀ (r : UInt64) (u : S) (H1 : Heap) (locs1 : List Loc), post r u → va_P D vwCl (wf u) H1 → va_D A (wf u) → va_S A s.heap H1 locs1 → W p l e R s m args below meth c H1 locs1 (cells + rm.cells) (slots + rm.slots) Q (F0 m (pc + 3) ls (.double r :: rest))) : W p l e R s m args below meth c H locs cells slots Q (F0 m pc ls st0) :=
  zCallD (zRunS (Qc := fun A => va_Qd post (zB D ct A wf) A) hM hx hb hml hown hts cw hK hP hD hn hsize hst hW hdg hf) hD hS hA kk
theorem zVV (As rest : List Value) {st0 : List Value} {post : S → Prop} (hM : MV D ct l y cws rm wc (.ref b :: As) post wf) (hx : p.tables.exec = Jvm.exec) (hb : c.code = cc) (hml : c.maxLocals = nL) (hown : s.vm.findClass own = some m.cls) (hts : ∀ w ∈ Ts, w.before args s = true) (cw : CallW R s args own C index y bytes maxL ret cws rm rm.cells rm.slots n) (hK : zK D ct s) (hP : va_P D vwCl wc H) (hD : va_D A wc) (hS : va_S A s.heap H locs) (hA : ∀ q, s.heap.size ≤ q → A q) (hrec : ∃ cell : Cell, H[b]? = some cell ∧ cell.vm.isStatics = false ∧ s.vm.findClass C = some cell.cls) (hn : As.length = n) (hsize : ls.size = nL) (hst : st0 = As.reverse ++ .ref b :: rest) (hW : (rest.map fun v => v.category).sum ≤ 8) (hdg : decode cc pc = .ok (.invokevirtual index, 3)) (hf : cells + rm.cells ≤ R.cells ∧ slots + rm.slots ≤ R.slots) (kk : ∀ (u : S) (H1 : Heap) (locs1 : List Loc), post u → va_P D vwCl (wf u) H1 → va_D A (wf u) → va_S A s.heap H1 locs1 → W p l e R s m args below meth c H1 locs1 (cells + rm.cells) (slots + rm.slots) Q (F0 m (pc + 3) ls rest)) : W p l e R s m args below meth c H locs cells slots Q (F0 m pc ls st0) :=
  zCallV (zRunV (Qc := fun A => va_Qv post (zB D ct A wf) A) hM hx hb hml hown hts cw hK hP hD hrec hn hsize hst hW hdg hf) hD hS hA kk
theorem zSV (As rest : List Value) {st0 : List Value} {post : S → Prop} (hM : MV D ct l y cws rm wc As post wf) (hx : p.tables.exec = Jvm.exec) (hb : c.code = cc) (hml : c.maxLocals = nL) (hown : s.vm.findClass own = some m.cls) (hts : ∀ w ∈ Ts, w.before args s = true) (cw : CallB R s args own index y bytes maxL ret cws rm rm.cells rm.slots n ∧ (Cond.static y).before args s = true) (hK : zK D ct s) (hP : va_P D vwCl wc H) (hD : va_D A wc) (hS : va_S A s.heap H locs) (hA : ∀ q, s.heap.size ≤ q → A q) (hn : As.length = n) (hsize : ls.size = nL) (hst : st0 = As.reverse ++ rest) (hW : (rest.map fun v => v.category).sum ≤ 8) (hdg : decode cc pc = .ok (.invokestatic index, 3)) (hf : cells + rm.cells ≤ R.cells ∧ slots + rm.slots ≤ R.slots) (kk : ∀ (u : S) (H1 : Heap) (locs1 : List Loc), post u → va_P D vwCl (wf u) H1 → va_D A (wf u) → va_S A s.heap H1 locs1 → W p l e R s m args below meth c H1 locs1 (cells + rm.cells) (slots + rm.slots) Q (F0 m (pc + 3) ls rest)) : W p l e R s m args below meth c H locs cells slots Q (F0 m pc ls st0) :=
  zCallV (zRunS (Qc := fun A => va_Qv post (zB D ct A wf) A) hM hx hb hml hown hts cw hK hP hD hn hsize hst hW hdg hf) hD hS hA kk
theorem zNV (As rest : List Value) {st0 : List Value} {post : S → Prop} (hM : MV D ct l y cws rm wc (.ref b :: As) post wf) (hx : p.tables.exec = Jvm.exec) (hb : c.code = cc) (hml : c.maxLocals = nL) (hown : s.vm.findClass own = some m.cls) (hts : ∀ w ∈ Ts, w.before args s = true) (cw : CallB R s args own index y bytes maxL none cws rm rm.cells rm.slots n ∧ y.name = "<init>" ∧ (Cond.instanceMethod y).before args s = true) (hK : zK D ct s) (hP : va_P D vwCl wc H) (hD : va_D A wc) (hS : va_S A s.heap H locs) (hA : ∀ q, s.heap.size ≤ q → A q) (hn : As.length = n) (hsize : ls.size = nL) (hst : st0 = As.reverse ++ .ref b :: rest) (hW : (rest.map fun v => v.category).sum ≤ 8) (hdg : decode cc pc = .ok (.invokespecial index, 3)) (hf : cells + rm.cells ≤ R.cells ∧ slots + rm.slots ≤ R.slots) (kk : ∀ (u : S) (H1 : Heap) (locs1 : List Loc), post u → va_P D vwCl (wf u) H1 → va_D A (wf u) → va_S A s.heap H1 locs1 → W p l e R s m args below meth c H1 locs1 (cells + rm.cells) (slots + rm.slots) Q (F0 m (pc + 3) ls rest)) : W p l e R s m args below meth c H locs cells slots Q (F0 m pc ls st0) :=
  zCallV (zRunI (Qc := fun A => va_Qv post (zB D ct A wf) A) hM hx hb hml hown hts cw hK hP hD hn hsize hst hW hdg hf) hD hS hA kk
end ZCALL
