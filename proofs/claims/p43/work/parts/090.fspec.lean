/-! THE FACE: what its calls answer -/
def a_tenG (y : YS) (x z : Int32) : Int32 := if p_in x (y_cn y) then t_to y x z else -1
def a_couC (y : YS) (x1 x2 : Int32) : Int32 := if ¬ p_in x1 (y_cn y) ∨ ¬ p_in x2 (y_rn y) then -1 else nI (t_trips y (ixI x1) (ixI x2))
def a_chC (y : YS) (x : Int32) : Int32 := if p_in x (y_cn y) then t_chC y (ixI x) else -1
def a_rsC (rs : RS) (d z : Int32) : Int32 := if d = 0 then (if z = 0 then rs.1 else rs.2.1) else if d = nI 1 then (if z = 0 then rs.2.2.1 else rs.2.2.2) else -2
def F_bstC (y : YS) (b : BS) (x : Int32) : Int32 × BS := if p_in x (y_cn y) then (lsC (b_w (gatB y x b)) (b_n (gatB y x b)) 0 (nI 0) (nI 0), gatB y x b) else (-1, b)
def F_bsgC (y : YS) (b : BS) (x : Int32) : Int32 × BS := if p_in x (y_cn y) then (losB (setB (gatB y x b)) (2 ^ b_n (gatB y x b) - 1), setB (gatB y x b)) else (-1, b)
def F_resC (y sy : YS) (sv : Int32) (h : HS) : Int32 × YS × HS := if sv = 0 then (-4, y, h) else (nI (y_n sy), sy, (h.1, 0, h.2.2))
theorem tkW (y : YS) (x : Int32) (k : Nat) : tkF y x (k + 1) = if p_wi y x k then tkF y x k ||| (nI 1 <<< (nI k &&& 31)) else tkF y x k := rfl
section ZLW
variable {p : Program} {l : Launch} {e : Env} {R : Room} {s : State} {m : MethodId} {args : Array Value} {below : List Frame} {meth : Method} {c : Code} {H : Heap} {locs : List Loc} {cells slots : Nat} {Q : State → Prop}
variable {cc : ByteArray} {pc : Nat} {ls : Array Slot} {rest : List Value}
/-- a wide constant, a float -/
theorem zLdcwI {T : State} (X : Stand p l e R s m args below meth c T locs cells slots) (hexec : p.tables.exec = Jvm.exec) {own : String} {index : Nat} {v : UInt32} (hown : s.vm.findClass own = some m.cls)
    (hconst : (Cond.constantFloat own index v).before args s = true) {g : JFrame} (hg : g.method = m) (hdg : decode c.code g.pc = .ok (.ldc_w index, 3)) :
    ∀ target, Steps p.tables e below (T.setTop { g with pc := g.pc + 3, stack := .float v :: g.stack }) target → Steps p.tables e below (T.setTop g) target := by
  obtain ⟨k, cf, hk, hcf, hcp⟩ := Cond.constantFloat_spec hown hconst
  obtain ⟨k', hk', he⟩ := X.warmed.alike.2.2 _ _ hk
  intro target hrest
  subst hg
  jvm_step X.here [hexec, hdg, ldc_w.wp_float (s := T) (f := g) X.here.top hk' (by rw [he]; exact hcf) hcp]
  exact hrest
theorem zLdcwF (hx : p.tables.exec = Jvm.exec) (hb : c.code = cc) {own : String} {index : Nat} {v : UInt32} (hown : s.vm.findClass own = some m.cls) (hconst : (Jvm.Cond.constantFloat own index v).before args s = true) (hdg : decode cc pc = .ok (.ldc_w index, 3)) (k : W p l e R s m args below meth c H locs cells slots Q (F0 m (pc + 3) ls (.float v :: rest))) : W p l e R s m args below meth c H locs cells slots Q (F0 m pc ls rest) := by
  intro T hT X
  obtain ⟨t, a, b⟩ := k T hT X
  exact ⟨t, zLdcwI X hx hown hconst (g := F0 m pc ls rest) rfl (by rw [hb]; exact hdg) t a, b⟩
end ZLW
