/-! THE LAW: its world, and its ways of taking numbers from the script -/
/-- the addresses of the class's parts -/
abbrev CK : Type := (Nat → Nat) × (Nat → Nat) × (Nat → Nat) × (Nat → Nat) × (Nat → Nat) × (Nat → Nat) × (Nat → Nat) × (Nat → Nat) × (Nat → Nat → Nat)
abbrev kA (K : CK) : Nat → Nat := K.1
abbrev kB (K : CK) : Nat → Nat := K.2.1
abbrev kD (K : CK) : Nat → Nat := K.2.2.1
abbrev kI (K : CK) : Nat → Nat := K.2.2.2.1
abbrev kL (K : CK) : Nat → Nat := K.2.2.2.2.1
abbrev kS (K : CK) : Nat → Nat := K.2.2.2.2.2.1
abbrev kX (K : CK) : Nat → Nat := K.2.2.2.2.2.2.1
abbrev kH (K : CK) : Nat → Nat := K.2.2.2.2.2.2.2.1
abbrev kHa (K : CK) : Nat → Nat → Nat := K.2.2.2.2.2.2.2.2
def CLd (ct : Nat → ClassId) (ee : Nat → Nat) (K : CK) (y : YS) (rs : RS) (bz : BS) (iv : IS) (lz : LST) (sy : YS) (xv : Int32 × Int32) (hz : HS) : va_W :=
  YW ct (kA K) y (KR (kA K) (kB K) rs (BW ct (kA K) (kD K) bz (IW ct (kI K) ee iv (LW ct (kL K) lz (YW ct (kS K) sy (XO (kX K) (kA K) (kS K) (kH K) (kB K) (kD K) (kI K) (kL K) xv (HWl ct (kH K) (kHa K) hz)))))))
def CWd (ct : Nat → ClassId) (ee : Nat → Nat) (K : CK) (y : YS) (rs : RS) (bz : BS) (iv : IS) (lz : LST) (sy : YS) (xv : Int32 × Int32) (hz : HS) (R : va_W) : va_W :=
  YW ct (kA K) y (KR (kA K) (kB K) rs (BW ct (kA K) (kD K) bz (IW ct (kI K) ee iv (LW ct (kL K) lz (YW ct (kS K) sy (XO (kX K) (kA K) (kS K) (kH K) (kB K) (kD K) (kI K) (kL K) xv (HW ct (kH K) (kHa K) hz R)))))))
section LWS
variable {D : va_G} {ct : Nat → ClassId} {ee : Nat → Nat} {K : CK} {y : YS} {rs : RS} {bz : BS} {iv : IS} {lz : LST} {sy : YS} {xv : Int32 × Int32} {hz : HS} {o : Nat → Nat} {v : MS} {H : Heap} {A : Nat → Prop}
theorem CWd_app (R : va_W) : CWd ct ee K y rs bz iv lz sy xv hz R = CLd ct ee K y rs bz iv lz sy xv hz ++ R := rfl
theorem lwPerm : (CWd ct ee K y rs bz iv lz sy xv hz (MW ct o v [])).Perm (MW ct o v (CLd ct ee K y rs bz iv lz sy xv hz)) := by
  rw [CWd_app]
  exact (List.perm_append_comm : (CLd ct ee K y rs bz iv lz sy xv hz ++ MW ct o v []).Perm (MW ct o v [] ++ CLd ct ee K y rs bz iv lz sy xv hz))
theorem lwTo (h : va_P D vwCl (CWd ct ee K y rs bz iv lz sy xv hz (MW ct o v [])) H) : va_P D vwCl (MW ct o v (CLd ct ee K y rs bz iv lz sy xv hz)) H := zPp lwPerm h
theorem lwFr (h : va_P D vwCl (MW ct o v (CLd ct ee K y rs bz iv lz sy xv hz)) H) : va_P D vwCl (CWd ct ee K y rs bz iv lz sy xv hz (MW ct o v [])) H := zPp lwPerm.symm h
theorem lwToD (h : va_D A (CWd ct ee K y rs bz iv lz sy xv hz (MW ct o v []))) : va_D A (MW ct o v (CLd ct ee K y rs bz iv lz sy xv hz)) := zDp lwPerm h
theorem lwFrD (h : va_D A (MW ct o v (CLd ct ee K y rs bz iv lz sy xv hz))) : va_D A (CWd ct ee K y rs bz iv lz sy xv hz (MW ct o v [])) := zDp lwPerm.symm h
end LWS
abbrev AD (s : State) : Nat → Prop := fun q => s.heap.size ≤ q
/-- what holds all along the law -/
def lwX (D : va_G) (ct : Nat → ClassId) (g : XG) (p : Program) (s : State) (m : MethodId) (b L : Nat) (xs : Nat → Int32) (c : Code) : Prop :=
  p.tables.exec = Jvm.exec ∧ c.code = cL_law ∧ c.maxLocals = 8 ∧ s.vm.findClass RL = some m.cls ∧ (∀ w ∈ wsL_law, w.before #[Value.ref b] s = true) ∧ va_X b L xs s s.heap ∧ b < s.heap.size ∧ zK D ct s ∧ zX g (AD s) s s.heap
/-- class and reference side by side, the law at a place, i of the script behind it -/
def lwAt (D : va_G) (ct : Nat → ClassId) (g : XG) (p : Program) (l : Launch) (e : Env) (s : State) (m : MethodId) (b : Nat) (below : List Frame) (meth : Method) (c : Code) (K : CK) (o : Nat → Nat) (i cc ss : Nat) (Q : State → Prop) (pc : Nat) : Prop :=
  ∀ (y : YS) (rs : RS) (bz : BS) (iv : IS) (lz : LST) (sy : YS) (xv : Int32 × Int32) (tx : List Nat) (hz : HS) (v : MS) (H : Heap) (locs : List Loc) (ls : Array Slot), LQ y rs iv sy xv tx hz v → LR tx lz → va_P D vwCl (CWd ct (xE g) K y rs bz iv lz sy xv hz (MW ct o v [])) H → va_D (AD s) (CWd ct (xE g) K y rs bz iv lz sy xv hz (MW ct o v [])) → va_S (AD s) s.heap H locs → lv_has ls 8 [(3, .int (nI i)), (2, .ref (o 0)), (1, .ref (kX K 0)), (0, .ref b)] → W p l e room_1 s m #[Value.ref b] below meth c H locs cc ss Q (F0 m pc ls [])
section ZSCR
variable {p : Program} {l : Launch} {e : Env} {R : Room} {s : State} {m : MethodId} {args : Array Value} {below : List Frame} {meth : Method} {c : Code} {H : Heap} {locs : List Loc} {cells slots : Nat} {Q : State → Prop}
variable {cc : ByteArray} {pc : Nat} {ls : Array Slot} {rest : List Value} {A : Nat → Prop}
/-- a number of the script -/
theorem zScr (hx : p.tables.exec = Jvm.exec) (hb : c.code = cc) {b L : Nat} {xs : Nat → Int32} (hX : va_X b L xs s s.heap) (hbl : b < s.heap.size) (hbA : ¬ A b) (hS : va_S A s.heap H locs) {i k q1 q2 : Nat} (hl : lv_has ls 8 [(3, .int (nI i)), (2, .ref q2), (1, .ref q1), (0, .ref b)]) (hi : i + k < L) (hL : L ≤ 2048) {n : Int} (hn : Int32.ofInt n = nI k) {x : Int32} (hx1 : x = xs (nI (i + k)).toNatClampNeg)
    (d0 : decode cc pc = .ok (.aload_n 0, 1)) (d1 : decode cc (pc + 1) = .ok (.iload_n 3, 1)) (d2 : decode cc (pc + 1 + 1) = .ok (.iconst n, 1)) (d3 : decode cc (pc + 1 + 1 + 1) = .ok (.iadd, 1)) (d4 : decode cc (pc + 1 + 1 + 1 + 1) = .ok (.iaload, 1))
    (kk : W p l e R s m args below meth c H locs cells slots Q (F0 m (pc + 1 + 1 + 1 + 1 + 1) ls (.int x :: rest))) : W p l e R s m args below meth c H locs cells slots Q (F0 m pc ls rest) := by
  refine lv_aload_n hx hb d0 rfl (lv_at hl 3 rfl) ?_
  refine lv_iload_n hx hb d1 rfl (lv_at hl 0 rfl) ?_
  refine lv_iconst (v := nI k) hx hb d2 hn ?_
  refine lv_iadd hx hb d3 ?_
  refine zTop (nI_add i k) ?_
  refine va_sld hx hb hX hbl hbA hS (vp_in_nI hi (by omega)) d4 ?_
  exact zTop hx1.symm kk
def zbl (x : Int32) : Int32 := if x = 0 then nI 0 else nI 1
theorem zbl_01 (x : Int32) : zbl x = nI 0 ∨ zbl x = nI 1 := by
  unfold zbl; split
  · exact Or.inl rfl
  · exact Or.inr rfl
/-- is it other than 0 -/
theorem zBoo (hx : p.tables.exec = Jvm.exec) (hb : c.code = cc) {x : Int32} (d0 : decode cc pc = .ok (.ifCond .eq 7, 3)) (d1 : decode cc (pc + 3) = .ok (.iconst 1, 1)) (d2 : decode cc (pc + 3 + 1) = .ok (.goto 4, 3)) (d3 : decode cc (pc + 7) = .ok (.iconst 0, 1))
    (kk : W p l e R s m args below meth c H locs cells slots Q (F0 m (pc + 7 + 1) ls (.int (zbl x) :: rest))) : W p l e R s m args below meth c H locs cells slots Q (F0 m pc ls (.int x :: rest)) := by
  refine lv_if_eq (tgt := pc + 7) hx hb d0 (by omega) (fun h => ?_) (fun h => ?_)
  · refine lv_iconst (v := nI 0) hx hb d3 (by decide) ?_
    have e : zbl x = nI 0 := if_pos h
    rw [e] at kk
    exact kk
  · refine lv_iconst (v := nI 1) hx hb d1 (by decide) ?_
    refine lv_goto (tgt := pc + 7 + 1) hx hb d2 (by omega) ?_
    have e : zbl x = nI 1 := if_neg h
    rw [e] at kk
    exact kk
/-- two doubles that are one -/
theorem zDeq (hx : p.tables.exec = Jvm.exec) (hb : c.code = cc) {u : UInt64} {lv : List (Nat × Value)} {k4 k6 : Nat} (hl : lv_has ls 8 lv) (h4 : lv[k4]? = some (4, .double u)) (h6 : lv[k6]? = some (6, .double u)) {off : Int} {tgt : Nat}
    (d0 : decode cc pc = .ok (.dload 4, 2)) (d1 : decode cc (pc + 2) = .ok (.dload 6, 2)) (d2 : decode cc (pc + 2 + 2) = .ok (.dcmp .l, 1)) (d3 : decode cc (pc + 2 + 2 + 1) = .ok (.ifCond .eq 21, 3)) (d4 : decode cc (pc + 2 + 2 + 1 + 3) = .ok (.dload 4, 2)) (d5 : decode cc (pc + 2 + 2 + 1 + 3 + 2) = .ok (.dload 4, 2)) (d6 : decode cc (pc + 2 + 2 + 1 + 3 + 2 + 2) = .ok (.dcmp .l, 1)) (d7 : decode cc (pc + 2 + 2 + 1 + 3 + 2 + 2 + 1) = .ok (.ifCond .eq 11, 3)) (d8 : decode cc (pc + 2 + 2 + 1 + 3 + 2 + 2 + 1 + 3) = .ok (.dload 6, 2)) (d9 : decode cc (pc + 2 + 2 + 1 + 3 + 2 + 2 + 1 + 3 + 2) = .ok (.dload 6, 2)) (d10 : decode cc (pc + 2 + 2 + 1 + 3 + 2 + 2 + 1 + 3 + 2 + 2) = .ok (.dcmp .l, 1)) (d11 : decode cc (pc + 2 + 2 + 1 + 3 + 2 + 2 + 1 + 3 + 2 + 2 + 1) = .ok (.ifCond .ne 5, 3)) (d12 : decode cc (pc + 26) = .ok (.goto off, 3)) (ht : ((pc + 26 : Nat) : Int) + off = (tgt : Int))
    (kk : W p l e R s m args below meth c H locs cells slots Q (F0 m tgt ls rest)) : W p l e R s m args below meth c H locs cells slots Q (F0 m pc ls rest) := by
  have go : W p l e R s m args below meth c H locs cells slots Q (F0 m (pc + 26) ls rest) := lv_goto hx hb d12 ht kk
  refine lv_dload hx hb d0 (lv_at hl k4 h4) ?_
  refine lv_dload hx hb d1 (lv_at hl k6 h6) ?_
  refine lv_dcmp hx hb d2 ?_
  refine lv_if_eq (tgt := pc + 26) hx hb d3 (by omega) (fun _ => go) (fun hne => ?_)
  refine lv_dload hx hb d4 (lv_at hl k4 h4) ?_
  refine lv_dload hx hb d5 (lv_at hl k4 h4) ?_
  refine lv_dcmp hx hb d6 ?_
  refine lv_if_eq (tgt := pc + 24) hx hb d7 (by omega) (fun q => absurd q hne) (fun _ => ?_)
  refine lv_dload hx hb d8 (lv_at hl k6 h6) ?_
  refine lv_dload hx hb d9 (lv_at hl k6 h6) ?_
  refine lv_dcmp hx hb d10 ?_
  exact lv_if_ne (tgt := pc + 26) hx hb d11 (by omega) (fun _ => go) (fun q => absurd q hne)
end ZSCR
theorem axle_n {y : YS} (hy : yI y) (x z : Int32) : vf_n64 (FP.f2d (a_axle y x z)) := by
  unfold a_axle
  split
  · rename_i h
    obtain ⟨c, hc, rfl⟩ := p_in_ex (by have := hy.2.1; omega) h
    rw [show ixI (nI c) = c from nI_clamp (by have := hy.2.1; omega)]
    exact nD_n64 (nD_f2d (ld_nF hy hc))
  · unfold vf_n64; decide +kernel
theorem wear_n {y : YS} (hy : yI y) (hf : yF y) (x z : Int32) : vf_n64 (FP.f2d (a_wear y x z)) := by
  unfold a_wear
  split
  · rename_i h
    obtain ⟨c, hc, rfl⟩ := p_in_ex (by have := hy.2.1; omega) h
    rw [show ixI (nI c) = c from nI_clamp (by have := hy.2.1; omega)]
    exact nD_n64 (nD_f2d (hf.1 _ (wix_lt (by have := hy.2.1; omega))))
  · unfold vf_n64; decide +kernel
theorem share_n64 {y : YS} (hy : yI y) : vf_n64 (FP.f2d (a_share y)) := by
  unfold a_share
  have hn := hy.2.1
  have ha := acr_le hy
  split
  · unfold vf_n64; decide +kernel
  · rename_i h
    refine nD_n64 (nD_f2d (nF_div (i2f_fin (by omega)).n (i2f_fin (by omega)) ?_))
    rcases (show y_cn y = 1 ∨ y_cn y = 2 ∨ y_cn y = 3 ∨ y_cn y = 4 by omega) with h | h | h | h <;> rw [h] <;> decide +kernel
theorem LQ_best {y : YS} {rs : RS} {iv : IS} {sy : YS} {xv : Int32 × Int32} {tx : List Nat} {h : HS} {v : MS} (hL : LQ y rs iv sy xv tx h v) (x : Int32) : LQ y rs iv sy xv tx h (F_best y v x).2 := by
  unfold F_best
  split
  · exact hL
  · generalize gW y x (m_wt v) (y_n y) = f
    generalize gN y x (y_n y) = n
    exact hL
/-- between class and reference in the law's room -/
theorem rmC {cc k n : Nat} (h : k ≤ 40) (hn : cc + 64 ≤ n) : cc + k ≤ n := by omega
