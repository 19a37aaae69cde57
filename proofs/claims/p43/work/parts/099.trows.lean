/-! TEXTS OF THE LAW: a String and its row -/
abbrev SST : Type := Nat × Nat × (Nat → Int32) × Int32 × Int32
abbrev s_q (z : SST) : Nat := z.1
abbrev s_n (z : SST) : Nat := z.2.1
abbrev s_f (z : SST) : Nat → Int32 := z.2.2.1
abbrev s_h (z : SST) : Int32 := z.2.2.2.1
abbrev s_z (z : SST) : Int32 := z.2.2.2.2
def SW (ct : Nat → ClassId) (t : Nat → Nat) (z : SST) (R : va_W) : va_W :=
  (t 0, .inr (10, [.ref (s_q z), .int (nI 0), .int (s_h z), .int (s_z z)])) :: (s_q z, aB ct (s_n z) (s_f z)) :: R
/-- the String is the letters of a list -/
def SR (L : List Nat) (z : SST) : Prop := s_n z = L.length ∧ L.length ≤ 60 ∧ sb_Fit (s_f z) ∧ ∀ j, j < L.length → s_f z j = sb_b (L.getD j 0) ∧ L.getD j 0 < 256
/-- the letters of the law's own texts -/
abbrev kF (i : Nat) : Nat → Int32 := fun j => (xBy.getD i []).getD j 0
theorem kF_all : ∀ i : Fin 9, (∀ j : Fin 2, fits .byte (.int (kF i.val j.val)) = true) ∧ (xBy.getD i.val []).length ≤ 1 ∧ (∀ j : Fin (fmL i.val).length, kF i.val j.val = sb_b ((fmL i.val).getD j.val 0) ∧ (fmL i.val).getD j.val 0 < 256) := by decide +kernel
theorem kF_fit {i : Nat} (hi : i < 9) : sb_Fit (kF i) := fun j => by
  by_cases h : j < 2
  · exact (kF_all ⟨i, hi⟩).1 ⟨j, h⟩
  · have hl := (kF_all ⟨i, hi⟩).2.1
    have hl' : (xBy.getD i []).length ≤ j := by have : (xBy.getD i []).length ≤ 1 := hl; omega
    have e : kF i j = 0 := by
      show (xBy.getD i []).getD j 0 = 0
      rw [List.getD_eq_getElem?_getD, List.getElem?_eq_none hl']; rfl
    rw [e]; decide
theorem kF_sb {i j : Nat} (hi : i < 9) (hj : j < (fmL i).length) : kF i j = sb_b ((fmL i).getD j 0) ∧ (fmL i).getD j 0 < 256 := (kF_all ⟨i, hi⟩).2.2 ⟨j, hj⟩
theorem LR_cat {L M : List Nat} {z u : LST} {src : Nat → Int32} {q : Nat} {ml : Int32} (h : LR L z) (hu : okc (l_m u)) (hm : L.length + M.length ≤ l_m u) (hf : sb_Fit (l_f u)) (hk : ∀ j, j < l_m z → l_f u j = l_f z j) (hs : sb_Fit src) (hM : ∀ j, j < M.length → src j = sb_b (M.getD j 0) ∧ M.getD j 0 < 256) :
    LR (L ++ M) (q, l_m u, va_cpy src (l_f u) 0 L.length M.length, L.length + M.length, ml) := by
  have hz := h.2.2.1
  refine LR_app h hu hm rfl (sb_fitC hs hf) (fun j hj => (pk_cpy_out (Or.inl hj)).trans (hk j (by omega))) (fun j hj => ?_)
  obtain ⟨a, b⟩ := hM j hj
  refine ⟨?_, b⟩
  show va_cpy src (l_f u) 0 L.length M.length (L.length + j) = _
  rw [pk_cpy_in (by omega) (by omega), show 0 + (L.length + j - L.length) = j by omega]
  exact a
section ZT
variable {D : va_G} {ct : Nat → ClassId} {g : XG} {p : Program} {l : Launch} {e : Env} {R : Room} {s : State} {m : MethodId} {args : Array Value} {below : List Frame} {meth : Method} {c : Code} {H : Heap} {locs : List Loc} {cells slots : Nat} {Q : State → Prop}
variable {cc : ByteArray} {pc : Nat} {ls : Array Slot} {rest : List Value} {A : Nat → Prop} {ws : va_W} {a a0 index : Nat} {own : String}
theorem zCopyO {n0 n1 n dp : Nat} {f g0 : Nat → Int32} (hx : p.tables.exec = Jvm.exec) (hb : c.code = cc) (hml : c.maxLocals = ls.size) (hown : s.vm.findClass own = some m.cls) (h1 : (Cond.methodLink own index arraycopyName).before args s = true) (h2 : (Cond.native arraycopyName).before args s = true) (h3 : (Cond.static arraycopyName).before args s = true) (h4 : (Cond.initialized "java/lang/System").before args s = true) (hK : zK D ct s) (hP : va_P D vwCl ws H) (hD : va_D A ws) (hS : va_S A s.heap H locs) (q0 q1 : Nat) (ha0 : ws[q0]? = some (a0, aB ct n0 f)) (ha1 : ws[q1]? = some (a, aB ct n1 g0)) (hn0 : n ≤ n0) (hn1 : dp + n ≤ n1) (hn : n1 < 2 ^ 30) (hf : sb_Fit f)
    (hframes : 1 ≤ R.frames) (hlocals : (rest.map fun v => v.category).sum + (nativeFrameWords "java/lang/System" "arraycopy" 5 + 11) ≤ R.locals) (hdg : decode cc pc = .ok (.invokestatic index, 3))
    (kk : ∀ (H1 : Heap) (locs1 : List Loc), va_P D vwCl (ws.set q1 (a, aB ct n1 (va_cpy f g0 0 dp n))) H1 → va_D A (ws.set q1 (a, aB ct n1 (va_cpy f g0 0 dp n))) → va_S A s.heap H1 locs1 → W p l e R s m args below meth c H1 locs1 cells slots Q (F0 m (pc + 3) ls rest)) : W p l e R s m args below meth c H locs cells slots Q (F0 m pc ls (.int (nI n) :: .int (nI dp) :: .ref a :: .int (nI 0) :: .ref a0 :: rest)) := by
  have e0 : (nI 0).toNatClampNeg = 0 := nI_clamp (by decide)
  have eN : (nI n).toNatClampNeg = n := nI_clamp (by omega)
  have eD : (nI dp).toNatClampNeg = dp := nI_clamp (by omega)
  refine va_copyi hx hb hml hown h1 h2 h3 h4 hK hP hD hS q0 q1 4 4 ha0 ha1 rfl rfl rfl (nI_pos (by decide)) (nI_pos (by omega)) (nI_pos (by omega)) (by rw [e0, eN]; omega) (by rw [eD, eN]; omega) (fun i _ => hf _) hframes hlocals hdg (fun H1 locs1 hP1 hD1 hS1 => ?_)
  rw [e0, eN, eD] at hP1 hD1
  exact kk H1 locs1 hP1 hD1 hS1
theorem zCopyK {i n1 dp : Nat} {g0 : Nat → Int32} (hx : p.tables.exec = Jvm.exec) (hb : c.code = cc) (hml : c.maxLocals = ls.size) (hown : s.vm.findClass own = some m.cls) (h1 : (Cond.methodLink own index arraycopyName).before args s = true) (h2 : (Cond.native arraycopyName).before args s = true) (h3 : (Cond.static arraycopyName).before args s = true) (h4 : (Cond.initialized "java/lang/System").before args s = true) (hK : zK D ct s) (hP : va_P D vwCl ws H) (hD : va_D A ws) (hS : va_S A s.heap H locs) (hX : zX g A s s.heap) (hi : i < 9) (q1 : Nat) (ha1 : ws[q1]? = some (a, aB ct n1 g0)) (hn1 : dp + (fmL i).length ≤ n1) (hn : n1 < 2 ^ 30)
    (hframes : 1 ≤ R.frames) (hlocals : (rest.map fun v => v.category).sum + (nativeFrameWords "java/lang/System" "arraycopy" 5 + 11) ≤ R.locals) (hdg : decode cc pc = .ok (.invokestatic index, 3))
    (kk : ∀ (H1 : Heap) (locs1 : List Loc), va_P D vwCl (ws.set q1 (a, aB ct n1 (va_cpy (kF i) g0 0 dp (fmL i).length))) H1 → va_D A (ws.set q1 (a, aB ct n1 (va_cpy (kF i) g0 0 dp (fmL i).length))) → va_S A s.heap H1 locs1 → W p l e R s m args below meth c H1 locs1 cells slots Q (F0 m (pc + 3) ls rest)) : W p l e R s m args below meth c H locs cells slots Q (F0 m pc ls (.int (nI (fmL i).length) :: .int (nI dp) :: .ref a :: .int (nI 0) :: .ref (xV g i) :: rest)) := by
  have h12 := fm_12 hi
  have e0 : (nI 0).toNatClampNeg = 0 := nI_clamp (by decide)
  have eN : (nI (fmL i).length).toNatClampNeg = (fmL i).length := nI_clamp (by omega)
  have eD : (nI dp).toNatClampNeg = dp := nI_clamp (by omega)
  have hT := (hX.g1.1 i hi).2.2.2
  rw [fm_len hi] at hT
  refine vk_copyt (f := kF i) hx hb hml hown h1 h2 h3 h4 hK hP hD hS hT q1 4 ha1 rfl (nI_pos (by decide)) (nI_pos (by omega)) (nI_pos (by omega)) (by rw [e0, eN]; omega) (by rw [eD, eN]; omega) (fun j _ => kF_fit hi _) hframes hlocals hdg (fun H1 locs1 hP1 hD1 hS1 => ?_)
  rw [e0, eN, eD] at hP1 hD1
  exact kk H1 locs1 hP1 hD1 hS1
end ZT
theorem aB_fit {cA : ClassId} {n : Nat} {f : Nat → Int32} (hf : sb_Fit f) : ∀ (i : Nat) (v : Value), (vp_cell cA (n, .inl f)).slots[i]? = some v → fits .byte v = true := fun i v hv => by
  rw [vp_cell_i] at hv
  have hi : i < n := by
    have := (Array.getElem?_eq_some_iff.mp hv).1
    rwa [arrV_size] at this
  rw [arrV_read _ _ hi] at hv
  cases hv
  exact hf i
theorem min_n {a b : Nat} (h : a ≤ b) (hb : b < 2 ^ 30) : (if nI a < nI b then nI a else nI b) = nI a := by
  by_cases q : a < b
  · rw [if_pos ((nI_ltI (by omega) (by omega)).mpr q)]
  · rw [if_neg (fun h => q ((nI_ltI (by omega) (by omega)).mp h))]
    exact congrArg nI (by omega)
theorem tv_J0 : ∀ j, j < 4 → defaultValue (tyJ0 j) = vp_V [.null, .int (nI 0), .int (nI 0), .int (nI 0)] j := fun j hj => by
  rcases (show j = 0 ∨ j = 1 ∨ j = 2 ∨ j = 3 by omega) with rfl | rfl | rfl | rfl <;> rfl
