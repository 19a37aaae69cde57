/-! MORE OF THE WORLD: groups moved about, rows copied whole, the class's other parts -/
theorem zPp {D : va_G} {w w' : va_W} {H : Heap} (h : w.Perm w') (hP : va_P D vwCl w H) : va_P D vwCl w' H := by
  intro k q hk
  obtain ⟨i, hi⟩ := List.getElem?_of_mem (h.mem_iff.mpr (List.mem_of_getElem? hk))
  exact hP i q hi
theorem zDpw {w : va_W} : (∀ (i j : Nat) (p q : Nat × va_E), w[i]? = some p → w[j]? = some q → p.1 = q.1 → i = j) ↔ List.Pairwise (fun p q : Nat × va_E => p.1 ≠ q.1) w := by
  rw [List.pairwise_iff_getElem]
  constructor
  · intro h i j hi hj hij e
    have := h i j _ _ (List.getElem?_eq_getElem hi) (List.getElem?_eq_getElem hj) e
    omega
  · intro h i j p q hp hq e
    obtain ⟨hi, rfl⟩ := List.getElem?_eq_some_iff.mp hp
    obtain ⟨hj, rfl⟩ := List.getElem?_eq_some_iff.mp hq
    rcases Nat.lt_trichotomy i j with a | a | a
    · exact absurd e (h i j hi hj a)
    · exact a
    · exact absurd e.symm (h j i hj hi a)
theorem zDp {A : Nat → Prop} {w w' : va_W} (h : w.Perm w') (hD : va_D A w) : va_D A w' := by
  refine ⟨zDpw.mpr ((h.pairwise_iff (fun {x y} q e => q e.symm)).mp (zDpw.mp hD.1)), fun k q hk => ?_⟩
  obtain ⟨i, hi⟩ := List.getElem?_of_mem (h.mem_iff.mpr (List.mem_of_getElem? hk))
  exact hD.2 i q hi
theorem zPset {D : va_G} {w : va_W} {q a : Nat} {e e' : va_E} {H : Heap} (h : va_P D vwCl (w.set q (a, e)) H) (he : va_at D vwCl (a, e) H → va_at D vwCl (a, e') H) : va_P D vwCl (w.set q (a, e')) H := by
  intro k p hk
  rw [List.getElem?_set] at hk
  by_cases e1 : q = k
  · subst e1
    rw [if_pos rfl] at hk
    by_cases hl : q < w.length
    · rw [if_pos hl] at hk
      cases hk
      exact he (h q _ (by rw [List.getElem?_set, if_pos rfl, if_pos hl]))
    · rw [if_neg hl] at hk; cases hk
  · rw [if_neg e1] at hk
    exact h k p (by rw [List.getElem?_set, if_neg e1]; exact hk)
theorem zDset {A : Nat → Prop} {w : va_W} {q a : Nat} {e e' : va_E} (h : va_D A (w.set q (a, e))) : va_D A (w.set q (a, e')) := by
  have key : ∀ (k : Nat) (p : Nat × va_E), (w.set q (a, e'))[k]? = some p → ∃ p' : Nat × va_E, (w.set q (a, e))[k]? = some p' ∧ p'.1 = p.1 := by
    intro k p hk
    rw [List.getElem?_set] at hk ⊢
    by_cases e1 : q = k
    · subst e1
      rw [if_pos rfl] at hk ⊢
      by_cases hl : q < w.length
      · rw [if_pos hl] at hk ⊢
        cases hk
        exact ⟨_, rfl, rfl⟩
      · rw [if_neg hl] at hk; cases hk
    · rw [if_neg e1] at hk ⊢
      exact ⟨p, hk, rfl⟩
  refine ⟨fun i j p r hp hr e1 => ?_, fun k p hk => ?_⟩
  · obtain ⟨p', h1, e2⟩ := key i p hp
    obtain ⟨r', h2, e3⟩ := key j r hr
    exact h.1 i j p' r' h1 h2 (by rw [e2, e3]; exact e1)
  · obtain ⟨p', h1, e2⟩ := key k p hk
    rw [← e2]; exact h.2 k p' h1
theorem zArr {c : ClassId} {n : Nat} {f g : Nat → Value} (h : ∀ j, j < n → f j = g j) : arrV c n f = arrV c n g := by
  have : (fun j : Fin n => f j.val) = (fun j : Fin n => g j.val) := funext fun j => h j.val j.isLt
  show ({ cls := c, slots := Array.ofFn (n := n) fun j => f j.val, vm := .none } : Cell) = { cls := c, slots := Array.ofFn (n := n) fun j => g j.val, vm := .none }
  rw [this]
theorem zAtI {D : va_G} {a n : Nat} {c : ClassId} {f g : Nat → Int32} {H : Heap} (h : ∀ j, j < n → f j = g j) (q : va_at D vwCl (a, .inl (c, n, .inl f)) H) : va_at D vwCl (a, .inl (c, n, .inl g)) H := by
  have e : vp_cell c (n, .inl f) = vp_cell c (n, .inl g) := by rw [vp_cell_i, vp_cell_i]; exact zArr (fun j hj => congrArg Value.int (h j hj))
  show H[a]? = some (vp_cell c (n, .inl g))
  rw [← e]; exact q
theorem zAtF {D : va_G} {a n : Nat} {c : ClassId} {f g : Nat → UInt32} {H : Heap} (h : ∀ j, j < n → f j = g j) (q : va_at D vwCl (a, .inl (c, n, .inr (.inr (.inl f)))) H) : va_at D vwCl (a, .inl (c, n, .inr (.inr (.inl g)))) H := by
  have e : vp_cell c (n, .inr (.inr (.inl f))) = vp_cell c (n, .inr (.inr (.inl g))) := by rw [vp_cell_f, vp_cell_f]; exact zArr (fun j hj => congrArg Value.float (h j hj))
  show H[a]? = some (vp_cell c (n, .inr (.inr (.inl g))))
  rw [← e]; exact q
theorem zCpy {α : Type} {f g : Nat → α} {N : Nat} : ∀ j, j < N → va_cpy f g 0 0 N j = f j := by
  intro j hj
  unfold va_cpy
  rw [if_pos ⟨Nat.zero_le _, by omega⟩, Nat.sub_zero, Nat.zero_add]
section ZC
variable {D : va_G} {ct : Nat → ClassId} {p : Program} {l : Launch} {e : Env} {R : Room} {s : State} {m : MethodId} {args : Array Value} {below : List Frame} {meth : Method} {c : Code} {H : Heap} {locs : List Loc} {cells slots : Nat} {Q : State → Prop}
variable {cc : ByteArray} {pc : Nat} {ls : Array Slot} {rest : List Value} {A : Nat → Prop} {ws : va_W} {a a0 N index : Nat} {own : String}
theorem zCopyI {f g : Nat → Int32} (hx : p.tables.exec = Jvm.exec) (hb : c.code = cc) (hml : c.maxLocals = ls.size) (hown : s.vm.findClass own = some m.cls) (h1 : (Cond.methodLink own index arraycopyName).before args s = true) (h2 : (Cond.native arraycopyName).before args s = true) (h3 : (Cond.static arraycopyName).before args s = true) (h4 : (Cond.initialized "java/lang/System").before args s = true) (hK : zK D ct s) (hP : va_P D vwCl ws H) (hD : va_D A ws) (hS : va_S A s.heap H locs) (q0 q1 : Nat) (ha0 : ws[q0]? = some (a0, aI ct N f)) (ha1 : ws[q1]? = some (a, aI ct N g)) (hN : N < 2 ^ 31)
    (hframes : 1 ≤ R.frames) (hlocals : (rest.map fun v => v.category).sum + (nativeFrameWords "java/lang/System" "arraycopy" 5 + 11) ≤ R.locals) (hdg : decode cc pc = .ok (.invokestatic index, 3))
    (kk : ∀ (H1 : Heap) (locs1 : List Loc), va_P D vwCl (ws.set q1 (a, aI ct N f)) H1 → va_D A (ws.set q1 (a, aI ct N f)) → va_S A s.heap H1 locs1 → W p l e R s m args below meth c H1 locs1 cells slots Q (F0 m (pc + 3) ls rest)) : W p l e R s m args below meth c H locs cells slots Q (F0 m pc ls (.int (nI N) :: .int (nI 0) :: .ref a :: .int (nI 0) :: .ref a0 :: rest)) := by
  have e0 : (nI 0).toNatClampNeg = 0 := nI_clamp (by decide)
  have eN : (nI N).toNatClampNeg = N := nI_clamp hN
  refine va_copyi hx hb hml hown h1 h2 h3 h4 hK hP hD hS q0 q1 0 0 ha0 ha1 rfl rfl rfl (nI_pos (by decide)) (nI_pos (by decide)) (nI_pos hN) (by rw [e0, eN]; omega) (by rw [e0, eN]; omega) (fun _ _ => rfl) hframes hlocals hdg (fun H1 locs1 hP1 hD1 hS1 => ?_)
  rw [e0, eN] at hP1 hD1
  exact kk H1 locs1 (zPset hP1 (zAtI (fun j hj => zCpy j hj))) (zDset hD1) hS1
theorem zCopyF {f g : Nat → UInt32} (hx : p.tables.exec = Jvm.exec) (hb : c.code = cc) (hml : c.maxLocals = ls.size) (hown : s.vm.findClass own = some m.cls) (h1 : (Cond.methodLink own index arraycopyName).before args s = true) (h2 : (Cond.native arraycopyName).before args s = true) (h3 : (Cond.static arraycopyName).before args s = true) (h4 : (Cond.initialized "java/lang/System").before args s = true) (hK : zK D ct s) (hP : va_P D vwCl ws H) (hD : va_D A ws) (hS : va_S A s.heap H locs) (q0 q1 : Nat) (ha0 : ws[q0]? = some (a0, aF ct N f)) (ha1 : ws[q1]? = some (a, aF ct N g)) (hN : N < 2 ^ 31)
    (hframes : 1 ≤ R.frames) (hlocals : (rest.map fun v => v.category).sum + (nativeFrameWords "java/lang/System" "arraycopy" 5 + 11) ≤ R.locals) (hdg : decode cc pc = .ok (.invokestatic index, 3))
    (kk : ∀ (H1 : Heap) (locs1 : List Loc), va_P D vwCl (ws.set q1 (a, aF ct N f)) H1 → va_D A (ws.set q1 (a, aF ct N f)) → va_S A s.heap H1 locs1 → W p l e R s m args below meth c H1 locs1 cells slots Q (F0 m (pc + 3) ls rest)) : W p l e R s m args below meth c H locs cells slots Q (F0 m pc ls (.int (nI N) :: .int (nI 0) :: .ref a :: .int (nI 0) :: .ref a0 :: rest)) := by
  have e0 : (nI 0).toNatClampNeg = 0 := nI_clamp (by decide)
  have eN : (nI N).toNatClampNeg = N := nI_clamp hN
  refine va_copyf hx hb hml hown h1 h2 h3 h4 hK hP hD hS q0 q1 1 1 ha0 ha1 rfl rfl rfl (nI_pos (by decide)) (nI_pos (by decide)) (nI_pos hN) (by rw [e0, eN]; omega) (by rw [e0, eN]; omega) (fun _ _ => rfl) hframes hlocals hdg (fun H1 locs1 hP1 hD1 hS1 => ?_)
  rw [e0, eN] at hP1 hD1
  exact kk H1 locs1 (zPset hP1 (zAtF (fun j hj => zCpy j hj))) (zDset hD1) hS1
/-- an element of a row of references -/
theorem zQld {f : Nat → Option Nat} (hx : p.tables.exec = Jvm.exec) (hb : c.code = cc) (hK : zK D ct s) (hP : va_P D vwCl ws H) (q0 : Nat) {n b : Nat} (ha : ws[q0]? = some (a, .inl (ct 5, n, .inr (.inr (.inr (.inr f)))))) {i : Nat} (hi : i < n) (hn : n < 2 ^ 31) (hf : f i = some b) (hdg : decode cc pc = .ok (.aaload, 1)) (kk : W p l e R s m args below meth c H locs cells slots Q (F0 m (pc + 1) ls (.ref b :: rest))) : W p l e R s m args below meth c H locs cells slots Q (F0 m pc ls (.int (nI i) :: .ref a :: rest)) := by
  refine va_aldq hx hb hK hP q0 5 ha rfl (vp_in_nI hi (by omega)) hdg ?_
  rw [nI_clamp (by omega), hf]
  exact kk
end ZC
/-- the yards before the changes, k of them -/
def HYl (ct : Nat → ClassId) (ha : Nat → Nat → Nat) (hs : Nat → YS) : Nat → va_W
  | 0 => []
  | k + 1 => YW ct (ha k) (hs k) [] ++ HYl ct ha hs k
def HYx (ct : Nat → ClassId) (ha : Nat → Nat → Nat) (hs : Nat → YS) (i : Nat) : Nat → va_W
  | 0 => []
  | k + 1 => if k = i then HYx ct ha hs i k else YW ct (ha k) (hs k) [] ++ HYx ct ha hs i k
def upS (hs : Nat → YS) (i : Nat) (y : YS) : Nat → YS := fun j => if j = i then y else hs j
theorem upS_same (hs : Nat → YS) (i : Nat) (y : YS) : upS hs i y i = y := if_pos rfl
theorem upS_ne {hs : Nat → YS} {i j : Nat} {y : YS} (h : j ≠ i) : upS hs i y j = hs j := if_neg h
theorem upS_id (hs : Nat → YS) (i : Nat) : upS hs i (hs i) = hs := by
  funext j; unfold upS; split
  · rename_i h; rw [h]
  · rfl
theorem HYx_out {ct : Nat → ClassId} {ha : Nat → Nat → Nat} {hs : Nat → YS} {i : Nat} : ∀ {k : Nat}, k ≤ i → HYx ct ha hs i k = HYl ct ha hs k
  | 0, _ => rfl
  | k + 1, h => by rw [HYx, HYl, if_neg (by omega), HYx_out (by omega)]
theorem HYx_up {ct : Nat → ClassId} {ha : Nat → Nat → Nat} {hs : Nat → YS} {i : Nat} {y : YS} : ∀ {k : Nat}, HYx ct ha (upS hs i y) i k = HYx ct ha hs i k
  | 0 => rfl
  | k + 1 => by
    rw [HYx, HYx, HYx_up]
    by_cases h : k = i
    · rw [if_pos h, if_pos h]
    · rw [if_neg h, if_neg h, upS_ne h]
theorem HY_perm {ct : Nat → ClassId} {ha : Nat → Nat → Nat} {hs : Nat → YS} {i : Nat} : ∀ {k : Nat}, i < k → (HYl ct ha hs k).Perm (YW ct (ha i) (hs i) [] ++ HYx ct ha hs i k)
  | 0, h => absurd h (Nat.not_lt_zero i)
  | k + 1, h => by
    rw [HYl, HYx]
    by_cases e : k = i
    · rw [if_pos e]
      subst e
      rw [HYx_out (Nat.le_refl k)]
    · rw [if_neg e]
      exact (List.Perm.append_left _ (HY_perm (k := k) (by omega))).trans (List.perm_append_comm_assoc _ _ _)
/-- the yards before the changes: the object, its row, nine yards -/
def HW (ct : Nat → ClassId) (h : Nat → Nat) (ha : Nat → Nat → Nat) (st : Nat × Nat × (Nat → YS)) (R : va_W) : va_W :=
  (((h 0, (Sum.inr (2, [.ref (h 1), .int (nI st.1), .int (nI st.2.1)]) : va_E)) :: (h 1, (Sum.inl (ct 5, 9, .inr (.inr (.inr (.inr (fun i => some (ha i 0)))))) : va_E)) :: HYl ct ha st.2.2 9) : va_W) ++ R
/-- the same, one of the yards in front -/
def HX (ct : Nat → ClassId) (h : Nat → Nat) (ha : Nat → Nat → Nat) (i : Nat) (st : Nat × Nat × (Nat → YS)) (R : va_W) : va_W :=
  (((h 0, (Sum.inr (2, [.ref (h 1), .int (nI st.1), .int (nI st.2.1)]) : va_E)) :: (h 1, (Sum.inl (ct 5, 9, .inr (.inr (.inr (.inr (fun i => some (ha i 0)))))) : va_E)) :: HYx ct ha st.2.2 i 9) : va_W) ++ R
theorem YW_app (ct : Nat → ClassId) (a : Nat → Nat) (y : YS) (R : va_W) : YW ct a y R = YW ct a y [] ++ R := rfl
theorem zCC (a b : Nat × va_E) (Y X : va_W) : (a :: b :: (Y ++ X)).Perm (Y ++ a :: b :: X) := List.perm_append_comm_assoc [a, b] Y X
theorem HW_out {ct : Nat → ClassId} {h : Nat → Nat} {ha : Nat → Nat → Nat} {st : Nat × Nat × (Nat → YS)} {R : va_W} {i : Nat} (hi : i < 9) : (HW ct h ha st R).Perm (YW ct (ha i) (st.2.2 i) (HX ct h ha i st R)) := by
  rw [YW_app, HW, HX, ← List.append_assoc]
  refine List.Perm.append_right R ?_
  refine (List.Perm.cons _ (List.Perm.cons _ (HY_perm hi))).trans ?_
  exact zCC _ _ _ _
theorem HX_up {ct : Nat → ClassId} {h : Nat → Nat} {ha : Nat → Nat → Nat} {n c i : Nat} {hs : Nat → YS} {y : YS} {R : va_W} : HX ct h ha i (n, c, upS hs i y) R = HX ct h ha i (n, c, hs) R := by
  unfold HX
  rw [HYx_up]
theorem HW_in {ct : Nat → ClassId} {h : Nat → Nat} {ha : Nat → Nat → Nat} {n c i : Nat} {hs : Nat → YS} {y : YS} {R : va_W} (hi : i < 9) : (YW ct (ha i) y (HX ct h ha i (n, c, hs) R)).Perm (HW ct h ha (n, c, upS hs i y) R) := by
  have := (HW_out (ct := ct) (h := h) (ha := ha) (st := (n, c, upS hs i y)) (R := R) hi).symm
  rw [HX_up] at this
  show (YW ct (ha i) y _).Perm _
  rw [show (n, c, upS hs i y).2.2 i = y from upS_same hs i y] at this
  exact this
theorem zMv1 (A B R : va_W) : (A ++ (B ++ R)).Perm (B ++ (A ++ R)) := List.perm_append_comm_assoc A B R
/-- the balance's rows -/
abbrev BS : Type := (Nat → Int32) × Nat × (Nat → Int64) × (Nat → Int64) × (Nat → Int64)
abbrev b_w (b : BS) : Nat → Int32 := b.1
abbrev b_n (b : BS) : Nat := b.2.1
abbrev b_lo (b : BS) : Nat → Int64 := b.2.2.1
abbrev b_mi (b : BS) : Nat → Int64 := b.2.2.2.1
abbrev b_hi (b : BS) : Nat → Int64 := b.2.2.2.2
def BW (ct : Nat → ClassId) (a d : Nat → Nat) (b : BS) (R : va_W) : va_W :=
  (d 0, .inr (1, [.ref (a 0), .ref (d 1), .int (nI (b_n b)), .ref (d 2), .ref (d 3), .ref (d 4)])) :: (d 1, aI ct 6 (b_w b)) :: (d 2, aL ct 64 (b_lo b)) :: (d 3, aL ct 64 (b_mi b)) :: (d 4, aL ct 64 (b_hi b)) :: R
/-- the input: its signs, how many; the command looked at last, its numbers, where it stops -/
abbrev IS : Type := (Nat → Int32) × Nat × Nat × (Nat → Int32) × Nat
abbrev i_sg (i : IS) : Nat → Int32 := i.1
abbrev i_n (i : IS) : Nat := i.2.1
abbrev i_cm (i : IS) : Nat := i.2.2.1
abbrev i_nu (i : IS) : Nat → Int32 := i.2.2.2.1
abbrev i_st (i : IS) : Nat := i.2.2.2.2
def IW (ct : Nat → ClassId) (i e : Nat → Nat) (v : IS) (R : va_W) : va_W :=
  (i 0, .inr (3, [.ref (i 1), .int (nI (i_n v)), .ref (e (i_cm v)), .ref (i 2), .int (nI (i_st v))])) :: (i 1, aC ct 60 (i_sg v)) :: (i 2, aI ct 3 (i_nu v)) :: R
theorem zF2 (A B C R : va_W) : (A ++ (B ++ (C ++ R))).Perm (C ++ (A ++ (B ++ R))) := (List.Perm.append_left A (zMv1 B C R)).trans (zMv1 A C (B ++ R))
theorem zF3 (A B C E R : va_W) : (A ++ (B ++ (C ++ (E ++ R)))).Perm (E ++ (A ++ (B ++ (C ++ R)))) := (List.Perm.append_left A (zF2 B C E R)).trans (zMv1 A E _)
theorem zF4 (A B C E F R : va_W) : (A ++ (B ++ (C ++ (E ++ (F ++ R))))).Perm (F ++ (A ++ (B ++ (C ++ (E ++ R))))) := (List.Perm.append_left A (zF3 B C E F R)).trans (zMv1 A F _)
theorem zF5 (A B C E F G R : va_W) : (A ++ (B ++ (C ++ (E ++ (F ++ (G ++ R)))))).Perm (G ++ (A ++ (B ++ (C ++ (E ++ (F ++ R)))))) := (List.Perm.append_left A (zF4 B C E F G R)).trans (zMv1 A G _)
theorem zF6 (A B C E F G H R : va_W) : (A ++ (B ++ (C ++ (E ++ (F ++ (G ++ (H ++ R))))))).Perm (H ++ (A ++ (B ++ (C ++ (E ++ (F ++ (G ++ R))))))) := (List.Perm.append_left A (zF5 B C E F G H R)).trans (zMv1 A H _)
theorem zF7 (A B C E F G H I R : va_W) : (A ++ (B ++ (C ++ (E ++ (F ++ (G ++ (H ++ (I ++ R)))))))).Perm (I ++ (A ++ (B ++ (C ++ (E ++ (F ++ (G ++ (H ++ R)))))))) := (List.Perm.append_left A (zF6 B C E F G H I R)).trans (zMv1 A I _)
abbrev HWl (ct : Nat → ClassId) (h : Nat → Nat) (ha : Nat → Nat → Nat) (st : Nat × Nat × (Nat → YS)) : va_W :=
  ((h 0, (Sum.inr (2, [.ref (h 1), .int (nI st.1), .int (nI st.2.1)]) : va_E)) :: (h 1, (Sum.inl (ct 5, 9, .inr (.inr (.inr (.inr (fun i => some (ha i 0)))))) : va_E)) :: HYl ct ha st.2.2 9)
/-- the class's own object: isSaved and latestFault are its numbers -/
abbrev xA : Type := (Nat → Nat) × (Nat → Nat) × (Nat → Nat) × (Nat → Nat) × (Nat → Nat) × (Nat → Nat) × (Nat → Nat) × (Nat → Nat)
def XO (x a sa h b d i lb : Nat → Nat) (st : Int32 × Int32) (R : va_W) : va_W :=
  (x 0, .inr (9, [.ref (a 0), .ref (sa 0), .int st.1, .ref (h 0), .ref (b 1), .ref (b 0), .ref (b 2), .ref (d 0), .ref (b 3), .ref (i 0), .int st.2, .ref (lb 0)])) :: R
