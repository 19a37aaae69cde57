/-! THE LINE: a builder of text, of Latin-1 letters -/
abbrev LST : Type := Nat × Nat × (Nat → Int32) × Nat × Int32
abbrev l_q (z : LST) : Nat := z.1
abbrev l_m (z : LST) : Nat := z.2.1
abbrev l_f (z : LST) : Nat → Int32 := z.2.2.1
abbrev l_n (z : LST) : Nat := z.2.2.2.1
abbrev l_ml (z : LST) : Int32 := z.2.2.2.2
def LW (ct : Nat → ClassId) (b : Nat → Nat) (z : LST) (R : va_W) : va_W :=
  (b 0, .inr (0, [.ref (l_q z), .int (nI 0), .int (l_ml z), .int (nI (l_n z))])) :: (l_q z, aB ct (l_m z) (l_f z)) :: R
def okc (m : Nat) : Prop := m = 16 ∨ m = 34 ∨ m = 70
theorem okc.le {m : Nat} (h : okc m) : m ≤ 70 := by rcases h with h | h | h <;> omega
/-- the builder holds the letters of a list -/
def LR (L : List Nat) (z : LST) : Prop := l_n z = L.length ∧ okc (l_m z) ∧ L.length ≤ l_m z ∧ sb_Fit (l_f z) ∧ ∀ j, j < L.length → l_f z j = sb_b (L.getD j 0) ∧ L.getD j 0 < 256
section ZL
variable {D : va_G} {ct : Nat → ClassId} {p : Program} {l : Launch} {e : Env} {R : Room} {s : State} {m : MethodId} {args : Array Value} {below : List Frame} {meth : Method} {c : Code} {H : Heap} {locs : List Loc} {cells slots : Nat} {Q : State → Prop}
variable {cc : ByteArray} {pc : Nat} {ls : Array Slot} {rest : List Value} {A : Nat → Prop} {ws : va_W} {a a0 index : Nat} {own : String}
theorem zNewB {N : Nat} (hx : p.tables.exec = Jvm.exec) (hb : c.code = cc) (harr : (Cond.arrayClass .byte).before args s = true) (hK : zK D ct s) (hP : va_P D vwCl ws H) (hD : va_D A ws) (hS : va_S A s.heap H locs) (hA : ∀ q, s.heap.size ≤ q → A q) (hN : N < 65536) (hcells : cells + 1 ≤ R.cells) (hslots : slots + N ≤ R.slots) (hdg : decode cc pc = .ok (.newarray .byte, 2))
    (kk : ∀ (q : Nat) (H1 : Heap), va_P D vwCl ((q, aB ct N (fun _ => 0)) :: ws) H1 → va_D A ((q, aB ct N (fun _ => 0)) :: ws) → va_S A s.heap H1 locs → W p l e R s m args below meth c H1 locs (cells + 1) (slots + N) Q (F0 m (pc + 2) ls (.ref q :: rest))) : W p l e R s m args below meth c H locs cells slots Q (F0 m pc ls (.int (nI N) :: rest)) := by
  refine va_newa (atype := .byte) (ty := .byte) (a0 := (N, .inl (fun _ => 0))) (N' := N) hx hb harr rfl hK hP hD hS hA (fun cA => rfl) (nI_pos (by omega)) (nI_clamp (by omega)) (by show N * 1 ≤ 536870912; omega) hcells hslots hdg (fun q cA H1 hK1 hP1 hD1 hS1 => ?_)
  have e1 : cA = ct 4 := by
    have h1 := (hK1.2 6 (cA, .byte) rfl).2
    have h2 := (hK.2 4 (ct 4, .byte) rfl).2
    exact Option.some.inj (h1.symm.trans h2)
  subst e1
  exact kk q H1 (zPp (List.perm_append_singleton _ _) hP1) (zDp (List.perm_append_singleton _ _) hD1) hS1
theorem zCopyB {n0 n1 n : Nat} {f g : Nat → Int32} (hx : p.tables.exec = Jvm.exec) (hb : c.code = cc) (hml : c.maxLocals = ls.size) (hown : s.vm.findClass own = some m.cls) (h1 : (Cond.methodLink own index arraycopyName).before args s = true) (h2 : (Cond.native arraycopyName).before args s = true) (h3 : (Cond.static arraycopyName).before args s = true) (h4 : (Cond.initialized "java/lang/System").before args s = true) (hK : zK D ct s) (hP : va_P D vwCl ws H) (hD : va_D A ws) (hS : va_S A s.heap H locs) (q0 q1 : Nat) (ha0 : ws[q0]? = some (a0, aB ct n0 f)) (ha1 : ws[q1]? = some (a, aB ct n1 g)) (hn0 : n ≤ n0) (hn1 : n ≤ n1) (hn : n < 2 ^ 31) (hf : sb_Fit f)
    (hframes : 1 ≤ R.frames) (hlocals : (rest.map fun v => v.category).sum + (nativeFrameWords "java/lang/System" "arraycopy" 5 + 11) ≤ R.locals) (hdg : decode cc pc = .ok (.invokestatic index, 3))
    (kk : ∀ (H1 : Heap) (locs1 : List Loc), va_P D vwCl (ws.set q1 (a, aB ct n1 (va_cpy f g 0 0 n))) H1 → va_D A (ws.set q1 (a, aB ct n1 (va_cpy f g 0 0 n))) → va_S A s.heap H1 locs1 → W p l e R s m args below meth c H1 locs1 cells slots Q (F0 m (pc + 3) ls rest)) : W p l e R s m args below meth c H locs cells slots Q (F0 m pc ls (.int (nI n) :: .int (nI 0) :: .ref a :: .int (nI 0) :: .ref a0 :: rest)) := by
  have e0 : (nI 0).toNatClampNeg = 0 := nI_clamp (by decide)
  have eN : (nI n).toNatClampNeg = n := nI_clamp hn
  refine va_copyi hx hb hml hown h1 h2 h3 h4 hK hP hD hS q0 q1 4 4 ha0 ha1 rfl rfl rfl (nI_pos (by decide)) (nI_pos (by decide)) (nI_pos hn) (by rw [e0, eN]; omega) (by rw [e0, eN]; omega) (fun i _ => hf _) hframes hlocals hdg (fun H1 locs1 hP1 hD1 hS1 => ?_)
  rw [e0, eN] at hP1 hD1
  exact kk H1 locs1 hP1 hD1 hS1
end ZL
theorem nar_b (c : Nat) : vp_nar .byte (sb_b c) = sb_b c := pk_vb (nI c)
theorem nar_n (c : Nat) : vp_nar .byte (nI c) = sb_b c := by rw [vp_nar_byte]; rfl
theorem sb_and {c : Nat} (h : c < 256) : ((sb_b c &&& nI 255).toUInt32 % 65536).toInt32 = nI c := by
  rw [show sb_b c &&& nI 255 = nI c from (sb_byte c h).1]; exact (sb_byte c h).2.1
theorem gd_l (A B : List Nat) {j : Nat} (h : j < A.length) : (A ++ B).getD j 0 = A.getD j 0 := by rw [List.getD_eq_getElem?_getD, List.getElem?_append_left h, ← List.getD_eq_getElem?_getD]
theorem gd_r (A B : List Nat) {j : Nat} (h : A.length ≤ j) : (A ++ B).getD j 0 = B.getD (j - A.length) 0 := by rw [List.getD_eq_getElem?_getD, List.getElem?_append_right h, ← List.getD_eq_getElem?_getD]
theorem LR_put {L : List Nat} {z : LST} {c : Nat} {u : LST} (h : LR L z) (hc : c < 256) (hu : okc (l_m u)) (hm : L.length + 1 ≤ l_m u) (hn : l_n u = L.length + 1) (hf : sb_Fit (l_f u)) (hk : ∀ j, j < L.length → l_f u j = l_f z j) (hl : l_f u L.length = sb_b c) : LR (L ++ [c]) u := by
  obtain ⟨h1, h2, h3, h4, h5⟩ := h
  refine ⟨by rw [hn, List.length_append]; rfl, hu, by rw [List.length_append]; exact hm, hf, fun j hj => ?_⟩
  rw [List.length_append] at hj
  have hj : j < L.length + 1 := hj
  by_cases e : j < L.length
  · rw [gd_l _ _ e, hk j e]; exact h5 j e
  · obtain rfl : j = L.length := by omega
    rw [gd_r _ _ (Nat.le_refl _), Nat.sub_self]
    exact ⟨hl, hc⟩
theorem neg_le {a b : Nat} (ha : a < 2 ^ 31) (hb : b < 2 ^ 31) : -(nI a) ≤ -(nI b) ↔ b ≤ a := by
  have e : ∀ n, n < 2 ^ 31 → (-(nI n)).toInt = -(n : Int) := by
    intro n hn
    rw [Int32.toInt_neg, nI_toInt hn, Int.bmod_eq_of_le (by omega) (by omega)]
  rw [Int32.le_iff_toInt_le, e a ha, e b hb]
  omega
theorem m10 : (-10 : Int32) = -(nI 10) := by decide
theorem m100 : (-100 : Int32) = -(nI 100) := by decide
theorem m9 : (-9 : Int32) = -(nI 9) := by decide
theorem m10x : nI 10 * (-10 : Int32) = -(nI 100) := by decide
theorem dg1 {k : Nat} (h : k ≤ 9) : dgL k = [48 + k % 10] := if_pos h
theorem dg2 {k : Nat} (h : ¬ k ≤ 9) : dgL k = [48 + k / 10 % 10, 48 + k % 10] := if_neg h
theorem LR_app {L M : List Nat} {z u : LST} (h : LR L z) (hu : okc (l_m u)) (hm : L.length + M.length ≤ l_m u) (hn : l_n u = L.length + M.length) (hf : sb_Fit (l_f u)) (hk : ∀ j, j < L.length → l_f u j = l_f z j) (hl : ∀ j, j < M.length → l_f u (L.length + j) = sb_b (M.getD j 0) ∧ M.getD j 0 < 256) : LR (L ++ M) u := by
  obtain ⟨h1, h2, h3, h4, h5⟩ := h
  refine ⟨by rw [hn, List.length_append], hu, by rw [List.length_append]; exact hm, hf, fun j hj => ?_⟩
  rw [List.length_append] at hj
  by_cases e : j < L.length
  · rw [gd_l _ _ e, hk j e]; exact h5 j e
  · obtain ⟨i, rfl⟩ : ∃ i, j = L.length + i := ⟨j - L.length, by omega⟩
    rw [gd_r _ _ (by omega), Nat.add_sub_cancel_left]
    exact hl i (by omega)
theorem LR_0 {L : List Nat} {z : LST} (h : LR L z) (ml : Int32) : LR [] (l_q z, l_m z, l_f z, 0, ml) := ⟨rfl, h.2.1, Nat.zero_le _, h.2.2.2.1, fun j hj => absurd hj (Nat.not_lt_zero j)⟩
theorem zPsub3 {D : va_G} {a b o : Nat × va_E} {R : va_W} {H : Heap} (h : va_P D vwCl (a :: b :: o :: R) H) : va_P D vwCl (b :: a :: R) H := by
  intro k q hk
  have hm := List.mem_of_getElem? hk
  have hm2 : q ∈ a :: b :: o :: R := by
    rcases List.mem_cons.mp hm with e | hm
    · rw [e]; exact List.mem_cons_of_mem _ List.mem_cons_self
    · rcases List.mem_cons.mp hm with e | hm
      · rw [e]; exact List.mem_cons_self
      · exact List.mem_cons_of_mem _ (List.mem_cons_of_mem _ (List.mem_cons_of_mem _ hm))
  obtain ⟨i, hi⟩ := List.getElem?_of_mem hm2
  exact h i q hi
theorem zDsub3 {A : Nat → Prop} {a b o : Nat × va_E} {R : va_W} (h : va_D A (a :: b :: o :: R)) : va_D A (b :: a :: R) := by
  have hp := zDpw.mp h.1
  refine ⟨zDpw.mpr ?_, fun k q hk => ?_⟩
  · rw [List.pairwise_cons] at hp
    obtain ⟨h1, h2⟩ := hp
    rw [List.pairwise_cons] at h2
    obtain ⟨h3, h4⟩ := h2
    rw [List.pairwise_cons] at h4
    refine List.pairwise_cons.mpr ⟨fun q hq => ?_, List.pairwise_cons.mpr ⟨fun q hq => ?_, h4.2⟩⟩
    · rcases List.mem_cons.mp hq with e | hq
      · rw [e]; exact fun x => h1 b List.mem_cons_self x.symm
      · exact h3 q (List.mem_cons_of_mem _ hq)
    · exact h1 q (List.mem_cons_of_mem _ (List.mem_cons_of_mem _ hq))
  · have hm := List.mem_of_getElem? hk
    have hm2 : q ∈ a :: b :: o :: R := by
      rcases List.mem_cons.mp hm with e | hm
      · rw [e]; exact List.mem_cons_of_mem _ List.mem_cons_self
      · rcases List.mem_cons.mp hm with e | hm
        · rw [e]; exact List.mem_cons_self
        · exact List.mem_cons_of_mem _ (List.mem_cons_of_mem _ (List.mem_cons_of_mem _ hm))
    obtain ⟨i, hi⟩ := List.getElem?_of_mem hm2
    exact h.2 i q hi
theorem okc_grow {m mn : Nat} (h : okc m) (h1 : m < mn) (h2 : mn ≤ 60) : okc (2 * m + 2) ∧ 2 * m + 2 ≤ 70 := by
  rcases h with h | h | h <;> subst h
  · exact ⟨Or.inr (Or.inl rfl), by omega⟩
  · exact ⟨Or.inr (Or.inr rfl), by omega⟩
  · omega
def gcF (f : Nat → Int32) (p k : Nat) : Nat → Int32 :=
  if k ≤ 9 then upd f (p - 1) (vp_nar .byte (nI (48 + k % 10))) else upd (upd f (p - 1) (vp_nar .byte (nI (48 + k % 10)))) (p - 1 - 1) (vp_nar .byte (nI (48 + k / 10)))
theorem gcF_1 {f : Nat → Int32} {p k : Nat} (h : k ≤ 9) : gcF f p k = upd f (p - 1) (vp_nar .byte (nI (48 + k % 10))) := if_pos h
theorem gcF_2 {f : Nat → Int32} {p k : Nat} (h : ¬ k ≤ 9) : gcF f p k = upd (upd f (p - 1) (vp_nar .byte (nI (48 + k % 10)))) (p - 1 - 1) (vp_nar .byte (nI (48 + k / 10))) := if_neg h
theorem LR_num {L : List Nat} {z u : LST} {k p q : Nat} {ml : Int32} (h : LR L z) (hk : k ≤ 99) (hu : okc (l_m u)) (hp : p = L.length + (if k ≤ 9 then 1 else 2)) (hm : p ≤ l_m u) (hf : sb_Fit (l_f u)) (hkp : ∀ j, j < l_m z → l_f u j = l_f z j) : LR (L ++ dgL k) (q, l_m u, gcF (l_f u) p k, p, ml) := by
  have hz := h.2.2.1
  by_cases h9 : k ≤ 9
  · rw [if_pos h9] at hp
    rw [gcF_1 h9, dg1 h9, nar_n]
    subst hp
    refine LR_app h hu hm rfl (sb_fitU hf (sb_fitB _)) (fun j hj => (pk_un (by omega)).trans (hkp j (by omega))) (fun j hj => ?_)
    obtain rfl : j = 0 := by have : j < 1 := hj; omega
    exact ⟨(show upd (l_f u) (L.length + 1 - 1) _ (L.length + 0) = _ from pk_us), by show 48 + k % 10 < 256; omega⟩
  · rw [if_neg h9] at hp
    rw [gcF_2 h9, dg2 h9, nar_n, nar_n]
    subst hp
    refine LR_app h hu hm rfl (sb_fitU (sb_fitU hf (sb_fitB _)) (sb_fitB _)) (fun j hj => ?_) (fun j hj => ?_)
    · show upd (upd (l_f u) (L.length + 2 - 1) _) (L.length + 2 - 1 - 1) _ j = _
      rw [pk_un (by omega), pk_un (by omega)]; exact hkp j (by omega)
    · have hj2 : j < 2 := hj
      rcases (show j = 0 ∨ j = 1 by omega) with rfl | rfl
      · refine ⟨?_, by show 48 + k / 10 % 10 < 256; omega⟩
        show upd (upd (l_f u) (L.length + 2 - 1) _) (L.length + 2 - 1 - 1) (sb_b (48 + k / 10)) (L.length + 0) = sb_b (48 + k / 10 % 10)
        rw [show L.length + 2 - 1 - 1 = L.length + 0 by omega, pk_us, show k / 10 % 10 = k / 10 by omega]
      · refine ⟨?_, by show 48 + k % 10 < 256; omega⟩
        show upd (upd (l_f u) (L.length + 2 - 1) (sb_b (48 + k % 10))) (L.length + 2 - 1 - 1) _ (L.length + 1) = sb_b (48 + k % 10)
        rw [pk_un (by omega), show L.length + 2 - 1 = L.length + 1 by omega, pk_us]
