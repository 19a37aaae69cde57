/-! THE FORMS' LETTERS, bytes, what the input does -/
def fmL (i : Nat) : List Nat := xFm.getD i []
theorem fm_all : ∀ i : Fin 9, xLen.getD i.val 0 = (fmL i.val).length ∧ (fmL i.val).length ≤ 12 ∧ ∀ j : Fin (fmL i.val).length, (xBy.getD i.val []).getD j.val 0 = nI ((fmL i.val).getD j.val 0) ∧ (fmL i.val).getD j.val 0 < 128 := by decide +kernel
theorem fm_len {i : Nat} (hi : i < 9) : xLen.getD i 0 = (fmL i).length := (fm_all ⟨i, hi⟩).1
theorem fm_12 {i : Nat} (hi : i < 9) : (fmL i).length ≤ 12 := (fm_all ⟨i, hi⟩).2.1
theorem fm_lt {i : Nat} (hi : i < 9) : (fmL i).length < 2 ^ 31 := by have := fm_12 hi; omega
theorem fm_ix {i j : Nat} (hi : i < 9) (hj : j < (fmL i).length) : j < 2 ^ 31 := by have := fm_12 hi; omega
theorem fm_by {i j : Nat} (hi : i < 9) (hj : j < (fmL i).length) : (xBy.getD i []).getD j 0 = nI ((fmL i).getD j 0) := ((fm_all ⟨i, hi⟩).2.2 ⟨j, hj⟩).1
theorem fm_128 {i j : Nat} (hi : i < 9) (hj : j < (fmL i).length) : (fmL i).getD j 0 < 128 := ((fm_all ⟨i, hi⟩).2.2 ⟨j, hj⟩).2
theorem and255 {c : Nat} (h : c < 128) : nI c &&& nI 255 = nI c := by
  rw [pk_andN (n := c) (by omega) (m := nI 255) 8 (by decide), Nat.mod_eq_of_lt (by omega)]
theorem ch_i2c {c : Nat} (h : c < 128) : ((nI c &&& nI 255).toUInt32 % 65536).toInt32 = nI c := by rw [and255 h]; exact i2cN (by omega)
theorem ch_nar {c : Nat} (h : c < 65536) : narrow .char (.int (nI c)) = .int (nI c) := by
  have := narC h
  show Value.int (((nI c).toUInt32 % 65536).toInt32) = _
  rw [i2cN h]
theorem zOrec {E : String} {t : Nat} {A : Nat → Prop} {s : State} {H : Heap} {locs : List Loc} (h : va_O E t A s s.heap) (hS : va_S A s.heap H locs) : ∃ cell : Cell, H[t]? = some cell ∧ cell.vm.isStatics = false ∧ s.vm.findClass E = some cell.cls := by
  obtain ⟨cell, h1, h2, h3, -⟩ := h.kept hS.2.1
  exact ⟨cell, h1, h2, h3⟩
section ZBY
variable {D : va_G} {ct : Nat → ClassId} {p : Program} {l : Launch} {e : Env} {R : Room} {s : State} {m : MethodId} {args : Array Value} {below : List Frame} {meth : Method} {c : Code} {H : Heap} {locs : List Loc} {cells slots : Nat} {Q : State → Prop}
variable {cc : ByteArray} {pc : Nat} {ls : Array Slot} {rest : List Value} {A : Nat → Prop} {ws : va_W}
abbrev aB (ct : Nat → ClassId) (n : Nat) (f : Nat → Int32) : va_E := .inl (ct 4, n, .inl f)
theorem zBald (hx : p.tables.exec = Jvm.exec) (hb : c.code = cc) (hK : zK D ct s) (hP : va_P D vwCl ws H) (q0 : Nat) {a n : Nat} {f : Nat → Int32} (ha : ws[q0]? = some (a, aB ct n f)) {i : Nat} (hi : i < n) (hn : n < 2 ^ 31) (hdg : decode cc pc = .ok (.baload, 1)) (kk : W p l e R s m args below meth c H locs cells slots Q (F0 m (pc + 1) ls (.int (f i) :: rest))) : W p l e R s m args below meth c H locs cells slots Q (F0 m pc ls (.int (nI i) :: .ref a :: rest)) :=
  va_bald hx hb hK hP q0 4 ha rfl (vp_in_nI hi hn) hdg (by rw [nI_clamp (Nat.lt_trans hi hn)]; exact kk)
theorem zBast (hx : p.tables.exec = Jvm.exec) (hb : c.code = cc) (hK : zK D ct s) (hP : va_P D vwCl ws H) (hD : va_D A ws) (hS : va_S A s.heap H locs) (q0 : Nat) {a n : Nat} {f : Nat → Int32} (ha : ws[q0]? = some (a, aB ct n f)) {i : Nat} {x : Int32} (hi : i < n) (hn : n < 2 ^ 31) (hdg : decode cc pc = .ok (.bastore, 1)) (kk : ∀ (H1 : Heap) (locs1 : List Loc), va_P D vwCl (ws.set q0 (a, aB ct n (upd f i (vp_nar .byte x)))) H1 → va_D A (ws.set q0 (a, aB ct n (upd f i (vp_nar .byte x)))) → va_S A s.heap H1 locs1 → W p l e R s m args below meth c H1 locs1 cells slots Q (F0 m (pc + 1) ls rest)) : W p l e R s m args below meth c H locs cells slots Q (F0 m pc ls (.int x :: .int (nI i) :: .ref a :: rest)) := by
  refine va_bast hx hb hK hP hD hS q0 4 ha rfl (vp_in_nI hi hn) hdg ?_
  rw [nI_clamp (Nat.lt_trans hi hn)]
  exact kk
end ZBY
/-! what the input's methods do -/
abbrev iSt (v : IS) (s : Nat) : IS := (i_sg v, i_n v, i_cm v, i_nu v, s)
abbrev iNu (v : IS) (k : Nat) (x : Int32) : IS := (i_sg v, i_n v, i_cm v, upd (i_nu v) k x, i_st v)
abbrev isg (v : IS) (k : Nat) : Int32 := sg (i_sg v) (i_n v) k
def F_iadd (v : IS) (x : Int32) : Int32 × IS :=
  if x < nI 32 ∨ nI 126 < x ∨ 60 ≤ i_n v then (-2, v) else (nI (i_n v + 1), (upd (i_sg v) (i_n v) x, i_n v + 1, i_cm v, i_nu v, i_st v))
def F_tn0 (v : IS) : Int32 × IS := (isg v (i_st v) - nI 48, iSt v (i_st v + 1))
def F_tn1 (v : IS) : Int32 × IS :=
  if dgP (isg v (i_st v + 1)) then ((isg v (i_st v) - nI 48) * nI 10 + isg v (i_st v + 1) - nI 48, iSt v (i_st v + 1 + 1)) else (isg v (i_st v) - nI 48, iSt v (i_st v + 1))
def setI (k : Nat) (q : Int32 × IS) : IS := if 3 ≤ k then q.2 else iNu q.2 k q.1
def nxI (k : Nat) : Nat := if 3 ≤ k then k else k + 1
def frF : List Nat → IS → Nat → Bool × IS
  | [], v, _ => (true, v)
  | c :: L, v, k =>
    if c = 35 then (if dgP (isg v (i_st v)) then frF L (setI k (F_tn0 v)) (nxI k) else (false, v))
    else if c = 64 then (if dgP (isg v (i_st v)) then frF L (setI k (F_tn1 v)) (nxI k) else (false, v))
    else if isg v (i_st v) = nI c then frF L (iSt v (i_st v + 1)) k else (false, v)
abbrev tkA (i : Nat) (v : IS) (pos : Nat) : Bool × IS := frF (fmL i) (iSt v pos) 0
def tkC (pos : Nat) : Nat → IS → Nat → Bool × IS
  | 0, v, f => (false, iSt v f)
  | r + 1, v, f =>
    if (tkA (8 - r) v pos).1 = true then (true, (i_sg (tkA (8 - r) v pos).2, i_n (tkA (8 - r) v pos).2, 8 - r, i_nu (tkA (8 - r) v pos).2, i_st (tkA (8 - r) v pos).2))
    else tkC pos r (tkA (8 - r) v pos).2 (if f < i_st (tkA (8 - r) v pos).2 then i_st (tkA (8 - r) v pos).2 else f)
abbrev tkQ (v : IS) (pos : Nat) : Bool × IS := tkC pos 9 v pos
def fnF : Nat → Nat → IS → Int32 × IS
  | 0, pos, v => (nI pos, v)
  | r + 1, pos, v =>
    if (tkQ v pos).1 = true then
      (if i_n (tkQ v pos).2 ≤ i_st (tkQ v pos).2 then (-1, (tkQ v pos).2)
       else if isg (tkQ v pos).2 (i_st (tkQ v pos).2) = nI 59 then fnF r (i_st (tkQ v pos).2 + 1) (tkQ v pos).2
       else (nI (i_st (tkQ v pos).2), (tkQ v pos).2))
    else (nI (i_st (tkQ v pos).2), (tkQ v pos).2)
/-- only the numbers, the command and the stop become others -/
theorem tn0_g (v : IS) : i_sg (F_tn0 v).2 = i_sg v ∧ i_n (F_tn0 v).2 = i_n v ∧ i_st v + 1 = i_st (F_tn0 v).2 := ⟨rfl, rfl, rfl⟩
theorem tn1_g (v : IS) : i_sg (F_tn1 v).2 = i_sg v ∧ i_n (F_tn1 v).2 = i_n v ∧ i_st v + 1 ≤ i_st (F_tn1 v).2 := by
  unfold F_tn1; split
  · exact ⟨rfl, rfl, Nat.le_succ _⟩
  · exact ⟨rfl, rfl, Nat.le_refl _⟩
theorem setI_g (k : Nat) (q : Int32 × IS) : i_sg (setI k q) = i_sg q.2 ∧ i_n (setI k q) = i_n q.2 ∧ i_st (setI k q) = i_st q.2 := by
  unfold setI; split <;> exact ⟨rfl, rfl, rfl⟩
theorem dg_lt {v : IS} {k : Nat} (h : dgP (isg v k)) : k < i_n v := sg_lt h
theorem tn1_lt {v : IS} (h : dgP (isg v (i_st v))) : i_st (F_tn1 v).2 ≤ i_n v := by
  have h0 := dg_lt h
  unfold F_tn1; split
  · rename_i h1
    have := dg_lt h1
    show i_st v + 1 + 1 ≤ i_n v
    omega
  · show i_st v + 1 ≤ i_n v
    omega
/-- a form leaves the signs as they are, and stops within a bound of theirs -/
theorem frF_g {B : Nat} : ∀ (L : List Nat) (v : IS) (k : Nat), (∀ c ∈ L, c < 128) → i_st v ≤ B → i_n v ≤ B → i_sg (frF L v k).2 = i_sg v ∧ i_n (frF L v k).2 = i_n v ∧ i_st v ≤ i_st (frF L v k).2 ∧ i_st (frF L v k).2 ≤ B ∧ i_cm (frF L v k).2 = i_cm v
  | [], v, k, _, h, _ => ⟨rfl, rfl, Nat.le_refl _, h, rfl⟩
  | c :: L, v, k, hc, h, hB => by
    have hL : ∀ c ∈ L, c < 128 := fun x hx => hc x (List.mem_cons_of_mem _ hx)
    unfold frF
    by_cases h1 : c = 35
    · rw [if_pos h1]
      by_cases h2 : dgP (isg v (i_st v))
      · rw [if_pos h2]
        have a := setI_g k (F_tn0 v)
        have b := dg_lt h2
        have r := frF_g L (setI k (F_tn0 v)) (nxI k) hL (by rw [a.2.2]; show i_st v + 1 ≤ B; omega) (by rw [a.2.1]; exact hB)
        have cm : i_cm (setI k (F_tn0 v)) = i_cm v := by unfold setI; split <;> rfl
        rw [a.1, a.2.1, a.2.2, cm] at r
        exact ⟨r.1, r.2.1, by have : i_st v + 1 ≤ _ := r.2.2.1; omega, r.2.2.2.1, r.2.2.2.2⟩
      · rw [if_neg h2]; exact ⟨rfl, rfl, Nat.le_refl _, h, rfl⟩
    · rw [if_neg h1]
      by_cases h3 : c = 64
      · rw [if_pos h3]
        by_cases h2 : dgP (isg v (i_st v))
        · rw [if_pos h2]
          have a := setI_g k (F_tn1 v)
          have g := tn1_g v
          have b := tn1_lt h2
          have r := frF_g L (setI k (F_tn1 v)) (nxI k) hL (show i_st (setI k (F_tn1 v)) ≤ B from by rw [a.2.2]; omega) (by rw [a.2.1, g.2.1]; exact hB)
          have cm : i_cm (setI k (F_tn1 v)) = i_cm v := by unfold setI F_tn1; split <;> split <;> rfl
          rw [a.1, a.2.1, a.2.2, cm, g.1, g.2.1] at r
          exact ⟨r.1, r.2.1, by have := r.2.2.1; have := g.2.2; omega, r.2.2.2.1, r.2.2.2.2⟩
        · rw [if_neg h2]; exact ⟨rfl, rfl, Nat.le_refl _, h, rfl⟩
      · rw [if_neg h3]
        by_cases h2 : isg v (i_st v) = nI c
        · rw [if_pos h2]
          have b : i_st v < i_n v := sg_ne h2 (by have := hc c List.mem_cons_self; omega)
          have r := frF_g L (iSt v (i_st v + 1)) k hL (by show i_st v + 1 ≤ B; omega) hB
          exact ⟨r.1, r.2.1, by have : i_st v + 1 ≤ _ := r.2.2.1; omega, r.2.2.2.1, r.2.2.2.2⟩
        · rw [if_neg h2]; exact ⟨rfl, rfl, Nat.le_refl _, h, rfl⟩
theorem fm_mem {i : Nat} (hi : i < 9) : ∀ c ∈ fmL i, c < 128 := by
  intro c hc
  obtain ⟨j, hj, rfl⟩ := List.getElem_of_mem hc
  have := fm_128 hi hj
  rwa [List.getD_eq_getElem?_getD, List.getElem?_eq_getElem hj] at this
theorem tkA_g {i : Nat} (hi : i < 9) (v : IS) {pos B : Nat} (h : pos ≤ B) (hB : i_n v ≤ B) : i_sg (tkA i v pos).2 = i_sg v ∧ i_n (tkA i v pos).2 = i_n v ∧ pos ≤ i_st (tkA i v pos).2 ∧ i_st (tkA i v pos).2 ≤ B ∧ i_cm (tkA i v pos).2 = i_cm v :=
  frF_g (fmL i) (iSt v pos) 0 (fm_mem hi) h hB
theorem tkC_g {pos B : Nat} : ∀ (r : Nat) (v : IS) (f : Nat), r ≤ 9 → pos ≤ B → pos ≤ f → f ≤ B → i_n v ≤ B → i_sg (tkC pos r v f).2 = i_sg v ∧ i_n (tkC pos r v f).2 = i_n v ∧ pos ≤ i_st (tkC pos r v f).2 ∧ i_st (tkC pos r v f).2 ≤ B ∧ (i_cm v < 9 → i_cm (tkC pos r v f).2 < 9)
  | 0, v, f, _, h, h1, h2, _ => ⟨rfl, rfl, h1, h2, fun q => q⟩
  | r + 1, v, f, hr, h, h1, h2, hB => by
    have a := tkA_g (i := 8 - r) (by omega) v h hB
    unfold tkC
    by_cases q : (tkA (8 - r) v pos).1 = true
    · rw [if_pos q]; exact ⟨a.1, a.2.1, a.2.2.1, a.2.2.2.1, fun _ => by show 8 - r < 9; omega⟩
    · rw [if_neg q]
      have b := tkC_g r (tkA (8 - r) v pos).2 (if f < i_st (tkA (8 - r) v pos).2 then i_st (tkA (8 - r) v pos).2 else f) (by omega) h (by split <;> omega) (by split <;> omega) (by rw [a.2.1]; exact hB)
      rw [a.1, a.2.1, a.2.2.2.2] at b
      exact b
theorem tkQ_g (v : IS) {pos B : Nat} (h : pos ≤ B) (hB : i_n v ≤ B) : i_sg (tkQ v pos).2 = i_sg v ∧ i_n (tkQ v pos).2 = i_n v ∧ pos ≤ i_st (tkQ v pos).2 ∧ i_st (tkQ v pos).2 ≤ B ∧ (i_cm v < 9 → i_cm (tkQ v pos).2 < 9) := tkC_g 9 v pos (by omega) h (Nat.le_refl _) h hB
theorem nI_max {a b : Nat} (ha : a < 2 ^ 31) (hb : b < 2 ^ 31) : (if nI a < nI b then nI b else nI a) = nI (if a < b then b else a) := by
  by_cases h : a < b
  · rw [if_pos h, if_pos ((nI_ltI ha hb).mpr h)]
  · rw [if_neg h, if_neg (fun q => h ((nI_ltI ha hb).mp q))]
theorem fm_drop {i j : Nat} (hj : j < (fmL i).length) : (fmL i).drop j = (fmL i).getD j 0 :: (fmL i).drop (j + 1) := by
  rw [List.drop_eq_getElem_cons hj, List.getD_eq_getElem?_getD, List.getElem?_eq_getElem hj]
  rfl
section TK
variable {c : Nat} {L : List Nat} {v : IS} {k : Nat}
theorem tk_h (h : c = 35) (d : dgP (isg v (i_st v))) : frF (c :: L) v k = frF L (setI k (F_tn0 v)) (nxI k) := by rw [frF, if_pos h, if_pos d]
theorem tk_hn (h : c = 35) (d : ¬ dgP (isg v (i_st v))) : frF (c :: L) v k = (false, v) := by rw [frF, if_pos h, if_neg d]
theorem tk_a (h0 : ¬ c = 35) (h : c = 64) (d : dgP (isg v (i_st v))) : frF (c :: L) v k = frF L (setI k (F_tn1 v)) (nxI k) := by rw [frF, if_neg h0, if_pos h, if_pos d]
theorem tk_an (h0 : ¬ c = 35) (h : c = 64) (d : ¬ dgP (isg v (i_st v))) : frF (c :: L) v k = (false, v) := by rw [frF, if_neg h0, if_pos h, if_neg d]
theorem tk_l (h0 : ¬ c = 35) (h : ¬ c = 64) (d : isg v (i_st v) = nI c) : frF (c :: L) v k = frF L (iSt v (i_st v + 1)) k := by rw [frF, if_neg h0, if_neg h, if_pos d]
theorem tk_ln (h0 : ¬ c = 35) (h : ¬ c = 64) (d : ¬ isg v (i_st v) = nI c) : frF (c :: L) v k = (false, v) := by rw [frF, if_neg h0, if_neg h, if_neg d]
theorem setI_3 {q : Int32 × IS} (h : 3 ≤ k) : setI k q = q.2 := if_pos h
theorem setI_l {q : Int32 × IS} (h : ¬ 3 ≤ k) : setI k q = iNu q.2 k q.1 := if_neg h
theorem nxI_3 (h : 3 ≤ k) : nxI k = k := if_pos h
theorem nxI_l (h : ¬ 3 ≤ k) : nxI k = k + 1 := if_neg h
end TK
theorem tkC_t {pos j f : Nat} {v : IS} (hj : j < 9) (h : (tkA j v pos).1 = true) : tkC pos (9 - j) v f = (true, (i_sg (tkA j v pos).2, i_n (tkA j v pos).2, j, i_nu (tkA j v pos).2, i_st (tkA j v pos).2)) := by
  obtain ⟨r, hr, rfl⟩ : ∃ r, r < 9 ∧ j = 8 - r := ⟨8 - j, by omega, by omega⟩
  rw [show 9 - (8 - r) = r + 1 by omega, tkC, if_pos h]
theorem tkC_f {pos j f : Nat} {v : IS} (hj : j < 9) (h : ¬ (tkA j v pos).1 = true) : tkC pos (9 - j) v f = tkC pos (9 - (j + 1)) (tkA j v pos).2 (if f < i_st (tkA j v pos).2 then i_st (tkA j v pos).2 else f) := by
  obtain ⟨r, hr, rfl⟩ : ∃ r, r < 9 ∧ j = 8 - r := ⟨8 - j, by omega, by omega⟩
  rw [show 9 - (8 - r) = r + 1 by omega, tkC, if_neg h, show 9 - (8 - r + 1) = r by omega]
theorem fnF_e {r pos : Nat} {v : IS} (hr : 1 ≤ r) (h1 : (tkQ v pos).1 = true) (h2 : i_n (tkQ v pos).2 ≤ i_st (tkQ v pos).2) : fnF r pos v = (-1, (tkQ v pos).2) := by
  obtain ⟨k, rfl⟩ : ∃ k, r = k + 1 := ⟨r - 1, by omega⟩
  rw [fnF, if_pos h1, if_pos h2]
theorem fnF_s {r pos : Nat} {v : IS} (hr : 1 ≤ r) (h1 : (tkQ v pos).1 = true) (h2 : ¬ i_n (tkQ v pos).2 ≤ i_st (tkQ v pos).2) (h3 : isg (tkQ v pos).2 (i_st (tkQ v pos).2) = nI 59) : fnF r pos v = fnF (r - 1) (i_st (tkQ v pos).2 + 1) (tkQ v pos).2 := by
  obtain ⟨k, rfl⟩ : ∃ k, r = k + 1 := ⟨r - 1, by omega⟩
  rw [fnF, if_pos h1, if_neg h2, if_pos h3]; rfl
theorem fnF_w {r pos : Nat} {v : IS} (hr : 1 ≤ r) (h1 : (tkQ v pos).1 = true) (h2 : ¬ i_n (tkQ v pos).2 ≤ i_st (tkQ v pos).2) (h3 : ¬ isg (tkQ v pos).2 (i_st (tkQ v pos).2) = nI 59) : fnF r pos v = (nI (i_st (tkQ v pos).2), (tkQ v pos).2) := by
  obtain ⟨k, rfl⟩ : ∃ k, r = k + 1 := ⟨r - 1, by omega⟩
  rw [fnF, if_pos h1, if_neg h2, if_neg h3]
theorem fnF_n {r pos : Nat} {v : IS} (hr : 1 ≤ r) (h1 : ¬ (tkQ v pos).1 = true) : fnF r pos v = (nI (i_st (tkQ v pos).2), (tkQ v pos).2) := by
  obtain ⟨k, rfl⟩ : ∃ k, r = k + 1 := ⟨r - 1, by omega⟩
  rw [fnF, if_neg h1]
