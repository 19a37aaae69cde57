/-! THE FORMS, AS THE CLASS READS THEM -/
/-- does a form fit, and up to where -/
def fm (f : Nat → Int32) (n : Nat) : List Nat → Nat → Bool × Nat
  | [], p => (true, p)
  | c :: L, p =>
    if c = 35 then (if dgP (sg f n p) then fm f n L (p + 1) else (false, p))
    else if c = 64 then (if dgP (sg f n p) then (if dgP (sg f n (p + 1)) then fm f n L (p + 1 + 1) else fm f n L (p + 1)) else (false, p))
    else if sg f n p = nI c then fm f n L (p + 1) else (false, p)
def hdN (x : Int32) (g : Nat → Int32) : Nat → Int32
  | 0 => x
  | j + 1 => g j
/-- its numbers -/
def nv (f : Nat → Int32) (n : Nat) : List Nat → Nat → Nat → Int32
  | [], _ => fun _ => 0
  | c :: L, p =>
    if c = 35 then hdN (sg f n p - nI 48) (nv f n L (p + 1))
    else if c = 64 then (if dgP (sg f n (p + 1)) then hdN ((sg f n p - nI 48) * nI 10 + sg f n (p + 1) - nI 48) (nv f n L (p + 1 + 1)) else hdN (sg f n p - nI 48) (nv f n L (p + 1)))
    else nv f n L (p + 1)
def cnt : List Nat → Nat
  | [] => 0
  | c :: L => if c = 35 then cnt L + 1 else if c = 64 then cnt L + 1 else cnt L
theorem cnt_3 : ∀ i : Fin 9, cnt (fmL i.val) ≤ 3 := by decide +kernel
section FM
variable {f : Nat → Int32} {n : Nat} {c p : Nat} {L : List Nat}
theorem fm_h (h : c = 35) (d : dgP (sg f n p)) : fm f n (c :: L) p = fm f n L (p + 1) := by rw [fm, if_pos h, if_pos d]
theorem fm_hn (h : c = 35) (d : ¬ dgP (sg f n p)) : fm f n (c :: L) p = (false, p) := by rw [fm, if_pos h, if_neg d]
theorem fm_a2 (h0 : ¬ c = 35) (h : c = 64) (d : dgP (sg f n p)) (d2 : dgP (sg f n (p + 1))) : fm f n (c :: L) p = fm f n L (p + 1 + 1) := by rw [fm, if_neg h0, if_pos h, if_pos d, if_pos d2]
theorem fm_a1 (h0 : ¬ c = 35) (h : c = 64) (d : dgP (sg f n p)) (d2 : ¬ dgP (sg f n (p + 1))) : fm f n (c :: L) p = fm f n L (p + 1) := by rw [fm, if_neg h0, if_pos h, if_pos d, if_neg d2]
theorem fm_an (h0 : ¬ c = 35) (h : c = 64) (d : ¬ dgP (sg f n p)) : fm f n (c :: L) p = (false, p) := by rw [fm, if_neg h0, if_pos h, if_neg d]
theorem fm_l (h0 : ¬ c = 35) (h : ¬ c = 64) (d : sg f n p = nI c) : fm f n (c :: L) p = fm f n L (p + 1) := by rw [fm, if_neg h0, if_neg h, if_pos d]
theorem fm_ln (h0 : ¬ c = 35) (h : ¬ c = 64) (d : ¬ sg f n p = nI c) : fm f n (c :: L) p = (false, p) := by rw [fm, if_neg h0, if_neg h, if_neg d]
theorem nv_h (h : c = 35) : nv f n (c :: L) p = hdN (sg f n p - nI 48) (nv f n L (p + 1)) := by rw [nv, if_pos h]
theorem nv_a2 (h0 : ¬ c = 35) (h : c = 64) (d2 : dgP (sg f n (p + 1))) : nv f n (c :: L) p = hdN ((sg f n p - nI 48) * nI 10 + sg f n (p + 1) - nI 48) (nv f n L (p + 1 + 1)) := by rw [nv, if_neg h0, if_pos h, if_pos d2]
theorem nv_a1 (h0 : ¬ c = 35) (h : c = 64) (d2 : ¬ dgP (sg f n (p + 1))) : nv f n (c :: L) p = hdN (sg f n p - nI 48) (nv f n L (p + 1)) := by rw [nv, if_neg h0, if_pos h, if_neg d2]
theorem nv_l (h0 : ¬ c = 35) (h : ¬ c = 64) : nv f n (c :: L) p = nv f n L (p + 1) := by rw [nv, if_neg h0, if_neg h]
theorem cnt_h (h : c = 35) : cnt (c :: L) = cnt L + 1 := by rw [cnt, if_pos h]
theorem cnt_a (h0 : ¬ c = 35) (h : c = 64) : cnt (c :: L) = cnt L + 1 := by rw [cnt, if_neg h0, if_pos h]
theorem cnt_l (h0 : ¬ c = 35) (h : ¬ c = 64) : cnt (c :: L) = cnt L := by rw [cnt, if_neg h0, if_neg h]
end FM
theorem fm_ge {f : Nat → Int32} {n : Nat} : ∀ (L : List Nat) (p : Nat), p ≤ (fm f n L p).2
  | [], p => Nat.le_refl p
  | c :: L, p => by
    have h1 := fm_ge (f := f) (n := n) L (p + 1)
    have h2 := fm_ge (f := f) (n := n) L (p + 1 + 1)
    unfold fm
    split
    · split
      · omega
      · exact Nat.le_refl p
    · split
      · split
        · split <;> omega
        · exact Nat.le_refl p
      · split
        · omega
        · exact Nat.le_refl p
/-- what the class's walk over a form says -/
def frQ (f : Nat → Int32) (n : Nat) (L : List Nat) (v : IS) (k : Nat) (r : Bool × IS) : Prop :=
  r.1 = (fm f n L (i_st v)).1 ∧ i_st r.2 = (fm f n L (i_st v)).2 ∧ ((fm f n L (i_st v)).1 = true → ∀ j, j < cnt L → i_nu r.2 (k + j) = nv f n L (i_st v) j) ∧ ∀ i, i < k → i_nu r.2 i = i_nu v i
theorem frQ_no {f : Nat → Int32} {n : Nat} {L : List Nat} {v : IS} {k : Nat} (h : fm f n L (i_st v) = (false, i_st v)) : frQ f n L v k (false, v) := by
  unfold frQ
  rw [h]
  exact ⟨rfl, rfl, fun q => absurd (show false = true from q) (by decide), fun _ _ => rfl⟩
theorem frQ_num {f : Nat → Int32} {n : Nat} {c : Nat} {L : List Nat} {v v' : IS} {k : Nat} {x : Int32} {r : Bool × IS} (hc : cnt (c :: L) = cnt L + 1) (hf : fm f n (c :: L) (i_st v) = fm f n L (i_st v')) (hn : nv f n (c :: L) (i_st v) = hdN x (nv f n L (i_st v'))) (hu : i_nu v' = upd (i_nu v) k x) (h : frQ f n L v' (k + 1) r) : frQ f n (c :: L) v k r := by
  obtain ⟨h1, h2, h3, h4⟩ := h
  unfold frQ
  rw [hf, hc, hn]
  refine ⟨h1, h2, fun q j hj => ?_, fun i hi => ?_⟩
  · cases j with
    | zero =>
      rw [Nat.add_zero, h4 k (Nat.lt_succ_self k), hu, upd_same]
      rfl
    | succ j =>
      rw [show k + (j + 1) = k + 1 + j by omega, h3 q j (by omega)]
      rfl
  · rw [h4 i (by omega), hu, upd_ne (by omega)]
theorem frF_fm {f : Nat → Int32} {n : Nat} : ∀ (L : List Nat) (v : IS) (k : Nat), i_sg v = f → i_n v = n → k + cnt L ≤ 3 → frQ f n L v k (frF L v k)
  | [], v, k, _, _, _ => ⟨rfl, rfl, fun _ j hj => absurd hj (Nat.not_lt_zero j), fun _ _ => rfl⟩
  | c :: L, v, k, h1, h2, hk => by
    have es : ∀ j, isg v j = sg f n j := fun j => by show sg (i_sg v) (i_n v) j = _; rw [h1, h2]
    by_cases c1 : c = 35
    · have hc := cnt_h (L := L) c1
      by_cases d : dgP (isg v (i_st v))
      · rw [tk_h c1 d, setI_l (by omega), nxI_l (by omega)]
        rw [es] at d
        refine frQ_num (x := isg v (i_st v) - nI 48) hc (fm_h c1 d) (by rw [nv_h c1, es]; rfl) rfl (frF_fm L _ (k + 1) h1 h2 (by omega))
      · rw [tk_hn c1 d]
        rw [es] at d
        exact frQ_no (fm_hn c1 d)
    · by_cases c2 : c = 64
      · have hc := cnt_a (L := L) c1 c2
        by_cases d : dgP (isg v (i_st v))
        · rw [tk_a c1 c2 d, setI_l (by omega), nxI_l (by omega)]
          by_cases d2 : dgP (isg v (i_st v + 1))
          · have e : F_tn1 v = ((isg v (i_st v) - nI 48) * nI 10 + isg v (i_st v + 1) - nI 48, iSt v (i_st v + 1 + 1)) := if_pos d2
            rw [e]
            rw [es] at d d2
            exact frQ_num (x := (isg v (i_st v) - nI 48) * nI 10 + isg v (i_st v + 1) - nI 48) hc (fm_a2 c1 c2 d d2) (by rw [nv_a2 c1 c2 d2, es, es]) rfl (frF_fm L _ (k + 1) h1 h2 (by omega))
          · have e : F_tn1 v = (isg v (i_st v) - nI 48, iSt v (i_st v + 1)) := if_neg d2
            rw [e]
            rw [es] at d d2
            exact frQ_num (x := isg v (i_st v) - nI 48) hc (fm_a1 c1 c2 d d2) (by rw [nv_a1 c1 c2 d2, es]) rfl (frF_fm L _ (k + 1) h1 h2 (by omega))
        · rw [tk_an c1 c2 d]
          rw [es] at d
          exact frQ_no (fm_an c1 c2 d)
      · have hc := cnt_l (L := L) c1 c2
        by_cases d : isg v (i_st v) = nI c
        · rw [tk_l c1 c2 d]
          rw [es] at d
          obtain ⟨q1, q2, q3, q4⟩ := frF_fm (f := f) (n := n) L (iSt v (i_st v + 1)) k h1 h2 (by omega)
          unfold frQ
          rw [fm_l c1 c2 d, nv_l c1 c2, hc]
          exact ⟨q1, q2, q3, q4⟩
        · rw [tk_ln c1 c2 d]
          rw [es] at d
          exact frQ_no (fm_ln c1 c2 d)
theorem tkA_fm {f : Nat → Int32} {n i pos : Nat} {v : IS} (hi : i < 9) (h1 : i_sg v = f) (h2 : i_n v = n) : (tkA i v pos).1 = (fm f n (fmL i) pos).1 ∧ i_st (tkA i v pos).2 = (fm f n (fmL i) pos).2 ∧ ((fm f n (fmL i) pos).1 = true → ∀ j, j < cnt (fmL i) → i_nu (tkA i v pos).2 j = nv f n (fmL i) pos j) ∧ i_sg (tkA i v pos).2 = f ∧ i_n (tkA i v pos).2 = n := by
  obtain ⟨q1, q2, q3, -⟩ := frF_fm (f := f) (n := n) (fmL i) (iSt v pos) 0 h1 h2 (by have := cnt_3 ⟨i, hi⟩; have : cnt (fmL i) ≤ 3 := this; omega)
  have g := tkA_g hi v (pos := pos) (B := pos + i_n v) (by omega) (by omega)
  refine ⟨q1, q2, fun q j hj => ?_, g.1.trans h1, g.2.1.trans h2⟩
  have := q3 q j hj
  rw [Nat.zero_add] at this
  exact this
/-- no form fits -/
theorem tkC_no {f : Nat → Int32} {n pos M : Nat} (h : ∀ i, i < 9 → (fm f n (fmL i) pos).1 = false ∧ (fm f n (fmL i) pos).2 ≤ M) : ∀ r, r ≤ 9 → ∀ (v : IS) (g : Nat), i_sg v = f → i_n v = n → g ≤ M → (g = M ∨ ∃ i, 9 - r ≤ i ∧ i < 9 ∧ (fm f n (fmL i) pos).2 = M) → (tkC pos r v g).1 = false ∧ i_st (tkC pos r v g).2 = M
  | 0, _, v, g, _, _, hg, hM => by
    rcases hM with hM | ⟨i, a, b, -⟩
    · exact ⟨rfl, hM⟩
    · omega
  | r + 1, hr, v, g, h1, h2, hg, hM => by
    obtain ⟨a1, a2, -, a4, a5⟩ := tkA_fm (pos := pos) (i := 8 - r) (by omega) h1 h2
    obtain ⟨b1, b2⟩ := h (8 - r) (by omega)
    rw [tkC, if_neg (by rw [a1, b1]; decide), a2]
    refine tkC_no h r (by omega) _ _ a4 a5 (by split <;> omega) ?_
    rcases hM with hM | ⟨i, c1, c2, c3⟩
    · left; rw [if_neg (by omega)]; exact hM
    · by_cases e : i = 8 - r
      · left
        subst e
        split <;> omega
      · exact Or.inr ⟨i, by omega, c2, c3⟩
/-- the first form that fits -/
theorem tkC_yes {f : Nat → Int32} {n pos k : Nat} (hk : k < 9) (h1 : (fm f n (fmL k) pos).1 = true) (h0 : ∀ i, i < k → (fm f n (fmL i) pos).1 = false) : ∀ r, r ≤ 9 → 9 - r ≤ k → ∀ (v : IS) (g : Nat), i_sg v = f → i_n v = n → (tkC pos r v g).1 = true ∧ i_cm (tkC pos r v g).2 = k ∧ i_st (tkC pos r v g).2 = (fm f n (fmL k) pos).2 ∧ ∀ j, j < cnt (fmL k) → i_nu (tkC pos r v g).2 j = nv f n (fmL k) pos j
  | 0, _, h9, _, _, _, _ => by omega
  | r + 1, hr, h9, v, g, hv1, hv2 => by
    obtain ⟨a1, a2, a3, a4, a5⟩ := tkA_fm (pos := pos) (i := 8 - r) (by omega) hv1 hv2
    by_cases e : 8 - r = k
    · rw [tkC, if_pos (by rw [a1, e]; exact h1)]
      rw [e] at a2 a3 ⊢
      exact ⟨rfl, rfl, a2, a3 h1⟩
    · rw [tkC, if_neg (by rw [a1, h0 _ (by omega)]; decide)]
      exact tkC_yes hk h1 h0 r (by omega) (by omega) _ _ a4 a5
/-- the first letters of the forms -/
def fl1 (i : Nat) : Nat := [112, 99, 99, 114, 108, 117, 115, 116, 103].getD i 0
theorem fm_hd : ∀ i : Fin 9, fmL i.val = fl1 i.val :: (fmL i.val).tail ∧ ¬ fl1 i.val = 35 ∧ ¬ fl1 i.val = 64 ∧ fl1 i.val < 128 := by decide +kernel
theorem fm_first {f : Nat → Int32} {n i pos : Nat} (hi : i < 9) (h : ¬ sg f n pos = nI (fl1 i)) : fm f n (fmL i) pos = (false, pos) := by
  obtain ⟨e, a, b, -⟩ := fm_hd ⟨i, hi⟩
  rw [show fmL i = fl1 i :: (fmL i).tail from e]
  exact fm_ln a b h
theorem fm_1st {f : Nat → Int32} {n i pos : Nat} (hi : i < 9) (h : sg f n pos = nI (fl1 i)) : fm f n (fmL i) pos = fm f n (fmL i).tail (pos + 1) := by
  obtain ⟨e, a, b, -⟩ := fm_hd ⟨i, hi⟩
  rw [show fmL i = fl1 i :: (fmL i).tail from e]
  exact fm_l a b h
theorem fm_yes {f : Nat → Int32} {n i pos : Nat} (hi : i < 9) (h : (fm f n (fmL i) pos).1 = true) : sg f n pos = nI (fl1 i) ∧ pos + 1 ≤ (fm f n (fmL i) pos).2 := by
  by_cases c : sg f n pos = nI (fl1 i)
  · refine ⟨c, ?_⟩
    rw [fm_1st hi c]
    exact fm_ge _ _
  · rw [fm_first hi c] at h; cases h
/-- the form that leads at a place: no other fits, none goes further -/
def lead (f : Nat → Int32) (n pos i : Nat) : Prop := i < 9 ∧ sg f n pos = nI (fl1 i) ∧ ∀ j, j < 9 → j ≠ i → (fm f n (fmL j) pos).1 = false ∧ (fm f n (fmL j) pos).2 ≤ (fm f n (fmL i) pos).2
theorem tkQ_yes {f : Nat → Int32} {n pos i : Nat} {v : IS} (h1 : i_sg v = f) (h2 : i_n v = n) (hi : i < 9) (hy : (fm f n (fmL i) pos).1 = true) (h0 : ∀ j, j < i → (fm f n (fmL j) pos).1 = false) : (tkQ v pos).1 = true ∧ i_cm (tkQ v pos).2 = i ∧ i_st (tkQ v pos).2 = (fm f n (fmL i) pos).2 ∧ ∀ j, j < cnt (fmL i) → i_nu (tkQ v pos).2 j = nv f n (fmL i) pos j :=
  tkC_yes hi hy h0 9 (Nat.le_refl 9) (by omega) v pos h1 h2
theorem tkQ_lead {f : Nat → Int32} {n pos i : Nat} {v : IS} (h1 : i_sg v = f) (h2 : i_n v = n) (hl : lead f n pos i) (hn : (fm f n (fmL i) pos).1 = false) : (tkQ v pos).1 = false ∧ i_st (tkQ v pos).2 = (fm f n (fmL i) pos).2 := by
  obtain ⟨hi, -, ho⟩ := hl
  refine tkC_no (fun j hj => ?_) 9 (Nat.le_refl 9) v pos h1 h2 (fm_ge _ _) (Or.inr ⟨i, by omega, hi, rfl⟩)
  by_cases e : j = i
  · subst e; exact ⟨hn, Nat.le_refl _⟩
  · exact ho j hj e
theorem tkQ_none {f : Nat → Int32} {n pos : Nat} {v : IS} (h1 : i_sg v = f) (h2 : i_n v = n) (h : ∀ i, i < 9 → ¬ sg f n pos = nI (fl1 i)) : (tkQ v pos).1 = false ∧ i_st (tkQ v pos).2 = pos :=
  tkC_no (fun j hj => by rw [fm_first hj (h j hj)]; exact ⟨rfl, Nat.le_refl _⟩) 9 (Nat.le_refl 9) v pos h1 h2 (Nat.le_refl _) (Or.inl rfl)
theorem fl1_ne : ∀ i j : Fin 9, i ≠ j → i.val ≠ 1 → i.val ≠ 2 → fl1 i.val ≠ fl1 j.val := by decide +kernel
theorem fl1_99 : ∀ j : Fin 9, j.val ≠ 1 → j.val ≠ 2 → fl1 j.val ≠ 99 := by decide +kernel
theorem fl1_lt {i : Nat} (hi : i < 9) : fl1 i < 128 := (fm_hd ⟨i, hi⟩).2.2.2
theorem lead_o {f : Nat → Int32} {n pos i : Nat} (hi : i < 9) (h1 : i ≠ 1) (h2 : i ≠ 2) (h : sg f n pos = nI (fl1 i)) : lead f n pos i := by
  refine ⟨hi, h, fun j hj hne => ?_⟩
  have hd : ¬ sg f n pos = nI (fl1 j) := fun q => by
    rw [h, nI_eq (by have := fl1_lt hi; omega) (by have := fl1_lt hj; omega)] at q
    exact fl1_ne ⟨i, hi⟩ ⟨j, hj⟩ (fun z => hne (congrArg Fin.val z).symm) h1 h2 q
  rw [fm_first hj hd]
  exact ⟨rfl, fm_ge _ _⟩
theorem lead_c {f : Nat → Int32} {n pos : Nat} (h : sg f n pos = nI 99) : lead f n pos (if sg f n (pos + 1) = nI 97 then 2 else 1) := by
  have ho : ∀ j, j < 9 → j ≠ 1 → j ≠ 2 → fm f n (fmL j) pos = (false, pos) := fun j hj a b => fm_first hj (fun q => by
    rw [h, nI_eq (by decide) (by have := fl1_lt hj; omega)] at q
    exact fl1_99 ⟨j, hj⟩ a b q.symm)
  have e1 : fm f n (fmL 1) pos = fm f n (111 :: [110, 99, 108, 117, 115, 105, 111, 110, 32, 64]) (pos + 1) := fm_1st (by decide) h
  have e2 : fm f n (fmL 2) pos = fm f n (97 :: [114, 116, 32, 64]) (pos + 1) := fm_1st (by decide) h
  by_cases c : sg f n (pos + 1) = nI 97
  · rw [if_pos c]
    refine ⟨by decide, h, fun j hj hne => ?_⟩
    have hg : pos + 1 ≤ (fm f n (fmL 2) pos).2 := by rw [e2]; exact fm_ge _ _
    by_cases j1 : j = 1
    · subst j1
      rw [e1, fm_ln (by decide) (by decide) (by rw [c]; decide)]
      exact ⟨rfl, hg⟩
    · rw [ho j hj j1 hne]
      exact ⟨rfl, by show pos ≤ _; omega⟩
  · rw [if_neg c]
    refine ⟨by decide, h, fun j hj hne => ?_⟩
    have hg : pos + 1 ≤ (fm f n (fmL 1) pos).2 := by rw [e1]; exact fm_ge _ _
    by_cases j2 : j = 2
    · subst j2
      rw [e2, fm_ln (by decide) (by decide) c]
      exact ⟨rfl, hg⟩
    · rw [ho j hj hne j2]
      exact ⟨rfl, by show pos ≤ _; omega⟩
