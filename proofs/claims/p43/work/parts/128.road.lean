/-! THE CHEAPEST ROAD: by tolls as floats, by rates as numbers -/
def tlF (w r : Nat) : UInt32 := FP.fmul (FP.fmul (FP.i2f (nI w)) (FP.i2f (nI r))) 1048576000
theorem tl_all : ∀ w : Fin 55, ∀ r s : Fin 10, 1 ≤ w.val →
    ((Op.cmpValue (FP.fcmp (tlF w.val r.val) (tlF w.val s.val)) CmpOp.l = 0) ↔ r.val = s.val) ∧ ((¬ 0 ≤ Op.cmpValue (FP.fcmp (tlF w.val r.val) (tlF w.val s.val)) CmpOp.g) ↔ r.val < s.val) := by decide +kernel
theorem toll_tlF {y : YS} {c r w s : Nat} (h1 : t_wo y (nI c) (nI 1) = nI w) (h2 : y_ra y r = nI s) : t_toll y c r = tlF w s := by
  show FP.fmul (FP.fmul (FP.i2f (t_wo y (nI c) (nI 1))) (FP.i2f (y_ra y r))) 1048576000 = _
  rw [h1, h2]; rfl
abbrev raN (y : YS) (r : Nat) : Nat := ixI (y_ra y r)
abbrev miN (y : YS) (r : Nat) : Nat := ixI (y_mi y r)
theorem rd_is {y : YS} (hy : yI y) {r : Nat} (hr : r < y_rn y) : y_ra y r = nI (raN y r) ∧ raN y r ≤ 9 ∧ y_mi y r = nI (miN y r) ∧ 1 ≤ miN y r ∧ miN y r ≤ 9 := by
  obtain ⟨li, mi, ra, -, -, m1, m2, r2, -, e1, e2⟩ := hy.2.2.2.2.1 r hr
  obtain ⟨a, b⟩ := ixI_n (x := y_ra y r) (v := ra) (by omega) e2
  obtain ⟨a', b'⟩ := ixI_n (x := y_mi y r) (v := mi) (by omega) e1
  exact ⟨a, by show ixI (y_ra y r) ≤ 9; omega, a', by show 1 ≤ ixI (y_mi y r); omega, by show ixI (y_mi y r) ≤ 9; omega⟩
/-- the road that is cheaper, in numbers -/
def rL (y : YS) (k f : Nat) : Prop := raN y k < raN y f ∨ (raN y k = raN y f ∧ miN y k < miN y f)
theorem bt_rL {y : YS} (hy : yI y) {c k f w : Nat} (hw : t_wo y (nI c) (nI 1) = nI w) (hw1 : 1 ≤ w) (hw2 : w ≤ 54) (hk : k < y_rn y) (hf : f < y_rn y) : p_btC y c k f ↔ rL y k f := by
  obtain ⟨a1, a2, a3, a4, a5⟩ := rd_is hy hk
  obtain ⟨b1, b2, b3, b4, b5⟩ := rd_is hy hf
  obtain ⟨t1, t2⟩ := tl_all ⟨w, by omega⟩ ⟨raN y k, by omega⟩ ⟨raN y f, by omega⟩ hw1
  unfold p_btC p_eql rL
  rw [toll_tlF hw a1, toll_tlF hw b1, t1, t2, a3, b3, nI_leI (by omega) (by omega)]
  show _ ↔ _
  constructor
  · rintro (⟨-, h⟩ | ⟨h, h'⟩)
    · exact Or.inl h
    · exact Or.inr ⟨h, by omega⟩
  · rintro (h | ⟨h, h'⟩)
    · exact Or.inl ⟨by show ¬ raN y k = raN y f; omega, h⟩
    · exact Or.inr ⟨h, by omega⟩
/-- the cheapest of the first k roads that take a cart, as the law counts it -/
def chL (y : YS) (c : Nat) : Nat → Option Nat
  | 0 => none
  | k + 1 => if p_wi y (nI c) k then (match chL y c k with
    | none => some k
    | some f => if raN y k < raN y f ∨ (raN y k = raN y f ∧ miN y k < miN y f) then some k else some f) else chL y c k
theorem chC_lt {y : YS} {c f : Nat} : ∀ k, chC y c k = some f → f < k
  | 0, h => by cases h
  | k + 1, h => by
    rw [chC] at h
    by_cases q : p_wi y (nI c) k
    · rw [if_pos q] at h
      cases e : chC y c k with
      | none => rw [e] at h; cases h; exact Nat.lt_succ_self _
      | some f' =>
        rw [e] at h
        have := chC_lt k e
        by_cases q2 : p_btC y c k f'
        · simp only [if_pos q2] at h; cases h; exact Nat.lt_succ_self _
        · simp only [if_neg q2] at h; cases h; omega
    · rw [if_neg q] at h
      have := chC_lt k h; omega
theorem chC_chL {y : YS} (hy : yI y) {c w : Nat} (hw : t_wo y (nI c) (nI 1) = nI w) (hw1 : 1 ≤ w) (hw2 : w ≤ 54) : ∀ k, k ≤ y_rn y → chC y c k = chL y c k
  | 0, _ => rfl
  | k + 1, hk => by
    have ih := chC_chL hy hw hw1 hw2 k (by omega)
    rw [chC, chL, ← ih]
    by_cases q : p_wi y (nI c) k
    · rw [if_pos q, if_pos q]
      cases e : chC y c k with
      | none => rfl
      | some f =>
        have hf := chC_lt k e
        have hb := bt_rL hy hw hw1 hw2 (k := k) (f := f) (by omega) (by omega)
        show (if p_btC y c k f then some k else some f) = (if raN y k < raN y f ∨ (raN y k = raN y f ∧ miN y k < miN y f) then some k else some f)
        by_cases b : p_btC y c k f
        · rw [if_pos b, if_pos (show raN y k < raN y f ∨ (raN y k = raN y f ∧ miN y k < miN y f) from hb.mp b)]
        · rw [if_neg b, if_neg (show ¬ (raN y k < raN y f ∨ (raN y k = raN y f ∧ miN y k < miN y f)) from fun q => b (hb.mpr q))]
    · rw [if_neg q, if_neg q]
