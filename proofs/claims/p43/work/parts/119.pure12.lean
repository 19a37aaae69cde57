/-! THE CHEAPEST ROAD: class against reference -/
theorem bt_iff {y : YS} {c k f : Nat} : p_btC y c k f ↔ p_btM y c k f := by
  unfold p_btC p_btM p_eql p_ltg
  generalize FP.fcmp (t_toll y c k) (t_toll y c f) = r
  have key : Op.cmpValue r CmpOp.g < 0 → ¬ Op.cmpValue r CmpOp.l = 0 := by
    rcases r with _ | r
    · decide
    · cases r <;> decide
  constructor
  · rintro (⟨_, h⟩ | h)
    · exact Or.inl (Int32.not_le.mp h)
    · exact Or.inr h
  · rintro (h | h)
    · exact Or.inl ⟨key h, Int32.not_le.mpr h⟩
    · exact Or.inr h
theorem ch_iff {y : YS} {c : Nat} (h : ¬ t_oc y (nI c) (nI 1) = 0) : ∀ k, chC y c k = chM y c k := by
  intro k
  induction k with
  | zero => rfl
  | succ k ih =>
    rw [chC, chM, ih]
    by_cases hw : p_wi y (nI c) k
    · rw [if_pos hw, if_neg (fun q => q.elim (fun a => a (Int32.not_lt.mp hw)) h)]
      cases chM y c k with
      | none => rfl
      | some f =>
        show (if p_btC y c k f then some k else some f) = (if p_btM y c k f then some k else some f)
        by_cases hb : p_btM y c k f
        · rw [if_pos hb, if_pos (bt_iff.mpr hb)]
        · rw [if_neg hb, if_neg (fun q => hb (bt_iff.mp q))]
    · rw [if_neg hw, if_pos (Or.inl (fun q => hw (Int32.not_lt.mpr q)))]
theorem ch_none {y : YS} {c : Nat} (h : t_oc y (nI c) (nI 1) = 0) : ∀ k, chM y c k = none := by
  intro k
  induction k with
  | zero => rfl
  | succ k ih => rw [chM, if_pos (Or.inr h), ih]
theorem t_ch_eq {y : YS} (hy : yI y) {c : Nat} (hc : c < y_cn y) : t_chC y c = foI (chM y c (y_rn y)) := by
  unfold t_chC
  by_cases h : t_at y (nI c) (nI 6) = -4
  · rw [if_pos h, ch_none ((top_oc hy hc).mp h)]; rfl
  · rw [if_neg h, ch_iff (fun q => h ((top_oc hy hc).mpr q))]
