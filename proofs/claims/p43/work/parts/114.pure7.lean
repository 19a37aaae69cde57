/-! CLASS AND REFERENCE: carts in order -/
theorem im_nat {y : YS} (hy : yI y) {c : Nat} (hc : c < y_cn y) : ∃ t, t ≤ 6480 ∧ t_im y (nI c) = nI t := by
  obtain ⟨a, ha, ea⟩ := te_nat hy hc (z := nI 0)
  obtain ⟨b, hb, eb⟩ := te_nat hy hc (z := nI 1)
  unfold t_im
  rw [ea, eb]
  by_cases h : b ≤ a
  · refine ⟨a - b, by omega, ?_⟩
    rw [pk_sub h, if_pos (Int32.not_lt.mp (nI_lt0 (by omega)))]
  · refine ⟨b - a, by omega, ?_⟩
    have h1 : ¬ 0 ≤ nI a - nI b := fun q => by
      have h2 := (nI_sub_le (a := a) (b := b) (by omega) (by omega)).mpr (by omega)
      have h3 := (sub_eq0 (a := a) (b := b) (by omega) (by omega)).mp (Int32.le_antisymm h2 q)
      omega
    rw [if_neg h1, Int32.zero_sub, Int32.neg_sub, pk_sub (by omega)]
theorem pcC_iff {y : YS} {j k : Nat} (hy : yI y) (hj : j < y_cn y) (hk : k < y_cn y) : pcC y j k ↔ pmC y j k := by
  obtain ⟨a, ha, ea⟩ := all_nat hy (nI j)
  obtain ⟨b, hb, eb⟩ := all_nat hy (nI k)
  obtain ⟨d, hd, ed⟩ := im_nat hy hj
  obtain ⟨f, hf, ef⟩ := im_nat hy hk
  have p1 : (0 < nI a - nI b) = (b < a) := propext (pos_sub (by omega) (by omega))
  have p2 : (nI a - nI b = 0) = (a = b) := propext (sub_eq0 (by omega) (by omega))
  have p3 : (nI a = nI b) = (a = b) := propext (nI_inj' (by omega) (by omega))
  have p4 : (nI a ≤ nI b) = (a ≤ b) := propext (nI_le' (by omega) (by omega))
  have q1 : (0 < nI f - nI d) = (d < f) := propext (pos_sub (by omega) (by omega))
  have q2 : (nI f - nI d = 0) = (f = d) := propext (sub_eq0 (by omega) (by omega))
  have q3 : (nI d = nI f) = (d = f) := propext (nI_inj' (by omega) (by omega))
  have q4 : (nI f ≤ nI d) = (f ≤ d) := propext (nI_le' (by omega) (by omega))
  have u1 : (t_all y (nI j) = t_all y (nI k)) = (a = b) := by rw [ea, eb, p3]
  have u2 : (t_all y (nI j) ≤ t_all y (nI k)) = (a ≤ b) := by rw [ea, eb, p4]
  have u3 : (0 < t_all y (nI j) - t_all y (nI k)) = (b < a) := by rw [ea, eb, p1]
  have u4 : (t_all y (nI j) - t_all y (nI k) = 0) = (a = b) := by rw [ea, eb, p2]
  have v1 : (t_im y (nI j) = t_im y (nI k)) = (d = f) := by rw [ed, ef, q3]
  have v2 : (t_im y (nI k) ≤ t_im y (nI j)) = (f ≤ d) := by rw [ed, ef, q4]
  have v3 : (0 < t_im y (nI k) - t_im y (nI j)) = (d < f) := by rw [ed, ef, q1]
  have v4 : (t_im y (nI k) - t_im y (nI j) = 0) = (f = d) := by rw [ed, ef, q2]
  unfold pcC pmC
  rw [u1, u2, u3, u4, v1, v2, v3, v4]
  omega
