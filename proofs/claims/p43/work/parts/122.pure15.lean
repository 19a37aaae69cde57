/-! THE BEST BALANCE: the answers -/
theorem best_eq {y : YS} {b : BS} {v : MS} {x : Int32} (hy : yI y) (hD : yD y) : (F_bstC y b x).1 = (F_best y v x).1 := by
  unfold F_bstC F_best
  by_cases h : p_in x (y_cn y)
  · rw [if_pos h, if_neg (fun q => q h)]
    obtain ⟨c, hc, rfl⟩ := p_in_ex (by have := hy.2.1; omega) h
    exact best_c hy hD hc
  · rw [if_neg h, if_pos h]
theorem pC_lt {y : YS} {c : Nat} (hC : yC y) (hc : c < y_cn y) : ¬ t_wo y (nI c) (nI 0) < t_wo y (nI c) (nI 1) := Int32.not_lt.mpr (hC c hc)
