/-! THE BEST BALANCE AGAIN, AND THAT ALL IS WELL -/
theorem cwP_all {y : YS} (h : yA y) : cwP y := by
  obtain ⟨hy, hD, hW, hC, -⟩ := h
  intro b c hc
  have hw : wB (gatB y (nI c) (gatB y (nI c) b)) := wB_gat hW
  refine ⟨(to_te0 hy hc).symm, (to_te1 hy hc).symm, ?_, pC_lt hC hc, hw⟩
  rw [← sets_ways hw, best_c (b := b) (w := fun _ => 0) hy hD hc, best_c (b := gatB y (nI c) b) (w := fun _ => 0) hy hD hc]
theorem bestAgain_eq {y : YS} {b : BS} {v : MS} {x : Int32} (h : yA y) : (F_bsgC y b x).1 = (F_best y v x).1 := by
  obtain ⟨hy, hD, hW, -, -⟩ := h
  unfold F_bsgC F_best
  by_cases h : p_in x (y_cn y)
  · rw [if_pos h, if_neg (fun q => q h)]
    obtain ⟨c, hc, rfl⟩ := p_in_ex (by have := hy.2.1; omega) h
    show losB (setB (gatB y (nI c) b)) (2 ^ b_n (gatB y (nI c) b) - 1) = _
    rw [← sets_ways (wB_gat hW)]
    exact best_c hy hD hc
  · rw [if_neg h, if_pos h]
