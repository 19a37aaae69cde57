/-! THE BEST BALANCE: class against reference -/
theorem gW_cg {y : YS} {x : Int32} {w w' : Nat → Int32} : ∀ k j, j < gN y x k → gW y x w k j = gW y x w' k j := by
  intro k
  induction k with
  | zero => intro j hj; exact absurd hj (Nat.not_lt_zero _)
  | succ k ih =>
    intro j hj
    by_cases h : gP y x k
    · rw [gN_s h] at hj
      rw [gW, gW, if_pos h, if_pos h]
      unfold upd
      by_cases e : j = gN y x k
      · rw [if_pos e, if_pos e]
      · rw [if_neg e, if_neg e]; exact ih j (by omega)
    · rw [gN_n h] at hj
      rw [gW, gW, if_neg h, if_neg h]; exact ih j hj
theorem best_c {y : YS} {b : BS} {w : Nat → Int32} {c : Nat} (hy : yI y) (hD : yD y) (hc : c < y_cn y) : lsC (b_w (gatB y (nI c) b)) (b_n (gatB y (nI c) b)) 0 (nI 0) (nI 0) = lsM (gW y (nI c) w (y_n y)) (gN y (nI c) (y_n y)) 0 0 0 := by
  have h6 := gN_6 hy hD hc
  show lsC (cGw y (nI c) (b_w b) (y_n y)) (cGn y (nI c) (y_n y)) 0 (nI 0) (nI 0) = _
  rw [lsC_lsM, cGn_gN hy _ (Nat.le_refl _) h6, cGw_gW hy _ (Nat.le_refl _) h6]
  exact lsM_cg _ _ _ _ (fun j _ hj => gW_cg _ j (by omega))
