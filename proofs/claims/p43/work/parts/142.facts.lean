/-! WHAT THE FACE ANSWERS OF CARTS, ROADS, ACCOUNTS -/
theorem a_ct {y : YS} {c : Nat} (hc : c < y_cn y) (hcn : y_cn y ≤ 4) : a_cart y (nI c) (nI 0) = y_st y c ∧ a_cart y (nI c) (nI 1) = nI (t_pn y (nI c)) ∧ a_cart y (nI c) (nI 2) = t_wo y (nI c) (nI 0) ∧ a_cart y (nI c) (nI 3) = t_at y (nI c) (nI 6) ∧ a_cart y (nI c) (nI 4) = t_all y (nI c) ∧ a_cart y (nI c) (nI 5) = y_tr y c ∧ a_cart y (nI c) (nI 6) = t_im y (nI c) ∧ a_cart y (nI c) (nI 7) = nI (t_cr y c) := by
  have h := p_inN hc (by omega)
  have e : ixI (nI c) = c := nI_clamp (by omega)
  refine ⟨?_, ?_, ?_, ?_, ?_, ?_, ?_, ?_⟩
  · unfold a_cart; rw [if_neg (fun q => q h), if_pos rfl, e]
  · unfold a_cart; rw [if_neg (fun q => q h), if_neg (show ¬ nI 1 = nI 0 by decide), if_pos rfl]
  · unfold a_cart; rw [if_neg (fun q => q h), if_neg (show ¬ nI 2 = nI 0 by decide), if_neg (show ¬ nI 2 = nI 1 by decide), if_pos rfl]
  · unfold a_cart; rw [if_neg (fun q => q h), if_neg (show ¬ nI 3 = nI 0 by decide), if_neg (show ¬ nI 3 = nI 1 by decide), if_neg (show ¬ nI 3 = nI 2 by decide), if_pos rfl]
  · unfold a_cart; rw [if_neg (fun q => q h), if_neg (show ¬ nI 4 = nI 0 by decide), if_neg (show ¬ nI 4 = nI 1 by decide), if_neg (show ¬ nI 4 = nI 2 by decide), if_neg (show ¬ nI 4 = nI 3 by decide), if_pos rfl]
  · unfold a_cart; rw [if_neg (fun q => q h), if_neg (show ¬ nI 5 = nI 0 by decide), if_neg (show ¬ nI 5 = nI 1 by decide), if_neg (show ¬ nI 5 = nI 2 by decide), if_neg (show ¬ nI 5 = nI 3 by decide), if_neg (show ¬ nI 5 = nI 4 by decide), if_pos rfl, e]
  · unfold a_cart; rw [if_neg (fun q => q h), if_neg (show ¬ nI 6 = nI 0 by decide), if_neg (show ¬ nI 6 = nI 1 by decide), if_neg (show ¬ nI 6 = nI 2 by decide), if_neg (show ¬ nI 6 = nI 3 by decide), if_neg (show ¬ nI 6 = nI 4 by decide), if_neg (show ¬ nI 6 = nI 5 by decide), if_pos rfl]
  · unfold a_cart; rw [if_neg (fun q => q h), if_neg (show ¬ nI 7 = nI 0 by decide), if_neg (show ¬ nI 7 = nI 1 by decide), if_neg (show ¬ nI 7 = nI 2 by decide), if_neg (show ¬ nI 7 = nI 3 by decide), if_neg (show ¬ nI 7 = nI 4 by decide), if_neg (show ¬ nI 7 = nI 5 by decide), if_neg (show ¬ nI 7 = nI 6 by decide), if_pos rfl, e]
theorem a_rd {y : YS} {r : Nat} (hr : r < y_rn y) (hrn : y_rn y ≤ 5) : a_road y (nI r) (nI 0) = y_li y r ∧ a_road y (nI r) (nI 1) = y_mi y r ∧ a_road y (nI r) (nI 2) = y_ra y r ∧ a_road y (nI r) (nI 3) = y_rt y r := by
  have h := p_inN hr (by omega)
  have e : ixI (nI r) = r := nI_clamp (by omega)
  refine ⟨?_, ?_, ?_, ?_⟩
  · unfold a_road; rw [if_neg (fun q => q h), if_pos rfl, e]
  · unfold a_road; rw [if_neg (fun q => q h), if_neg (show ¬ nI 1 = nI 0 by decide), if_pos rfl, e]
  · unfold a_road; rw [if_neg (fun q => q h), if_neg (show ¬ nI 2 = nI 0 by decide), if_neg (show ¬ nI 2 = nI 1 by decide), if_pos rfl, e]
  · unfold a_road; rw [if_neg (fun q => q h), if_neg (show ¬ nI 3 = nI 0 by decide), if_neg (show ¬ nI 3 = nI 1 by decide), if_neg (show ¬ nI 3 = nI 2 by decide), if_pos rfl, e]
theorem acc_1 {y : YS} {l c : Nat} : a_acc y l c (nI 1) = nI (t_tk y (nI 0)) := by
  unfold a_acc
  rw [if_neg (show ¬ nI 1 = nI 0 by decide), if_pos rfl]
theorem acc_2 {y : YS} {l c : Nat} : a_acc y l c (nI 2) = nI (t_tk y (nI 1)) := by
  unfold a_acc
  rw [if_neg (show ¬ nI 2 = nI 0 by decide), if_neg (show ¬ nI 2 = nI 1 by decide), if_pos rfl]
theorem acc_3 {y : YS} {l c : Nat} : a_acc y l c (nI 3) = nI (t_tc y) := by
  unfold a_acc
  rw [if_neg (show ¬ nI 3 = nI 0 by decide), if_neg (show ¬ nI 3 = nI 1 by decide), if_neg (show ¬ nI 3 = nI 2 by decide), if_pos rfl]
theorem acc_5 {y : YS} {l c : Nat} : a_acc y l c (nI 5) = nI (y_rn y) := by
  unfold a_acc
  rw [if_neg (show ¬ nI 5 = nI 0 by decide), if_neg (show ¬ nI 5 = nI 1 by decide), if_neg (show ¬ nI 5 = nI 2 by decide), if_neg (show ¬ nI 5 = nI 3 by decide), if_neg (show ¬ nI 5 = nI 4 by decide), if_pos rfl]
theorem acc_6 {y : YS} {l c : Nat} : a_acc y l c (nI 6) = t_wcs y := by
  unfold a_acc
  rw [if_neg (show ¬ nI 6 = nI 0 by decide), if_neg (show ¬ nI 6 = nI 1 by decide), if_neg (show ¬ nI 6 = nI 2 by decide), if_neg (show ¬ nI 6 = nI 3 by decide), if_neg (show ¬ nI 6 = nI 4 by decide), if_neg (show ¬ nI 6 = nI 5 by decide), if_pos rfl]
theorem acc_7 {y : YS} {l c : Nat} : a_acc y l c (nI 7) = nI (t_acr y) := by
  unfold a_acc
  rw [if_neg (show ¬ nI 7 = nI 0 by decide), if_neg (show ¬ nI 7 = nI 1 by decide), if_neg (show ¬ nI 7 = nI 2 by decide), if_neg (show ¬ nI 7 = nI 3 by decide), if_neg (show ¬ nI 7 = nI 4 by decide), if_neg (show ¬ nI 7 = nI 5 by decide), if_neg (show ¬ nI 7 = nI 6 by decide), if_pos rfl]
theorem acc_8 {y : YS} {l c : Nat} : a_acc y l c (nI 8) = nI (t_awn y) := by
  unfold a_acc
  rw [if_neg (show ¬ nI 8 = nI 0 by decide), if_neg (show ¬ nI 8 = nI 1 by decide), if_neg (show ¬ nI 8 = nI 2 by decide), if_neg (show ¬ nI 8 = nI 3 by decide), if_neg (show ¬ nI 8 = nI 4 by decide), if_neg (show ¬ nI 8 = nI 5 by decide), if_neg (show ¬ nI 8 = nI 6 by decide), if_neg (show ¬ nI 8 = nI 7 by decide), if_pos rfl]
theorem acc_9 {y : YS} {l c : Nat} : a_acc y l c (nI 9) = t_ts y := by
  unfold a_acc
  rw [if_neg (show ¬ nI 9 = nI 0 by decide), if_neg (show ¬ nI 9 = nI 1 by decide), if_neg (show ¬ nI 9 = nI 2 by decide), if_neg (show ¬ nI 9 = nI 3 by decide), if_neg (show ¬ nI 9 = nI 4 by decide), if_neg (show ¬ nI 9 = nI 5 by decide), if_neg (show ¬ nI 9 = nI 6 by decide), if_neg (show ¬ nI 9 = nI 7 by decide), if_neg (show ¬ nI 9 = nI 8 by decide), if_pos rfl]
theorem acc_10 {y : YS} {l c : Nat} : a_acc y l c (nI 10) = y_mm y := by
  unfold a_acc
  rw [if_neg (show ¬ nI 10 = nI 0 by decide), if_neg (show ¬ nI 10 = nI 1 by decide), if_neg (show ¬ nI 10 = nI 2 by decide), if_neg (show ¬ nI 10 = nI 3 by decide), if_neg (show ¬ nI 10 = nI 4 by decide), if_neg (show ¬ nI 10 = nI 5 by decide), if_neg (show ¬ nI 10 = nI 6 by decide), if_neg (show ¬ nI 10 = nI 7 by decide), if_neg (show ¬ nI 10 = nI 8 by decide), if_neg (show ¬ nI 10 = nI 9 by decide), if_pos rfl]
theorem kN_is {y : YS} (hy : yI y) {k : Nat} (hk : k < y_n y) : y_kd y k = nI (kN y k) ∧ kN y k ≤ 1 := by
  rcases (hy.2.2.2.1 k hk).1 with e | e
  · have : kN y k = 0 := if_pos (e.trans (by decide))
    rw [this, e]; exact ⟨rfl, by omega⟩
  · have : kN y k = 1 := if_neg (fun q => absurd (e.symm.trans q) (by decide))
    rw [this, e]; exact ⟨rfl, by omega⟩
