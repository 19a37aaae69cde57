/-! WHAT THE FACE ANSWERS OF CARTS, ROADS, ACCOUNTS -/
theorem a_ct {y : YS} {c : Nat} (hc : c < y_cn y) (hcn : y_cn y ≤ 4) : a_cart y (nI c) (nI 0) = y_st y c ∧ a_cart y (nI c) (nI 1) = nI (t_pn y (nI c)) ∧ a_cart y (nI c) (nI 2) = t_wo y (nI c) (nI 0) ∧ a_cart y (nI c) (nI 3) = t_at y (nI c) (nI 6) ∧ a_cart y (nI c) (nI 4) = t_all y (nI c) ∧ a_cart y (nI c) (nI 5) = y_tr y c ∧ a_cart y (nI c) (nI 6) = t_im y (nI c) ∧ a_cart y (nI c) (nI 7) = nI (t_cr y c) := by
  have h := p_inN hc (by omega)
  have e : ixI (nI c) = c := nI_clamp (by omega)
  refine ⟨?_, ?_, ?_, ?_, ?_, ?_, ?_, ?_⟩
  · unfold a_cart; rw [if_neg (fun q => q h), if_pos rfl, e]
  · unfold a_cart; rw [if_neg (fun q => q h), if_neg (show ¬ nI 1 = nI 0 by decide), if_pos rfl]
  · unfold a_cart; rw [if_neg (fun q => q h), if_neg (show ¬ nI 2 = nI 0 by decide), if_neg (show ¬ nI 2 = nI 1 by decide), if_pos rfl]
  · unfold a_cart; rw [if_neg (fun q => q h), if_neg (show ¬ nI 3 = nI 0 by decide), if_neg (show ¬ nI 3 = nI 1 by decide), if_neg (show ¬ nI 3 = nI 2 by decide), if_pos rfl]
  · unfold a_cart; rw [if_neg (fun q => q h), if_neg (show ¬ nI 4 = nI 0 by decide), if_neg (show ¬ nI 4 = nI 1 by decide), if_neg (show ¬ nI 4 = nI 2 by decide), if_neg (show ¬ nI 4 = nI 3 by decide), if_pos rfl]
  · unfold a_cart; rw [if_neg (fun q => q h), if_neg (show ¬ nI 5 = nI 0 by decide), if_neg (show ¬ nI 5 = nI 1 by decide), if_neg (show ¬ nI 5 = nI 2 by decide), if_neg (show ¬ nI 5 = nI 3 by decide), if_neg (show ¬ nI 5 = nI 4 by decide), if_pos rfl, e]
  · unfold a_cart; rw [if_neg (fun q => q h), if_neg (show ¬ nI 6 = nI 0 by decide), if_neg (show ¬ nI 6 = nI 1 by decide), if_neg (show ¬ nI 6 = nI 2 by decide), if_neg (show ¬ nI 6 = nI 3 by decide), if_neg (show ¬ nI 6 = nI 4 by decide), if_neg (show ¬ nI 6 = nI 5 by decide), if_pos rfl]
  · unfold a_cart; rw [if_neg (fun q => q h), if_neg (show ¬ nI 7 = nI 0 by decide), if_neg (show ¬ nI 7 = nI 1 by decide), if_neg (show ¬ nI 7 = nI 2 by decide), if_neg (show ¬ nI 7 = nI 3 by decide), if_neg (show ¬ nI 7 = nI 4 by decide), if_neg (show ¬ nI 7 = nI 5 by decide), if_neg (show ¬ nI 7 = nI 6 by decide), if_pos rfl, e]
theorem a_rd {y : YS} {r : Nat} (hr : r < y_rn y) (hrn : y_rn y ≤ 5) : a_road y (nI r) (nI 0) = y_li y r ∧ a_road y (nI r) (nI 1) = y_mi y r ∧ a_road y (nI r) (nI 2) = y_ra y r ∧ a_road y (nI r) (nI 3) = y_rt y r := by
  have h := p_inN hr (by omega)
  have e : ixI (nI r) = r := nI_clamp (by omega)
  refine ⟨?_, ?_, ?_, ?_⟩
  · unfold a_road; rw [if_neg (fun q => q h), if_pos rfl, e]
  · unfold a_road; rw [if_neg (fun q => q h), if_neg (show ¬ nI 1 = nI 0 by decide), if_pos rfl, e]
  · unfold a_road; rw [if_neg (fun q => q h), if_neg (show ¬ nI 2 = nI 0 by decide), if_neg (show ¬ nI 2 = nI 1 by decide), if_pos rfl, e]
  · unfold a_road; rw [if_neg (fun q => q h), if_neg (show ¬ nI 3 = nI 0 by decide), if_neg (show ¬ nI 3 = nI 1 by decide), if_neg (show ¬ nI 3 = nI 2 by decide), if_pos rfl, e]
theorem acc_1 {y : YS} {l c : Nat} : a_acc y l c (nI 1) = nI (t_tk y (nI 0)) := by
  unfold a_acc
  rw [if_neg (show ¬ nI 1 = nI 0 by decide), if_pos rfl]
theorem acc_2 {y : YS} {l c : Nat} : a_acc y l c (nI 2) = nI (t_tk y (nI 1)) := by
  unfold a_acc
  rw [if_neg (show ¬ nI 2 = nI 0 by decide), if_neg (show ¬ nI 2 = nI 1 by decide), if_pos rfl]
theorem acc_3 {y : YS} {l c : Nat} : a_acc y l c (nI 3) = nI (t_tc y) := by
  unfold a_acc
  rw [if_neg (show ¬ nI 3 = nI 0 by decide), if_neg (show ¬ nI 3 = nI 1 by decide), if_neg (show ¬ nI 3 = nI 2 by decide), if_pos rfl]
theorem acc_5 {y : YS} {l c : Nat} : a_acc y l c (nI 5) = nI (y_rn y) := by
  unfold a_acc
  rw [if_neg (show ¬ nI 5 = nI 0 by decide), if_neg (show ¬ nI 5 = nI 1 by decide), if_neg (show ¬ nI 5 = nI 2 by decide), if_neg (show ¬ nI 5 = nI 3 by decide), if_neg (show ¬ nI 5 = nI 4 by decide), if_pos rfl]
theorem acc_6 {y : YS} {l c : Nat} : a_acc y l c (nI 6) = t_wcs y := by
  unfold a_acc
  rw [if_neg (show ¬ nI 6 = nI 0 by decide), if_neg (show ¬ nI 6 = nI 1 by decide), if_neg (show ¬ nI 6 = nI 2 by decide), if_neg (show ¬ nI 6 = nI 3 by decide), if_neg (show ¬ nI 6 = nI 4 by decide), if_neg (show ¬ nI 6 = nI 5 by decide), if_pos rfl]
theorem acc_7 {y : YS} {l c : Nat} : a_acc y l c (nI 7) = nI (t_acr y) := by
  unfold a_acc
  rw [if_neg (show ¬ nI 7 = nI 0 by decide), if_neg (show ¬ nI 7 = nI 1 by decide), if_neg (show ¬ nI 7 = nI 2 by decide), if_neg (show ¬ nI 7 = nI 3 by decide), if_neg (show ¬ nI 7 = nI 4 by decide), if_neg (show ¬ nI 7 = nI 5 by decide), if_neg (show ¬ nI 7 = nI 6 by decide), if_pos rfl]
theorem acc_8 {y : YS} {l c : Nat} : a_acc y l c (nI 8) = nI (t_awn y) := by
  unfold a_acc
  rw [if_neg (show ¬ nI 8 = nI 0 by decide), if_neg (show ¬ nI 8 = nI 1 by decide), if_neg (show ¬ nI 8 = nI 2 by decide), if_neg (show ¬ nI 8 = nI 3 by decide), if_neg (show ¬ nI 8 = nI 4 by decide), if_neg (show ¬ nI 8 = nI 5 by decide), if_neg (show ¬ nI 8 = nI 6 by decide), if_neg (show ¬ nI 8 = nI 7 by decide), if_pos rfl]
theorem acc_9 {y : YS} {l c : Nat} : a_acc y l c (nI 9) = t_ts y := by
  unfold a_acc
  rw [if_neg (show ¬ nI 9 = nI 0 by decide), if_neg (show ¬ nI 9 = nI 1 by decide), if_neg (show ¬ nI 9 = nI 2 by decide), if_neg (show ¬ nI 9 = nI 3 by decide), if_neg (show ¬ nI 9 = nI 4 by decide), if_neg (show ¬ nI 9 = nI 5 by decide), if_neg (show ¬ nI 9 = nI 6 by decide), if_neg (show ¬ nI 9 = nI 7 by decide), if_neg (show ¬ nI 9 = nI 8 by decide), if_pos rfl]
theorem acc_10 {y : YS} {l c : Nat} : a_acc y l c (nI 10) = y_mm y := by
  unfold a_acc
  rw [if_neg (show ¬ nI 10 = nI 0 by decide), if_neg (show ¬ nI 10 = nI 1 by decide), if_neg (show ¬ nI 10 = nI 2 by decide), if_neg (show ¬ nI 10 = nI 3 by decide), if_neg (show ¬ nI 10 = nI 4 by decide), if_neg (show ¬ nI 10 = nI 5 by decide), if_neg (show ¬ nI 10 = nI 6 by decide), if_neg (show ¬ nI 10 = nI 7 by decide), if_neg (show ¬ nI 10 = nI 8 by decide), if_neg (show ¬ nI 10 = nI 9 by decide), if_pos rfl]
theorem kN_is {y : YS} (hy : yI y) {k : Nat} (hk : k < y_n y) : y_kd y k = nI (kN y k) ∧ kN y k ≤ 1 := by
  rcases (hy.2.2.2.1 k hk).1 with e | e
  · have : kN y k = 0 := if_pos (e.trans (by decide))
    rw [this, e]; exact ⟨rfl, by omega⟩
  · have : kN y k = 1 := if_neg (fun q => absurd (e.symm.trans q) (by decide))
    rw [this, e]; exact ⟨rfl, by omega⟩
theorem tk_sum {y : YS} (hy : yI y) : t_tk y (nI 0) + t_tk y (nI 1) = y_n y := by
  have h : ∀ n, n ≤ y_n y → cN (fun k => decide (y_kd y k = nI 0)) n + cN (fun k => decide (y_kd y k = nI 1)) n = n := by
    intro n
    induction n with
    | zero => intro _; rfl
    | succ n ih =>
      intro hn
      have := ih (by omega)
      rw [cN, cN]
      rcases (hy.2.2.2.1 n (by omega)).1 with e | e
      · rw [if_pos (show decide (y_kd y n = nI 0) = true from decide_eq_true e), if_neg (show ¬ decide (y_kd y n = nI 1) = true from fun q => absurd (e.symm.trans (of_decide_eq_true q)) (by decide))]; omega
      · rw [if_neg (show ¬ decide (y_kd y n = nI 0) = true from fun q => absurd (e.symm.trans (of_decide_eq_true q)) (by decide)), if_pos (show decide (y_kd y n = nI 1) = true from decide_eq_true e)]; omega
  exact h (y_n y) (Nat.le_refl _)
theorem mean_is {y : YS} (h : ¬ y_n y = 0) : a_mean y = FP.ddiv (FP.i2d (t_sw y)) (FP.i2d (nI (y_n y))) := if_neg h
theorem share_is {y : YS} (h : ¬ y_cn y = 0) : a_share y = FP.fdiv (FP.i2f (nI (t_acr y))) (FP.i2f (nI (2 * y_cn y))) := if_neg h
theorem nF_nan {x : UInt32} (h : nF x) : FP.Core.fIsNaN x = false := by
  refine decide_eq_false (fun q => ?_)
  have q := (FP.Core.decode_nan x.toNat).mp q
  have hm : FP.Core.mag FP.Core.b32 x.toNat ≤ x.toNat := Nat.mod_le _ _
  have hi : FP.Core.infBits FP.Core.b32 = 2139095040 := rfl
  unfold nF at h
  omega
theorem nD_nan {x : UInt64} (h : nD x) : FP.Core.dIsNaN x = false := by
  refine decide_eq_false (fun q => ?_)
  have q := (FP.Core.decode_nan x.toNat).mp q
  have hm : FP.Core.mag FP.Core.b64 x.toNat ≤ x.toNat := Nat.mod_le _ _
  have hi : FP.Core.infBits FP.Core.b64 = 9218868437227405312 := rfl
  unfold nD at h
  omega
theorem cmpF_self {x : UInt32} (h : nF x) (o : CmpOp) : Op.cmpValue (FP.fcmp x x) o = nI 0 := by
  rw [show FP.fcmp x x = some .eq from FP.Core.fcmp_refl (nF_nan h)]
  cases o <;> rfl
theorem cmpD_self {x : UInt64} (h : nD x) (o : CmpOp) : Op.cmpValue (FP.dcmp x x) o = nI 0 := by
  rw [show FP.dcmp x x = some .eq from FP.Core.dcmp_refl (nD_nan h)]
  cases o <;> rfl
theorem mean_nD {y : YS} (hy : yI y) (h : ¬ y_n y = 0) : nD (FP.ddiv (FP.i2d (t_sw y)) (FP.i2d (nI (y_n y)))) := by
  obtain ⟨t, ht, e⟩ := sw_nat hy
  rw [e]
  have hn := hy.1
  refine nD_div (nD_i2d (by omega)) ?_ ?_
  · rcases (show y_n y = 1 ∨ y_n y = 2 ∨ y_n y = 3 ∨ y_n y = 4 ∨ y_n y = 5 ∨ y_n y = 6 ∨ y_n y = 7 ∨ y_n y = 8 ∨ y_n y = 9 ∨ y_n y = 10 ∨ y_n y = 11 ∨ y_n y = 12 by omega) with h | h | h | h | h | h | h | h | h | h | h | h <;> rw [h] <;> decide +kernel
  · rcases (show y_n y = 1 ∨ y_n y = 2 ∨ y_n y = 3 ∨ y_n y = 4 ∨ y_n y = 5 ∨ y_n y = 6 ∨ y_n y = 7 ∨ y_n y = 8 ∨ y_n y = 9 ∨ y_n y = 10 ∨ y_n y = 11 ∨ y_n y = 12 by omega) with h | h | h | h | h | h | h | h | h | h | h | h <;> rw [h] <;> decide +kernel
theorem share_nF {y : YS} (hy : yI y) (h : ¬ y_cn y = 0) : nF (FP.fdiv (FP.i2f (nI (t_acr y))) (FP.i2f (nI (2 * y_cn y)))) := by
  have hn := hy.2.1
  have ha := acr_le hy
  refine nF_div (i2f_fin (by omega)).n (i2f_fin (by omega)) ?_
  rcases (show y_cn y = 1 ∨ y_cn y = 2 ∨ y_cn y = 3 ∨ y_cn y = 4 by omega) with h | h | h | h <;> rw [h] <;> decide +kernel
