/-! THE ANSWERS OF THE FACE, over a yard -/
abbrev ixI (x : Int32) : Nat := x.toNatClampNeg
def a_thing (y : YS) (x w : Int32) : Int32 := if ¬ p_in x (y_n y) then -1 else if w = nI 0 then y_kd y (ixI x) else if w = nI 1 then y_w y (ixI x) else if w = nI 2 then y_cu y (ixI x) else if w = nI 3 then y_pl y (ixI x) else -2
def a_cart (y : YS) (x w : Int32) : Int32 := if ¬ p_in x (y_cn y) then -1 else if w = nI 0 then y_st y (ixI x) else if w = nI 1 then nI (t_pn y x) else if w = nI 2 then t_wo y x (nI 0) else if w = nI 3 then t_at y x (nI 6) else if w = nI 4 then t_all y x else if w = nI 5 then y_tr y (ixI x) else if w = nI 6 then t_im y x else if w = nI 7 then nI (t_cr y (ixI x)) else -2
def a_at (y : YS) (x z : Int32) : Int32 := if ¬ p_in x (y_cn y) then -1 else if z < 0 ∨ ¬ z ≤ nI 6 then -2 else t_at y x z
def a_road (y : YS) (x w : Int32) : Int32 := if ¬ p_in x (y_rn y) then -1 else if w = nI 0 then y_li y (ixI x) else if w = nI 1 then y_mi y (ixI x) else if w = nI 2 then y_ra y (ixI x) else if w = nI 3 then y_rt y (ixI x) else -2
def a_ten (y : YS) (x z : Int32) : Int32 := if p_in x (y_cn y) then t_te y x z else -1
def a_axle (y : YS) (x z : Int32) : UInt32 := if p_in x (y_cn y) then t_ld y (ixI x) z else 3212836864
def a_wear (y : YS) (x z : Int32) : UInt32 := if p_in x (y_cn y) then y_wr y (wix (ixI x) z) else 3212836864
def tkF (y : YS) (x : Int32) : Nat → Int32
  | 0 => nI 0
  | k + 1 => if p_wi y x k then tkF y x k ||| (nI 1 <<< (nI k &&& 31)) else tkF y x k
def a_takes (y : YS) (x : Int32) : Int32 := if ¬ p_in x (y_cn y) then -1 else tkF y x (y_rn y)
def ordI (P : Nat → Nat → Bool) (n : Nat) (x : Int32) : Int32 := if fst (fun k => decide (nI (cN (fun j => P j k) n) = x)) n < n then nI (fst (fun k => decide (nI (cN (fun j => P j k) n) = x)) n) else -1
theorem ordI_some {P : Nat → Nat → Bool} {n : Nat} {x : Int32} {k : Nat} (hk : decide (nI (cN (fun j => P j k) n) = x) = true) (h : ∀ j, j < k → (fun k => decide (nI (cN (fun j => P j k) n) = x)) j = false) (hn : k < n) : ordI P n x = nI k := by
  unfold ordI
  rw [fst_some (q := fun k => decide (nI (cN (fun j => P j k) n) = x)) hk h hn, if_pos hn]
theorem ordI_none {P : Nat → Nat → Bool} {n : Nat} {x : Int32} (h : ∀ j, j < n → (fun k => decide (nI (cN (fun j => P j k) n) = x)) j = false) : ordI P n x = -1 := by
  unfold ordI
  rw [fst_none h, if_neg (Nat.lt_irrefl n)]
/-- who is ahead, as the reference says it -/
abbrev pmT (y : YS) (j k : Nat) : Prop := 0 < y_w y j - y_w y k ∨ (y_w y j - y_w y k = 0 ∧ (0 < y_kd y k - y_kd y j ∨ (y_kd y k - y_kd y j = 0 ∧ ¬ k ≤ j)))
abbrev pmC (y : YS) (j k : Nat) : Prop := 0 < t_all y (nI j) - t_all y (nI k) ∨ (t_all y (nI j) - t_all y (nI k) = 0 ∧ (0 < t_im y (nI k) - t_im y (nI j) ∨ (t_im y (nI k) - t_im y (nI j) = 0 ∧ ¬ k ≤ j)))
/-- who is ahead, as the class says it -/
abbrev pcT (y : YS) (j k : Nat) : Prop := (¬ y_w y j = y_w y k ∧ ¬ y_w y j ≤ y_w y k) ∨ (y_w y j = y_w y k ∧ ((¬ y_kd y j = y_kd y k ∧ y_kd y j = 0) ∨ (y_kd y j = y_kd y k ∧ ¬ k ≤ j)))
abbrev pcC (y : YS) (j k : Nat) : Prop := (¬ t_all y (nI j) = t_all y (nI k) ∧ ¬ t_all y (nI j) ≤ t_all y (nI k)) ∨ (t_all y (nI j) = t_all y (nI k) ∧ ((¬ t_im y (nI j) = t_im y (nI k) ∧ ¬ t_im y (nI k) ≤ t_im y (nI j)) ∨ (t_im y (nI j) = t_im y (nI k) ∧ ¬ k ≤ j)))
def t_sw (y : YS) : Int32 := sI (fun k => y_w y k) (y_n y)
def a_mean (y : YS) : UInt64 := if y_n y = 0 then FP.dconst0 else FP.ddiv (FP.i2d (t_sw y)) (FP.i2d (nI (y_n y)))
def a_share (y : YS) : UInt32 := if y_cn y = 0 then FP.fconst0 else FP.fdiv (FP.i2f (nI (t_acr y))) (FP.i2f (nI (2 * y_cn y)))
def a_acc (y : YS) (len cnt : Nat) (x : Int32) : Int32 := if x = nI 0 then nI (y_n y) else if x = nI 1 then nI (t_tk y (nI 0)) else if x = nI 2 then nI (t_tk y (nI 1)) else if x = nI 3 then nI (t_tc y) else if x = nI 4 then nI (y_cn y) else if x = nI 5 then nI (y_rn y) else if x = nI 6 then t_wcs y else if x = nI 7 then nI (t_acr y) else if x = nI 8 then nI (t_awn y) else if x = nI 9 then t_ts y else if x = nI 10 then y_mm y else if x = nI 11 then nI len else if x = nI 12 then nI cnt else -2
theorem sw_nat {y : YS} (hy : yI y) : ∃ t, t ≤ 648 ∧ t_sw y = nI t := by
  obtain ⟨t, ht, e⟩ := sI_nat (f := fun k => y_w y k) (B := 54) (n := y_n y) (fun k hk => by
    obtain ⟨-, ⟨w, -, hw2, hw⟩, -⟩ := hy.2.2.2.1 k hk
    exact ⟨w, hw2, hw⟩)
  exact ⟨t, Nat.le_trans ht (by have := hy.1; omega), e⟩
theorem mean_n {y : YS} (hy : yI y) (h : ¬ y_n y = 0) : vf_n64 (FP.ddiv (FP.i2d (t_sw y)) (FP.i2d (nI (y_n y)))) := by
  obtain ⟨t, ht, e⟩ := sw_nat hy
  rw [e]
  have hn := hy.1
  refine nD_n64 (nD_div (nD_i2d (by omega)) ?_ ?_)
  · rcases (show y_n y = 1 ∨ y_n y = 2 ∨ y_n y = 3 ∨ y_n y = 4 ∨ y_n y = 5 ∨ y_n y = 6 ∨ y_n y = 7 ∨ y_n y = 8 ∨ y_n y = 9 ∨ y_n y = 10 ∨ y_n y = 11 ∨ y_n y = 12 by omega) with h | h | h | h | h | h | h | h | h | h | h | h <;> rw [h] <;> decide +kernel
  · rcases (show y_n y = 1 ∨ y_n y = 2 ∨ y_n y = 3 ∨ y_n y = 4 ∨ y_n y = 5 ∨ y_n y = 6 ∨ y_n y = 7 ∨ y_n y = 8 ∨ y_n y = 9 ∨ y_n y = 10 ∨ y_n y = 11 ∨ y_n y = 12 by omega) with h | h | h | h | h | h | h | h | h | h | h | h <;> rw [h] <;> decide +kernel
theorem sN_le {f : Nat → Nat} {B : Nat} : ∀ {n : Nat}, (∀ k, f k ≤ B) → sN f n ≤ n * B
  | 0, _ => Nat.zero_le _
  | n + 1, h => by
    have := sN_le (n := n) h
    have h2 := h n
    rw [sN, Nat.succ_mul]
    omega
theorem acr_le {y : YS} (hy : yI y) : t_acr y ≤ 8 := by
  have := sN_le (f := fun c => t_cr y c) (n := y_cn y) (fun c => t_cr_le y c)
  have h2 := hy.2.1
  unfold t_acr
  omega
theorem awn_le {y : YS} (hy : y_cn y ≤ 4) : t_awn y ≤ 8 := by
  have := sN_le (f := fun c => t_wn y c) (n := y_cn y) (fun c => t_wn_le y c)
  unfold t_awn
  omega
theorem share_n {y : YS} (hy : yI y) (h : ¬ y_cn y = 0) : vf_n32 (FP.fdiv (FP.i2f (nI (t_acr y))) (FP.i2f (nI (2 * y_cn y)))) := by
  have hn := hy.2.1
  have ha := acr_le hy
  refine nF_n32 (nF_div (i2f_fin (by omega)).n (i2f_fin (by omega)) ?_)
  rcases (show y_cn y = 1 ∨ y_cn y = 2 ∨ y_cn y = 3 ∨ y_cn y = 4 by omega) with h | h | h | h <;> rw [h] <;> decide +kernel
