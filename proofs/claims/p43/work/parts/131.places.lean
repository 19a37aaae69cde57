/-! WHAT THE LAW COUNTS BY PLACES IS WHAT THE CLASS COUNTS BY THINGS -/
def prC (y : YS) (x : Int32) : Nat → Int32
  | 0 => nI 0
  | p + 1 => prC y x p + (if t_at y x (nI p) = -4 then nI 0 else nI 1)
def prW (y : YS) (x : Int32) : Nat → Int32
  | 0 => nI 0
  | p + 1 => prW y x p + (if t_at y x (nI p) = -4 then nI 0 else y_w y (ixI (t_at y x (nI p))))
theorem prC_len {y : YS} {x : Int32} : ∀ p, prC y x p = nI (ixp y x p).length
  | 0 => rfl
  | p + 1 => by
    rw [prC, prC_len p, ixp]
    by_cases h : t_at y x (nI p) = -4
    · rw [if_pos h, if_pos h, nI_add]; rfl
    · rw [if_neg h, if_neg h, nI_add, List.length_append]; rfl
theorem prW_lI {y : YS} {x : Int32} : ∀ p, prW y x p = lI (y_w y) (ixp y x p)
  | 0 => rfl
  | p + 1 => by
    rw [prW, prW_lI p, ixp]
    by_cases h : t_at y x (nI p) = -4
    · rw [if_pos h, if_pos h, show nI 0 = 0 by decide, Int32.add_zero]
    · rw [if_neg h, if_neg h, lI_snoc]
theorem prC_pn {y : YS} (hy : yI y) (hD : yD y) {c : Nat} (hc : c < y_cn y) : prC y (nI c) 6 = nI (t_pn y (nI c)) := by
  rw [prC_len, (ix_perm hy hD hc).length_eq, ixs_pn]; rfl
theorem prW_wo {y : YS} (hy : yI y) (hD : yD y) {c : Nat} (hc : c < y_cn y) : prW y (nI c) 6 = t_wo y (nI c) (nI 0) := by
  rw [prW_lI, lI_perm (ix_perm hy hD hc), ixs_wo]; rfl
theorem sI_zero {f : Nat → Int32} : ∀ n, (∀ k, k < n → f k = 0) → sI f n = 0
  | 0, _ => rfl
  | n + 1, h => by rw [sI, sI_zero n (fun k hk => h k (by omega)), h n (Nat.lt_succ_self n)]; rfl
theorem sI_one {f : Nat → Int32} {i : Nat} : ∀ n, i < n → (∀ k, k < n → k ≠ i → f k = 0) → sI f n = f i
  | 0, hi, _ => absurd hi (Nat.not_lt_zero i)
  | n + 1, hi, h => by
    rw [sI]
    by_cases e : i = n
    · subst e
      rw [sI_zero i (fun k hk => h k (by omega) (by omega)), Int32.zero_add]
    · rw [sI_one n (by omega) (fun k hk => h k (by omega)), h n (Nat.lt_succ_self n) (by omega), Int32.add_zero]
def t_tp (y : YS) (x : Int32) : Int32 := if t_at y x (nI 6) = -4 then nI 0 else y_w y (ixI (t_at y x (nI 6)))
theorem tp_wo {y : YS} (hy : yI y) (hD : yD y) {c : Nat} (hc : c < y_cn y) : t_tp y (nI c) = t_wo y (nI c) (nI 1) := by
  have hn := hy.1
  have hcn := hy.2.1
  have six : ∀ k, k < y_n y → y_cu y k = nI c → (y_pl y k = nI 6 ↔ y_kd y k = nI 1) := fun k hk h1 => by
    obtain ⟨hkd, -, hcu⟩ := hy.2.2.2.1 k hk
    rcases hcu with ⟨e, -⟩ | ⟨c', q, hc', hq, e1, e2, hiff⟩
    · exact absurd (h1.symm.trans e) (nI_ne4 (by omega))
    · rw [e2, nI_eq (by omega) (by omega)]; exact hiff
  unfold t_tp t_wo
  rcases at_ex y (nI c) (nI 6) with e | ⟨k, hk, e⟩
  · rw [if_pos e, sI_zero _ (fun k hk => ?_)]
    · rfl
    · refine if_neg (fun q => ?_)
      exact at_no hn e k hk ⟨q.1, (six k hk q.1).mpr q.2⟩
  · obtain ⟨h1, h2⟩ := at_sp hn hk e
    rw [if_neg (by rw [e]; exact nI_ne4 (by omega)), e]
    show y_w y (nI k).toNatClampNeg = _
    rw [nI_clamp (by omega), sI_one (i := k) _ hk (fun j hj hne => if_neg (fun q => ?_)), if_pos ⟨h1, (six k hk h1).mp h2⟩]
    have hp : y_pl y j = y_pl y k := ((six j hj q.1).mpr q.2).trans h2.symm
    have hcq : y_cu y j = y_cu y k := q.1.trans h1.symm
    have n4 : ∀ i, y_cu y i = nI c → ¬ y_cu y i = -4 := fun i a b => nI_ne4 (by omega) (a.symm.trans b)
    rcases Nat.lt_or_gt_of_ne hne with hl | hl
    · exact hD j k hl hk hcq (n4 j q.1) hp
    · exact hD k j hl hj hcq.symm (n4 k h1) hp.symm
/-- the law's tenths of a thing -/
theorem tt_law {y : YS} (hy : yI y) {c k : Nat} {z : Int32} (hc : c < y_cn y) (hk : k < y_n y) (he : y_cu y k = nI c) :
    y_w y k * (if y_pl y k = nI 6 then nI 5 else if z = 0 then nI 2 * (nI 5 - y_pl y k) else nI 2 * y_pl y k) = t_tt y k z := by
  have hcn := hy.2.1
  obtain ⟨hkd, -, hcu⟩ := hy.2.2.2.1 k hk
  rcases hcu with ⟨e, -⟩ | ⟨c', q, hc', hq, e1, e2, hiff⟩
  · exact absurd (he.symm.trans e) (nI_ne4 (by omega))
  · have h6 : y_pl y k = nI 6 ↔ y_kd y k = nI 1 := by rw [e2, nI_eq (by omega) (by omega)]; exact hiff
    unfold t_tt
    by_cases h : y_kd y k = nI 1
    · rw [if_pos h, if_pos (h6.mpr h)]
    · rw [if_neg h, if_neg (fun q => h (h6.mp q))]
      by_cases hz : z = 0
      · rw [if_pos hz, if_pos hz, Int32.mul_assoc]
      · rw [if_neg hz, if_neg hz, Int32.mul_assoc]
