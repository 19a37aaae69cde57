/-! AT MOST SIX PREMISES ON A CART -/
theorem cN_zero {P : Nat → Bool} : ∀ n, (∀ k, k < n → P k = false) → cN P n = 0
  | 0, _ => rfl
  | n + 1, h => by
    have z := cN_zero n (fun k hk => h k (by omega))
    show cN P n + (if P n = true then 1 else 0) = 0
    rw [if_neg (by rw [h n (by omega)]; decide)]
    omega
theorem cN_one {P : Nat → Bool} : ∀ n, (∀ j k, j < k → k < n → P j = true → P k = true → False) → cN P n ≤ 1
  | 0, _ => Nat.zero_le _
  | n + 1, h => by
    show cN P n + (if P n = true then 1 else 0) ≤ 1
    by_cases e : P n = true
    · have z := cN_zero (P := P) n (fun k hk => by
        cases e2 : P k with
        | false => rfl
        | true => exact (h k n hk (by omega) e2 e).elim)
      rw [if_pos e]; omega
    · rw [if_neg e]; exact cN_one n (fun j k a b => h j k a (by omega))
theorem cN_split {P : Nat → Bool} {q : Nat → Nat} {B : Nat} : ∀ n, cN P n = cN (fun k => P k && decide (q k = B)) n + cN (fun k => P k && !decide (q k = B)) n
  | 0 => rfl
  | n + 1 => by
    have ih := cN_split (P := P) (q := q) (B := B) n
    show cN P n + (if P n = true then 1 else 0) = (cN (fun k => P k && decide (q k = B)) n + (if (P n && decide (q n = B)) = true then 1 else 0)) + (cN (fun k => P k && !decide (q k = B)) n + (if (P n && !decide (q n = B)) = true then 1 else 0))
    by_cases e : P n = true <;> by_cases e2 : q n = B <;> simp [e, e2] <;> omega
theorem pig {q : Nat → Nat} : ∀ (B n : Nat) (P : Nat → Bool), (∀ k, k < n → P k = true → q k < B) → (∀ j k, j < k → k < n → P j = true → P k = true → q j ≠ q k) → cN P n ≤ B := by
  intro B
  induction B with
  | zero =>
    intro n P h1 _
    exact Nat.le_of_eq (cN_zero n (fun k hk => by
      cases e : P k with
      | false => rfl
      | true => exact absurd (h1 k hk e) (Nat.not_lt_zero _)))
  | succ B ih =>
    intro n P h1 h2
    rw [cN_split (q := q) (B := B)]
    have a := cN_one (P := fun k => P k && decide (q k = B)) n (fun j k hj hk p1 p2 => by
      simp only [Bool.and_eq_true, decide_eq_true_eq] at p1 p2
      exact h2 j k hj hk p1.1 p2.1 (p1.2.trans p2.2.symm))
    have b := ih n (fun k => P k && !decide (q k = B)) (fun k hk p1 => by
      simp only [Bool.and_eq_true, Bool.not_eq_true', decide_eq_false_iff_not] at p1
      have := h1 k hk p1.1
      omega) (fun j k hj hk p1 p2 => by
      simp only [Bool.and_eq_true] at p1 p2
      exact h2 j k hj hk p1.1 p2.1)
    omega
theorem gN_6 {y : YS} {c : Nat} (hy : yI y) (hD : yD y) (hc : c < y_cn y) : gN y (nI c) (y_n y) ≤ 6 := by
  have hcn := hy.2.1
  have key : ∀ k, k < y_n y → gP y (nI c) k → ¬ y_cu y k = -4 ∧ ∃ q, q ≤ 5 ∧ y_pl y k = nI q := by
    intro k hk h
    obtain ⟨-, -, hcu⟩ := hy.2.2.2.1 k hk
    have h4 : ¬ y_cu y k = -4 := fun e => by
      have := nI_pos (n := c) (by omega)
      rw [← h.1, e] at this
      exact absurd (by decide) this
    rcases hcu with ⟨e, -⟩ | ⟨c', q, -, hq, -, hpl, hiff⟩
    · exact absurd e h4
    · have h6 : q ≠ 6 := fun e => h.2 (hiff.mp e)
      exact ⟨h4, q, by omega, hpl⟩
  refine pig (q := fun k => (y_pl y k).toNatClampNeg) 6 (y_n y) _ (fun k hk p1 => ?_) (fun j k hj hk p1 p2 e => ?_)
  · obtain ⟨-, q, hq, e⟩ := key k hk (of_decide_eq_true p1)
    show (y_pl y k).toNatClampNeg < 6
    rw [e, nI_clamp (by omega)]; omega
  · obtain ⟨-, q, hq, e1⟩ := key j (by omega) (of_decide_eq_true p1)
    obtain ⟨h4, q', hq', e2⟩ := key k hk (of_decide_eq_true p2)
    have e : (y_pl y j).toNatClampNeg = (y_pl y k).toNatClampNeg := e
    rw [e1, e2, nI_clamp (by omega), nI_clamp (by omega)] at e
    exact hD j k hj hk ((of_decide_eq_true p1 : gP y (nI c) j).1.trans (of_decide_eq_true p2 : gP y (nI c) k).1.symm) h4 (by rw [e1, e2, e])
