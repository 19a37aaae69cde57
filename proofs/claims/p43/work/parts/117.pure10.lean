/-! THE PREMISES GATHERED FOR THE BALANCE: class and reference take the same -/
theorem cG_gP {y : YS} {x : Int32} {k : Nat} (hy : yI y) (hk : k < y_n y) : cG y x k ↔ gP y x k := by
  obtain ⟨hkd, -, -⟩ := hy.2.2.2.1 k hk
  constructor
  · rintro ⟨h1, h2⟩
    exact ⟨h1, fun q => absurd (h2.symm.trans q) (by decide)⟩
  · rintro ⟨h1, h2⟩
    rcases hkd with h | h
    · exact ⟨h1, h.trans (by decide)⟩
    · exact absurd h h2
theorem gN_n {y : YS} {x : Int32} {k : Nat} (h : ¬ gP y x k) : gN y x (k + 1) = gN y x k := by
  show cN _ (k + 1) = cN _ k
  show cN _ k + (if decide (gP y x k) = true then 1 else 0) = cN _ k
  rw [if_neg (fun q => h (of_decide_eq_true q))]
  rfl
theorem cGn_gN {y : YS} {x : Int32} (hy : yI y) : ∀ k, k ≤ y_n y → gN y x k ≤ 6 → cGn y x k = gN y x k := by
  intro k
  induction k with
  | zero => intro _ _; rfl
  | succ k ih =>
    intro hk h6
    by_cases h : gP y x k
    · have e := gN_s h
      rw [cGn, ih (by omega) (by omega), if_pos ⟨(cG_gP hy (by omega)).mpr h, by omega⟩, e]
    · have e := gN_n h
      rw [cGn, ih (by omega) (by omega), if_neg (fun q => h ((cG_gP hy (by omega)).mp q.1)), e]
theorem cGw_gW {y : YS} {x : Int32} {w : Nat → Int32} (hy : yI y) : ∀ k, k ≤ y_n y → gN y x k ≤ 6 → cGw y x w k = gW y x w k := by
  intro k
  induction k with
  | zero => intro _ _; rfl
  | succ k ih =>
    intro hk h6
    by_cases h : gP y x k
    · have e := gN_s h
      have e2 := cGn_gN (x := x) hy k (by omega) (by omega)
      rw [cGw, gW, ih (by omega) (by omega), e2, if_pos ⟨(cG_gP hy (by omega)).mpr h, by omega⟩, if_pos h]
    · have e := gN_n h
      rw [cGw, gW, ih (by omega) (by omega), if_neg (fun q => h ((cG_gP hy (by omega)).mp q.1)), if_neg h]
/-- the weights that count are the same, whatever lay there before -/
theorem lsM_cg {w w' : Nat → Int32} : ∀ (d m : Nat) (t s : Int32), (∀ j, m ≤ j → j < m + d → w j = w' j) → lsM w d m t s = lsM w' d m t s := by
  intro d
  induction d with
  | zero => intro m t s _; rfl
  | succ d ih =>
    intro m t s h
    rw [lsM, lsM, h m (Nat.le_refl m) (by omega)]
    congr 1
    funext p
    exact ih (m + 1) _ _ (fun j h1 h2 => h j (by omega) (by omega))
