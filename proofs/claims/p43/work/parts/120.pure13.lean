/-! WHAT IS GATHERED IS SMALL -/
theorem cGw_small {y : YS} {x : Int32} {w : Nat → Int32} (hW : yW y) : ∀ k, k ≤ y_n y → ∀ p, p < cGn y x k → ∃ v, v ≤ 9 ∧ cGw y x w k p = nI v := by
  intro k
  induction k with
  | zero => intro _ p hp; exact absurd hp (Nat.not_lt_zero _)
  | succ k ih =>
    intro hk p hp
    by_cases h : cG y x k ∧ cGn y x k < 6
    · rw [cGn, if_pos h] at hp
      rw [cGw, if_pos h]
      by_cases e : p = cGn y x k
      · obtain ⟨v, hv, ev⟩ := hW k (by omega) (h.1.2.trans (by decide))
        refine ⟨v, hv, ?_⟩
        unfold upd
        rw [if_pos e]; exact ev
      · obtain ⟨v, hv, ev⟩ := ih (by omega) p (by omega)
        refine ⟨v, hv, ?_⟩
        unfold upd
        rw [if_neg e]; exact ev
    · rw [cGn, if_neg h] at hp
      rw [cGw, if_neg h]
      exact ih (by omega) p hp
theorem wB_gat {y : YS} {x : Int32} {b : BS} (hW : yW y) : wB (gatB y x b) :=
  ⟨cGn_6 y x _, fun p hp => cGw_small hW _ (Nat.le_refl _) p hp⟩
