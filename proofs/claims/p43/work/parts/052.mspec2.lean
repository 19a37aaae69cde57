theorem nI_sub1 (n : Nat) : nI (n + 1) - nI 1 = nI n := pk_sub (Nat.le_add_left 1 n)
theorem zSwN {lo hi j : Nat} {x : Int32} (h : x.toInt < (lo : Int) ∨ (hi : Int) < x.toInt) (h1 : lo ≤ j) (h2 : j ≤ hi) (h3 : j < 2 ^ 31) : ¬ x = nI j := by
  intro q
  rw [q, nI_toInt h3] at h
  omega
theorem or_0 (x : Int32) : x ||| (0 : Int32) = x := by
  apply Int32.toBitVec_inj.mp
  rw [Int32.toBitVec_or]
  exact BitVec.or_zero
theorem rng_ex {x : Int32} {a b : Nat} (ha : a < 2 ^ 31) (hb : b < 2 ^ 31) (h : p_rng x (nI a) (nI b)) : ∃ j, (a ≤ j ∧ j ≤ b) ∧ x = nI j := by
  obtain ⟨h1, h2⟩ := h
  rw [Int32.lt_iff_toInt_lt, nI_toInt ha] at h1
  rw [Int32.lt_iff_toInt_lt, nI_toInt hb] at h2
  refine ⟨x.toInt.toNat, ⟨by omega, by omega⟩, ?_⟩
  apply Int32.toInt_inj.mp
  rw [nI_toInt (by omega)]
  omega
theorem oc_pn (y : YS) (x : Int32) : t_oc y x (nI 0) = nI (t_pn y x) := by
  unfold t_oc t_pn
  generalize y_n y = n
  induction n with
  | zero => rfl
  | succ n ih =>
    rw [sI, cN, ih]
    by_cases h : y_cu y n = x ∧ y_kd y n = 0
    · rw [if_pos (show y_cu y n = x ∧ y_kd y n = nI 0 from h), if_pos (decide_eq_true h), nI_add]
    · rw [if_neg (show ¬ (y_cu y n = x ∧ y_kd y n = nI 0) from h), if_neg (by rw [decide_eq_true_eq]; exact h)]
      exact Int32.add_zero _
theorem wix_lt2 {c n : Nat} {z : Int32} (h : c < n) : wix c z < 2 * n := by unfold wix; split <;> omega
theorem rng_out {z b : Int32} (h : ¬ p_rng z (nI 0) b) : z < 0 ∨ ¬ z ≤ b := by
  by_cases h1 : z < 0
  · exact Or.inl h1
  · by_cases h2 : z ≤ b
    · exact absurd ⟨h1, Int32.not_lt.mpr h2⟩ h
    · exact Or.inr h2
theorem rng_in2 {z b : Int32} (h : p_rng z (nI 0) b) : ¬ (z < 0 ∨ ¬ z ≤ b) := fun q => q.elim (fun q => h.1 q) (fun q => q (Int32.not_lt.mp h.2))
theorem rng_ne {x : Int32} {b j : Nat} (hb : b < 2 ^ 31) (hj : j ≤ b) (h : ¬ p_rng x (nI 0) (nI b)) : ¬ x = nI j := by
  intro q
  subst q
  exact h ⟨nI_pos (by omega), nI_nlt hj hb⟩
