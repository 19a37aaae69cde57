/-! THE TENTHS TOLD IN TWO WAYS ARE THE SAME -/
theorem tt_sum {y : YS} (hy : yI y) {c k : Nat} (hc : c < y_cn y) (hk : k < y_n y) (he : y_cu y k = nI c) : t_tt y k (nI 0) + t_tt y k (nI 1) = nI 10 * y_w y k := by
  obtain ⟨hn, hcn, -, ht, -, -⟩ := hy
  obtain ⟨hkd, ⟨w, hw1, hw2, hw⟩, hcu⟩ := ht k hk
  unfold t_tt
  by_cases h1 : y_kd y k = nI 1
  · rw [if_pos h1, if_pos h1, hw]
    simp only [pk_mul, nI_add]
    exact congrArg nI (by omega)
  · rw [if_neg h1, if_neg h1]
    rcases hcu with ⟨h, -⟩ | ⟨c', q, hc', hq, hcu, hpl, hiff⟩
    · rw [he] at h
      have := nI_pos (n := c) (by omega)
      rw [h] at this
      exact absurd (by decide) this
    · have hq6 : q ≠ 6 := fun e => h1 (hiff.mp e)
      rw [hpl, hw, if_pos (show nI 0 = 0 by decide), if_neg (show ¬ nI 1 = 0 by decide), pk_sub (by omega)]
      simp only [pk_mul, nI_add]
      refine congrArg nI ?_
      rw [← Nat.mul_add, show 5 - q + q = 5 by omega]
      omega
theorem te_sum {y : YS} (hy : yI y) {c : Nat} (hc : c < y_cn y) : ∀ n, n ≤ y_n y →
    sI (fun k => if y_cu y k = nI c then t_tt y k (nI 0) else 0) n + sI (fun k => if y_cu y k = nI c then t_tt y k (nI 1) else 0) n
      = nI 10 * (sI (fun k => if y_cu y k = nI c ∧ y_kd y k = nI 0 then y_w y k else 0) n + sI (fun k => if y_cu y k = nI c ∧ y_kd y k = nI 1 then y_w y k else 0) n) := by
  intro n
  induction n with
  | zero => intro _; rfl
  | succ n ih =>
    intro hn
    have h := ih (by omega)
    have e : (if y_cu y n = nI c then t_tt y n (nI 0) else 0) + (if y_cu y n = nI c then t_tt y n (nI 1) else 0) = nI 10 * ((if y_cu y n = nI c ∧ y_kd y n = nI 0 then y_w y n else 0) + (if y_cu y n = nI c ∧ y_kd y n = nI 1 then y_w y n else 0)) := by
      by_cases he : y_cu y n = nI c
      · rw [if_pos he, if_pos he, tt_sum hy hc (by omega) he]
        obtain ⟨hkd, -, -⟩ := hy.2.2.2.1 n (by omega)
        rcases hkd with k0 | k1
        · rw [if_pos ⟨he, k0⟩, if_neg (fun q => absurd (k0.symm.trans q.2) (by decide)), Int32.add_zero]
        · rw [if_neg (fun q => absurd (k1.symm.trans q.2) (by decide)), if_pos ⟨he, k1⟩, Int32.zero_add]
      · rw [if_neg he, if_neg he, if_neg (fun q => he q.1), if_neg (fun q => he q.1)]; decide
    rw [sI, sI, sI, sI]
    generalize sI (fun k => if y_cu y k = nI c then t_tt y k (nI 0) else 0) n = A at h ⊢
    generalize sI (fun k => if y_cu y k = nI c then t_tt y k (nI 1) else 0) n = B at h ⊢
    generalize sI (fun k => if y_cu y k = nI c ∧ y_kd y k = nI 0 then y_w y k else 0) n = C at h ⊢
    generalize sI (fun k => if y_cu y k = nI c ∧ y_kd y k = nI 1 then y_w y k else 0) n = E at h ⊢
    generalize (if y_cu y n = nI c then t_tt y n (nI 0) else 0) = a at e ⊢
    generalize (if y_cu y n = nI c then t_tt y n (nI 1) else 0) = b at e ⊢
    generalize (if y_cu y n = nI c ∧ y_kd y n = nI 0 then y_w y n else 0) = f at e ⊢
    generalize (if y_cu y n = nI c ∧ y_kd y n = nI 1 then y_w y n else 0) = g at e ⊢
    calc A + a + (B + b) = (A + B) + (a + b) := by ac_rfl
      _ = nI 10 * (C + E) + nI 10 * (f + g) := by rw [h, e]
      _ = nI 10 * ((C + E) + (f + g)) := Int32.mul_add.symm
      _ = nI 10 * (C + f + (E + g)) := congrArg (nI 10 * ·) (by ac_rfl)
theorem to_te0 {y : YS} (hy : yI y) {c : Nat} (hc : c < y_cn y) : t_to y (nI c) (nI 0) = t_te y (nI c) (nI 0) := by
  have h := te_sum hy hc (y_n y) (Nat.le_refl _)
  have h2 : t_te y (nI c) (nI 0) + t_te y (nI c) (nI 1) = nI 10 * t_all y (nI c) := h
  unfold t_to
  rw [if_pos (show nI 0 = 0 by decide), ← h2, Int32.add_sub_cancel]
theorem to_te1 {y : YS} (hy : yI y) {c : Nat} (hc : c < y_cn y) : t_to y (nI c) (nI 1) = t_te y (nI c) (nI 1) := by
  have h := te_sum hy hc (y_n y) (Nat.le_refl _)
  have h2 : t_te y (nI c) (nI 0) + t_te y (nI c) (nI 1) = nI 10 * t_all y (nI c) := h
  unfold t_to
  rw [if_neg (show ¬ nI 1 = 0 by decide), ← h2, Int32.add_comm, Int32.add_sub_cancel]
