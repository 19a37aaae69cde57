/-! CLASS AND REFERENCE SIDE BY SIDE: a swap -/
theorem yD_un {y : YS} (hd : yD y) {i j : Nat} (hi : i < y_n y) (hj : j < y_n y) (he : y_cu y i = y_cu y j) (hp : y_pl y i = y_pl y j) (hne : ¬ y_cu y j = -4) : i = j := by
  rcases Nat.lt_trichotomy i j with h | h | h
  · exact absurd hp (hd i j h hj he hne)
  · exact h
  · exact absurd hp.symm (hd j i h hi he.symm (he ▸ hne))
theorem setAt_4 (f : Nat → Int32) (w : Int32) : setAt f (-4) w = f := if_pos rfl
theorem setAt_k {f : Nat → Int32} {k : Nat} {w : Int32} (hk : k < 2 ^ 31) : setAt f (nI k) w = upd f k w := by
  unfold setAt; rw [if_neg (nI_ne4 hk), nI_clamp hk]
theorem setG_4 (f : Nat → Int32) (w : Int32) : setG f (-4) w = f := if_pos rfl
theorem setG_k {f : Nat → Int32} {k : Nat} {w : Int32} (hk : k < 2 ^ 31) : setG f (nI k) w = upd f (5 + 4 * k + 3) w := by
  unfold setG; rw [if_neg (nI_ne4 hk)]
  have : ixI (nI k) = k := nI_clamp hk
  rw [this]
/-- what a swap does to the places -/
theorem sw_pl {y : YS} {c i j : Nat} (hd : yD y) (hn : y_n y ≤ 12) (hc : c < 4) (hij : ¬ nI i = nI j) {k : Nat} (hk : k < y_n y) :
    setAt (setAt (y_pl y) (t_at y (nI c) (nI i)) (nI j)) (t_at y (nI c) (nI j)) (nI i) k = if y_cu y k = nI c ∧ y_pl y k = nI i then nI j else if y_cu y k = nI c ∧ y_pl y k = nI j then nI i else y_pl y k := by
  have one : ∀ p, t_at y (nI c) (nI p) = -4 ∧ (∀ j, j < y_n y → ¬ (y_cu y j = nI c ∧ y_pl y j = nI p)) ∨ ∃ a, a < y_n y ∧ t_at y (nI c) (nI p) = nI a ∧ ∀ k, k < y_n y → ((y_cu y k = nI c ∧ y_pl y k = nI p) ↔ k = a) := by
    intro p
    rcases at_ex y (nI c) (nI p) with e | ⟨a, ha, e⟩
    · exact Or.inl ⟨e, at_no hn e⟩
    · refine Or.inr ⟨a, ha, e, fun k hk => ⟨fun q => ?_, fun q => q ▸ at_sp hn ha e⟩⟩
      have s := at_sp hn ha e
      exact yD_un hd hk ha (q.1.trans s.1.symm) (q.2.trans s.2.symm) (by rw [s.1]; exact nI_ne4 (by omega))
  rcases one i with ⟨e1, n1⟩ | ⟨a, ha, e1, n1⟩ <;> rcases one j with ⟨e2, n2⟩ | ⟨b, hb, e2, n2⟩ <;> rw [e1, e2]
  · rw [setAt_4, setAt_4, if_neg (n1 k hk), if_neg (n2 k hk)]
  · rw [setAt_4, setAt_k (by omega), if_neg (n1 k hk)]
    unfold upd
    by_cases e : k = b
    · rw [if_pos e, if_pos ((n2 k hk).mpr e)]
    · rw [if_neg e, if_neg (fun q => e ((n2 k hk).mp q))]
  · rw [setAt_4, setAt_k (by omega), if_neg (c := y_cu y k = nI c ∧ y_pl y k = nI j) (n2 k hk)]
    unfold upd
    by_cases e : k = a
    · rw [if_pos e, if_pos ((n1 k hk).mpr e)]
    · rw [if_neg e, if_neg (fun q => e ((n1 k hk).mp q))]
  · rw [setAt_k (by omega), setAt_k (by omega)]
    have hab : a ≠ b := by
      intro q
      have s1 := (n1 a ha).mpr rfl
      have s2 := (n2 b hb).mpr rfl
      rw [q] at s1
      exact hij (s1.2.symm.trans s2.2)
    unfold upd
    by_cases e : k = b
    · rw [if_pos e, if_neg (fun q => hab ((n1 k hk).mp q ▸ e)), if_pos ((n2 k hk).mpr e)]
    · rw [if_neg e]
      by_cases e3 : k = a
      · rw [if_pos e3, if_pos ((n1 k hk).mpr e3)]
      · rw [if_neg e3, if_neg (fun q => e3 ((n1 k hk).mp q)), if_neg (fun q => e ((n2 k hk).mp q))]
theorem RelI_set {y : YS} {g : Nat → Int32} {a : Int32} {w : Nat} (hB : y_n y ≤ 12 ∧ y_cn y ≤ 4 ∧ y_rn y ≤ 5) (h : RelI y g) (ha : a = -4 ∨ ∃ k, k < y_n y ∧ a = nI k ∧ ¬ y_cu y k = -4) (hw : w ≤ 6) : RelI (yMove y (y_cu y) (setAt (y_pl y) a (nI w))) (setG g a (nI w)) := by
  rcases ha with rfl | ⟨k, hk, rfl, hne⟩
  · rw [setAt_4, setG_4]; exact h
  · have := hB.1
    rw [setAt_k (by omega), setG_k (by omega)]; exact RelI_pl hB h hk hne hw
theorem setG_no {y : YS} {g : Nat → Int32} {a w : Int32} (hn : y_n y ≤ 12) (ha : a = -4 ∨ ∃ k, k < y_n y ∧ a = nI k ∧ ¬ y_cu y k = -4) {j : Nat} (hj : j < 5 ∨ 53 ≤ j) : setG g a w j = g j := by
  rcases ha with rfl | ⟨k, hk, rfl, -⟩
  · rw [setG_4]
  · rw [setG_k (by omega), upd_ne (by omega)]
theorem im_pos {y : YS} (hy : yI y) {c : Nat} (hc : c < y_cn y) : ¬ t_im y (nI c) < 0 := by
  obtain ⟨a, ha, ea⟩ := te_nat (z := nI 0) hy hc
  obtain ⟨b, hb, eb⟩ := te_nat (z := nI 1) hy hc
  unfold t_im
  rw [ea, eb]
  split
  · rename_i h; exact Int32.not_lt.mpr h
  · rename_i h
    have h2 : ¬ b ≤ a := fun q => h (by
      have e0 : (0 : Int32).toInt = 0 := by decide
      rw [Int32.le_iff_toInt_le, pk_sub_toInt (by omega) (by omega), e0]; omega)
    rw [i_ssa, Int32.zero_sub, Int32.add_comm, ← Int32.sub_eq_add_neg, pk_sub (by omega)]
    exact nI_pos (by omega)
theorem sw5_iff {a b : Int32} : (a < 0 ∨ nI 5 < a ∨ b < 0 ∨ ¬ b ≤ nI 5) ↔ (¬ p_rng a (nI 0) (nI 5) ∨ ¬ p_rng b (nI 0) (nI 5)) := by
  have e : (b < 0 ∨ ¬ b ≤ nI 5) ↔ ¬ p_rng b (nI 0) (nI 5) := rng_iff (a := nI 0)
  have e2 : ¬ p_rng a (nI 0) (nI 5) ↔ (a < 0 ∨ nI 5 < a) := rng_no
  rw [← e, e2, or_assoc]
theorem st_swap {y : YS} {rs : RS} {v : MS} {x1 x2 x3 : Int32} (hJ : RelJ y (m_g v) (m_fl v)) : Spp y rs v (f_swap y rs x1 x2 x3) (F_swap y v x1 x2 x3) := by
  obtain ⟨hI, hF, hy, hd, hw, hc, hf⟩ := hJ
  have h4 := hy.2.1
  have hn := hy.1
  have h5r := hy.2.2.1
  unfold f_swap F_swap
  by_cases h1 : ¬ p_in x1 (y_cn y)
  · rw [if_pos h1, if_pos h1]; exact Spp_bad (Or.inl rfl)
  rw [if_neg h1, if_neg h1]
  by_cases h2 : ¬ p_rng x2 (nI 0) (nI 5) ∨ ¬ p_rng x3 (nI 0) (nI 5)
  · rw [if_pos (sw5_iff.mpr h2), if_pos h2]; exact Spp_bad (Or.inr rfl)
  rw [if_neg (fun q => h2 (sw5_iff.mp q)), if_neg h2]
  obtain ⟨c, hcc, rfl⟩ := p_in_ex (n := y_cn y) (by omega) (Decidable.not_not.mp h1)
  obtain ⟨i, hi, rfl⟩ := rng_ex (by decide) (by decide) (Decidable.not_not.mp fun q => h2 (Or.inl q))
  obtain ⟨j, hj, rfl⟩ := rng_ex (by decide) (by decide) (Decidable.not_not.mp fun q => h2 (Or.inr q))
  by_cases h3 : nI i = nI j
  · rw [if_pos h3, if_pos h3]; exact Spp_ref (by decide)
  rw [if_neg h3, if_neg h3]
  have P : ∀ k, k < y_n y → _ := fun k hk => sw_pl (k := k) hd hn (show c < 4 by omega) h3 hk
  have at' : ∀ p, t_at y (nI c) (nI p) = -4 ∨ ∃ k, k < y_n y ∧ t_at y (nI c) (nI p) = nI k ∧ ¬ y_cu y k = -4 := by
    intro p
    rcases at_ex y (nI c) (nI p) with e | ⟨k, hk, e⟩
    · exact Or.inl e
    · exact Or.inr ⟨k, hk, e, by rw [(at_sp hn hk e).1]; exact nI_ne4 (by omega)⟩
  have hI2 := RelI_set (y := yMove y (y_cu y) (setAt (y_pl y) (t_at y (nI c) (nI i)) (nI j))) (a := t_at y (nI c) (nI j)) (w := i) ⟨hn, h4, h5r⟩ (RelI_set ⟨hn, h4, h5r⟩ hI (at' i) (by omega)) (at' j) (by omega)
  have hy' : yI (yMove y (y_cu y) (setAt (setAt (y_pl y) (t_at y (nI c) (nI i)) (nI j)) (t_at y (nI c) (nI j)) (nI i))) := by
    obtain ⟨c1, c2, c3, c4, c5, c6⟩ := hy
    refine ⟨c1, c2, c3, fun k hk => ?_, c5, c6⟩
    have hk : k < y_n y := hk
    obtain ⟨d1, d2, d3⟩ := c4 k hk
    refine ⟨d1, d2, ?_⟩
    show (y_cu y k = -4 ∧ setAt (setAt (y_pl y) (t_at y (nI c) (nI i)) (nI j)) (t_at y (nI c) (nI j)) (nI i) k = -4) ∨ ∃ c' q', c' < y_cn y ∧ q' ≤ 6 ∧ y_cu y k = nI c' ∧ setAt (setAt (y_pl y) (t_at y (nI c) (nI i)) (nI j)) (t_at y (nI c) (nI j)) (nI i) k = nI q' ∧ (q' = 6 ↔ y_kd y k = nI 1)
    rw [P k hk]
    rcases d3 with ⟨e1, e2⟩ | ⟨c', q', h1, h2, e1, e2, e3⟩
    · refine Or.inl ⟨e1, ?_⟩
      rw [if_neg (fun q => nI_ne4 (k := c) (by omega) (q.1.symm.trans e1)), if_neg (fun q => nI_ne4 (k := c) (by omega) (q.1.symm.trans e1)), e2]
    · by_cases a1 : y_cu y k = nI c ∧ y_pl y k = nI i
      · rw [if_pos a1]
        have : q' = i := (nI_eq (by omega) (by omega)).mp (e2.symm.trans a1.2)
        exact Or.inr ⟨c', j, h1, by omega, e1, rfl, ⟨fun q => by omega, fun q => by have := e3.mpr q; omega⟩⟩
      · rw [if_neg a1]
        by_cases a2 : y_cu y k = nI c ∧ y_pl y k = nI j
        · rw [if_pos a2]
          have : q' = j := (nI_eq (by omega) (by omega)).mp (e2.symm.trans a2.2)
          exact Or.inr ⟨c', i, h1, by omega, e1, rfl, ⟨fun q => by omega, fun q => by have := e3.mpr q; omega⟩⟩
        · rw [if_neg a2]
          exact Or.inr ⟨c', q', h1, h2, e1, e2, e3⟩
  refine Spp_ok (y' := yMove y (y_cu y) (setAt (setAt (y_pl y) (t_at y (nI c) (nI i)) (nI j)) (t_at y (nI c) (nI j)) (nI i))) (im_pos hy' hcc) (fun p hp => ?_) (fun _ _ => rfl) ⟨hI2, ?_, hy', ?_, hw, hc, hf⟩
  · rw [setG_no hn (at' j) (by omega), setG_no hn (at' i) (by omega)]
  · exact RelF_th hF (fun p hp => by rw [setG_no hn (at' j) (by omega), setG_no hn (at' i) (by omega)])
  · intro p r hpr (hr : r < y_n y) he hne
    have he : y_cu y p = y_cu y r := he
    have hne : ¬ y_cu y r = -4 := hne
    show ¬ setAt (setAt (y_pl y) (t_at y (nI c) (nI i)) (nI j)) (t_at y (nI c) (nI j)) (nI i) p = setAt (setAt (y_pl y) (t_at y (nI c) (nI i)) (nI j)) (t_at y (nI c) (nI j)) (nI i) r
    rw [P p (by omega), P r hr, he]
    have hb := hd p r hpr hr he hne
    by_cases a0 : y_cu y r = nI c
    · by_cases p1 : y_pl y p = nI i
      · rw [if_pos ⟨a0, p1⟩]
        by_cases r1 : y_pl y r = nI i
        · exact absurd (p1.trans r1.symm) hb
        · rw [if_neg (fun q => r1 q.2)]
          by_cases r2 : y_pl y r = nI j
          · rw [if_pos ⟨a0, r2⟩]; exact fun q => h3 q.symm
          · rw [if_neg (fun q => r2 q.2)]; exact fun q => r2 q.symm
      · rw [if_neg (fun q => p1 q.2)]
        by_cases p2 : y_pl y p = nI j
        · rw [if_pos ⟨a0, p2⟩]
          by_cases r1 : y_pl y r = nI i
          · rw [if_pos ⟨a0, r1⟩]; exact h3
          · rw [if_neg (fun q => r1 q.2)]
            by_cases r2 : y_pl y r = nI j
            · exact absurd (p2.trans r2.symm) hb
            · rw [if_neg (fun q => r2 q.2)]; exact fun q => r1 q.symm
        · rw [if_neg (fun q => p2 q.2)]
          by_cases r1 : y_pl y r = nI i
          · rw [if_pos ⟨a0, r1⟩]; exact p2
          · rw [if_neg (fun q => r1 q.2)]
            by_cases r2 : y_pl y r = nI j
            · rw [if_pos ⟨a0, r2⟩]; exact p1
            · rw [if_neg (fun q => r2 q.2)]; exact hb
    · rw [if_neg (fun q => a0 q.1), if_neg (fun q => a0 q.1), if_neg (fun q => a0 q.1), if_neg (fun q => a0 q.1)]; exact hb
