/-! CLASS AND REFERENCE SIDE BY SIDE: things are put on carts, and taken off -/
theorem i_arc (a b c : Int32) : a + b + c = a + c + b := by rw [Int32.add_assoc, Int32.add_comm b c, ← Int32.add_assoc]
theorem sI_chg {f f' : Nat → Int32} {k : Nat} : ∀ {n : Nat}, k < n → (∀ j, j < n → j ≠ k → f' j = f j) → sI f' n + f k = sI f n + f' k
  | 0, h, _ => absurd h (Nat.not_lt_zero _)
  | n + 1, h, hh => by
    rw [sI, sI]
    by_cases e : k = n
    · subst e
      rw [sI_cg (f := f') (g := f) (fun j hj => hh j (by omega) (by omega))]
      exact i_arc _ _ _
    · have := sI_chg (f := f) (f' := f') (k := k) (n := n) (by omega) (fun j hj hne => hh j (by omega) hne)
      rw [hh n (Nat.lt_succ_self n) (fun q => e q.symm), i_arc, this, i_arc]
theorem wo_move {y : YS} {cu pl : Nat → Int32} {k : Nat} (hk : k < y_n y) (hcu : ∀ j, j ≠ k → cu j = y_cu y j) (x z : Int32) : t_wo (yMove y cu pl) x z + (if y_cu y k = x ∧ y_kd y k = z then y_w y k else 0) = t_wo y x z + (if cu k = x ∧ y_kd y k = z then y_w y k else 0) :=
  sI_chg (f := fun k => if y_cu y k = x ∧ y_kd y k = z then y_w y k else 0) (f' := fun k => if cu k = x ∧ y_kd y k = z then y_w y k else 0) hk (fun j _ hj => by
    show (if cu j = x ∧ y_kd y j = z then y_w y j else 0) = _
    rw [hcu j hj])
theorem fst_no {q : Nat → Bool} : ∀ {n : Nat}, ¬ fst q n < n → ∀ j, j < n → q j = false
  | 0, _, j, hj => absurd hj (Nat.not_lt_zero _)
  | n + 1, h, j, hj => by
    unfold fst at h
    by_cases h1 : fst q n < n
    · rw [if_pos h1] at h; omega
    · rw [if_neg h1] at h
      have h2 : ¬ q n = true := fun e => by rw [if_pos e] at h; omega
      by_cases e : j = n
      · subst e; exact Bool.eq_false_iff.mpr h2
      · exact fst_no h1 j (by omega)
theorem fst_is {q : Nat → Bool} : ∀ {n : Nat}, fst q n < n → q (fst q n) = true
  | 0, h => absurd h (Nat.not_lt_zero _)
  | n + 1, h => by
    unfold fst at h ⊢
    by_cases h1 : fst q n < n
    · rw [if_pos h1]; exact fst_is h1
    · rw [if_neg h1] at h ⊢
      by_cases h2 : q n = true
      · rw [if_pos h2]; exact h2
      · rw [if_neg h2] at h; omega
theorem at_no {y : YS} {x z : Int32} (hn : y_n y ≤ 12) (h : t_at y x z = -4) : ∀ j, j < y_n y → ¬ (y_cu y j = x ∧ y_pl y j = z) := by
  intro j hj q
  unfold t_at atI at h
  split at h
  · exact nI_ne4 (by omega) h
  · rename_i hl
    exact of_decide_eq_false (fst_no hl j hj) q
theorem at_sp {y : YS} {x z : Int32} {k : Nat} (hn : y_n y ≤ 12) (hk : k < y_n y) (h : t_at y x z = nI k) : y_cu y k = x ∧ y_pl y k = z := by
  unfold t_at atI at h
  split at h
  · rename_i hl
    rw [nI_eq (by omega) (by omega)] at h
    have := fst_is hl
    rw [h] at this
    exact of_decide_eq_true this
  · exact absurd h (nI_m4 (by omega))
theorem RelF_th {y : YS} {cu pl : Nat → Int32} {g g' : Nat → Int32} {fl : Nat → UInt32} (h : RelF y g fl) (u : ∀ j, j = 3 ∨ j = 4 ∨ 53 ≤ j → g' j = g j) : RelF (yMove y cu pl) g' fl := by
  obtain ⟨b1, b2, b3, b4, b5, b6, b7⟩ := h
  exact ⟨b1, b2, b3, (u 3 (by omega)).trans b4, (u 4 (by omega)).trans b5, fun c hc => (u _ (by omega)).trans (b6 c hc), fun r hr => (u _ (by omega)).trans (b7 r hr)⟩
theorem yI_put {y : YS} (hy : yI y) {k c q : Nat} (hcc : c < y_cn y) (hq : q ≤ 6) (hkq : q = 6 ↔ y_kd y k = nI 1) : yI (yMove y (upd (y_cu y) k (nI c)) (upd (y_pl y) k (nI q))) := by
  obtain ⟨c1, c2, c3, c4, c5, c6⟩ := hy
  refine ⟨c1, c2, c3, fun j hj => ?_, c5, c6⟩
  obtain ⟨d1, d2, d3⟩ := c4 j hj
  refine ⟨d1, d2, ?_⟩
  show (upd (y_cu y) k (nI c) j = -4 ∧ upd (y_pl y) k (nI q) j = -4) ∨ ∃ c' q', c' < y_cn y ∧ q' ≤ 6 ∧ upd (y_cu y) k (nI c) j = nI c' ∧ upd (y_pl y) k (nI q) j = nI q' ∧ (q' = 6 ↔ y_kd y j = nI 1)
  by_cases e : j = k
  · subst e; rw [upd_same, upd_same]; exact Or.inr ⟨c, q, hcc, hq, rfl, rfl, hkq⟩
  · rw [upd_ne e, upd_ne e]; exact d3
theorem yI_off {y : YS} (hy : yI y) {k : Nat} : yI (yMove y (upd (y_cu y) k (-4)) (upd (y_pl y) k (-4))) := by
  obtain ⟨c1, c2, c3, c4, c5, c6⟩ := hy
  refine ⟨c1, c2, c3, fun j hj => ?_, c5, c6⟩
  obtain ⟨d1, d2, d3⟩ := c4 j hj
  refine ⟨d1, d2, ?_⟩
  show (upd (y_cu y) k (-4) j = -4 ∧ upd (y_pl y) k (-4) j = -4) ∨ ∃ c' q', c' < y_cn y ∧ q' ≤ 6 ∧ upd (y_cu y) k (-4) j = nI c' ∧ upd (y_pl y) k (-4) j = nI q' ∧ (q' = 6 ↔ y_kd y j = nI 1)
  by_cases e : j = k
  · subst e; rw [upd_same, upd_same]; exact Or.inl ⟨rfl, rfl⟩
  · rw [upd_ne e, upd_ne e]; exact d3
theorem nI_sub_le {a b : Nat} (ha : a < 2 ^ 30) (hb : b < 2 ^ 30) : nI a - nI b ≤ 0 ↔ a ≤ b := by
  have e0 : (0 : Int32).toInt = 0 := by decide
  rw [Int32.le_iff_toInt_le, pk_sub_toInt ha hb, e0]
  omega
theorem all_nat {y : YS} (hy : yI y) (x : Int32) : ∃ t, t ≤ 1296 ∧ t_all y x = nI t := by
  obtain ⟨a, ha, ea⟩ := wo_nat hy x (nI 0)
  obtain ⟨b, hb, eb⟩ := wo_nat hy x (nI 1)
  exact ⟨a + b, by omega, by show t_wo y x (nI 0) + t_wo y x (nI 1) = _; rw [ea, eb, nI_add]⟩
theorem wo1_0 {y : YS} (hy : yI y) {c : Nat} (hc : c < y_cn y) (h : t_at y (nI c) (nI 6) = -4) : t_wo y (nI c) (nI 1) = nI 0 := by
  unfold t_wo
  refine sI_0 (fun k hk => if_neg (fun q => ?_))
  have h2 := hy.2.1
  obtain ⟨-, -, hh⟩ := hy.2.2.2.1 k hk
  rcases hh with ⟨e, -⟩ | ⟨c', q', hc', -, e, e2, e3⟩
  · rw [q.1] at e; exact nI_ne4 (by omega) e
  · have e4 := e3.mpr q.2
    subst e4
    exact at_no hy.1 h k hk ⟨q.1, e2⟩
theorem yD_put {y : YS} {k c q : Nat} (hc : c < 4) (hk : k < y_n y) (hd : yD y) (hn : y_n y ≤ 12) (h : t_at y (nI c) (nI q) = -4) : yD (yMove y (upd (y_cu y) k (nI c)) (upd (y_pl y) k (nI q))) := by
  intro i j hij (hj : j < y_n y) he hne
  have he : upd (y_cu y) k (nI c) i = upd (y_cu y) k (nI c) j := he
  have hne : ¬ upd (y_cu y) k (nI c) j = -4 := hne
  show ¬ upd (y_pl y) k (nI q) i = upd (y_pl y) k (nI q) j
  have hno := at_no hn h
  by_cases e1 : i = k
  · subst e1
    rw [upd_same, upd_ne (show j ≠ i by omega)] at he
    rw [upd_same, upd_ne (show j ≠ i by omega)]
    exact fun e => hno j hj ⟨he.symm, e.symm⟩
  · by_cases e2 : j = k
    · subst e2
      rw [upd_same, upd_ne e1] at he
      rw [upd_same, upd_ne e1]
      exact fun e => hno i (by omega) ⟨he, e⟩
    · rw [upd_ne e1, upd_ne e2] at he
      rw [upd_ne e2] at hne
      rw [upd_ne e1, upd_ne e2]
      exact hd i j hij hj he hne
theorem yD_off {y : YS} {k : Nat} (hd : yD y) : yD (yMove y (upd (y_cu y) k (-4)) (upd (y_pl y) k (-4))) := by
  intro i j hij (hj : j < y_n y) he hne
  have he2 : upd (y_cu y) k (-4) i = upd (y_cu y) k (-4) j := he
  have hne2 : ¬ upd (y_cu y) k (-4) j = -4 := hne
  show ¬ upd (y_pl y) k (-4) i = upd (y_pl y) k (-4) j
  by_cases e2 : j = k
  · rw [e2] at hne2; exact absurd (upd_same _ _ _) hne2
  · rw [upd_ne e2] at he2
    rw [upd_ne e2] at hne2
    rw [upd_ne e2]
    by_cases e1 : i = k
    · rw [e1, upd_same] at he2; exact absurd he2.symm hne2
    · rw [upd_ne e1] at he2
      rw [upd_ne e1]
      exact hd i j hij hj he2 hne2
theorem yC_put {y : YS} {k c q : Nat} (hy : yI y) (hc : yC y) (hcc : c < y_cn y) (hk : k < y_n y) (h3 : y_cu y k = -4) (hkq : q = 6 ↔ y_kd y k = nI 1) (h5 : t_at y (nI c) (nI q) = -4) (h6 : ¬ (y_kd y k = nI 1 ∧ ¬ y_w y k - t_wo y (nI c) (nI 0) ≤ 0)) : yC (yMove y (upd (y_cu y) k (nI c)) (upd (y_pl y) k (nI q))) := by
  intro d (hd : d < y_cn y)
  have h4 := hy.2.1
  have m : ∀ z, t_wo (yMove y (upd (y_cu y) k (nI c)) (upd (y_pl y) k (nI q))) (nI d) z = t_wo y (nI d) z + (if nI c = nI d ∧ y_kd y k = z then y_w y k else 0) := by
    intro z
    have := wo_move (y := y) (cu := upd (y_cu y) k (nI c)) (pl := upd (y_pl y) k (nI q)) hk (fun j hj => upd_ne hj) (nI d) z
    rw [if_neg (fun q => nI_m4 (c := d) (by omega) (h3.symm.trans q.1)), upd_same] at this
    rw [← this]; exact (Int32.add_zero _).symm
  show t_wo (yMove y (upd (y_cu y) k (nI c)) (upd (y_pl y) k (nI q))) (nI d) (nI 1) ≤ t_wo (yMove y (upd (y_cu y) k (nI c)) (upd (y_pl y) k (nI q))) (nI d) (nI 0)
  rw [m, m]
  by_cases e : c = d
  · subst e
    obtain ⟨hkd, ⟨W, hW1, hW2, eW⟩, -⟩ := hy.2.2.2.1 k hk
    obtain ⟨a, ha, ea⟩ := wo_nat hy (nI c) (nI 1)
    obtain ⟨b, hb, eb⟩ := wo_nat hy (nI c) (nI 0)
    have hab := hc c hcc
    rw [ea, eb, nI_leI (by omega) (by omega)] at hab
    rcases hkd with e0 | e1
    · rw [if_neg (fun q => by rw [e0] at q; exact absurd q.2 (by decide)), if_pos ⟨rfl, e0⟩, ea, eb, eW, Int32.add_zero, nI_add, nI_leI (by omega) (by omega)]; omega
    · have q6 := hkq.mpr e1
      subst q6
      have z1 := wo1_0 hy hcc h5
      have h7 : y_w y k - t_wo y (nI c) (nI 0) ≤ 0 := Decidable.not_not.mp fun q => h6 ⟨e1, q⟩
      rw [eb, eW, nI_sub_le (by omega) (by omega)] at h7
      rw [if_pos ⟨rfl, e1⟩, if_neg (fun q => by rw [e1] at q; exact absurd q.2 (by decide)), z1, eb, eW, Int32.add_zero, nI_add, nI_leI (by omega) (by omega)]; omega
  · have ne : ¬ nI c = nI d := fun q => e ((nI_eq (by omega) (by omega)).mp q)
    rw [if_neg (fun q => ne q.1), if_neg (fun q => ne q.1), Int32.add_zero, Int32.add_zero]
    exact hc d hd
theorem st_put {y : YS} {rs : RS} {v : MS} {x1 x2 x3 : Int32} (hJ : RelJ y (m_g v) (m_fl v)) : Spp y rs v (f_put y rs x1 x2 x3) (F_put y v x1 x2 x3) := by
  obtain ⟨hI, hF, hy, hd, hw, hc, hf⟩ := hJ
  have h4 := hy.2.1
  have hn := hy.1
  have h5r := hy.2.2.1
  unfold f_put F_put
  by_cases h1 : ¬ p_in x1 (y_n y) ∨ ¬ p_in x2 (y_cn y)
  · rw [if_pos h1, if_pos h1]; exact Spp_bad (Or.inl rfl)
  rw [if_neg h1, if_neg h1]
  by_cases h2 : p_rng x3 (nI 0) (nI 6)
  · rw [if_neg (rng_in2 h2), ite_nn h2]
    obtain ⟨k, hk, rfl⟩ := p_in_ex (n := y_n y) (by omega) (Decidable.not_not.mp fun q => h1 (Or.inl q))
    obtain ⟨c, hcc, rfl⟩ := p_in_ex (n := y_cn y) (by omega) (Decidable.not_not.mp fun q => h1 (Or.inr q))
    obtain ⟨q, hq, rfl⟩ := rng_ex (by decide) (by decide) h2
    have e1 : (nI k).toNatClampNeg = k := nI_clamp (by omega)
    simp only [ixI, e1]
    by_cases h3 : ¬ y_cu y k = -4
    · rw [if_pos h3, if_pos h3]; exact Spp_ref (by decide)
    rw [if_neg h3, if_neg h3]
    by_cases h4' : ¬ (y_kd y k = nI 1 ↔ nI q = nI 6)
    · rw [if_pos h4', if_pos h4']; exact Spp_ref (by decide)
    rw [if_neg h4', if_neg h4']
    by_cases h5 : ¬ t_at y (nI c) (nI q) = -4
    · rw [if_pos h5, if_pos h5]; exact Spp_ref (by decide)
    rw [if_neg h5, if_neg h5]
    by_cases h6 : y_kd y k = nI 1 ∧ ¬ y_w y k - t_wo y (nI c) (nI 0) ≤ 0
    · rw [if_pos h6, if_pos h6]; exact Spp_ref (by decide)
    rw [if_neg h6, if_neg h6]
    have h3 := Decidable.not_not.mp h3
    have h5 := Decidable.not_not.mp h5
    have hkq : q = 6 ↔ y_kd y k = nI 1 := by
      rw [Decidable.not_not.mp h4', nI_eq (by omega) (by decide)]
    have hy' := yI_put (k := k) (c := c) (q := q) hy hcc hq.2 hkq
    obtain ⟨t, ht, et⟩ := all_nat hy' (nI c)
    refine Spp_ok (y' := yMove y (upd (y_cu y) k (nI c)) (upd (y_pl y) k (nI q))) (by rw [et]; exact nI_pos (by omega)) (fun j hj => ?_) (fun _ _ => rfl) ⟨?_, ?_, hy', yD_put (by omega) hk hd hn h5, hw, yC_put hy hc hcc hk h3 hkq h5 h6, hf⟩
    · rw [upd_ne (by omega), upd_ne (by omega)]
    · rw [nI_add]; exact RelI_put ⟨hn, h4, h5r⟩ hI hk (by omega) hq.2
    · exact RelF_th hF (fun j hj => by rw [upd_ne (by omega), upd_ne (by omega)])
  · rw [if_pos (rng_out h2), if_pos h2]; exact Spp_bad (Or.inr rfl)
theorem RelI_off {y : YS} {g : Nat → Int32} (hB : y_n y ≤ 12 ∧ y_cn y ≤ 4 ∧ y_rn y ≤ 5) (h : RelI y g) {k : Nat} (hk : k < y_n y) : RelI (yMove y (upd (y_cu y) k (-4)) (upd (y_pl y) k (-4))) (upd (upd g (5 + 4 * k + 2) (nI 0)) (5 + 4 * k + 3) (nI 0)) := by
  have u : ∀ j, j ≠ 5 + 4 * k + 2 → j ≠ 5 + 4 * k + 3 → upd (upd g (5 + 4 * k + 2) (nI 0)) (5 + 4 * k + 3) (nI 0) j = g j := fun j h1 h2 => by rw [upd_ne h2, upd_ne h1]
  obtain ⟨a1, a2, a3, a4, a5, a6⟩ := h
  have hn := hB.1
  refine ⟨by rw [u 0 (by omega) (by omega)]; exact a1, by rw [u 1 (by omega) (by omega)]; exact a2, by rw [u 2 (by omega) (by omega)]; exact a3, fun j (hj : j < y_n y) => ?_, fun d (hd : d < y_cn y) => by rw [u _ (by omega) (by omega)]; exact a5 d hd, fun r (hr : r < y_rn y) => ?_⟩
  · obtain ⟨d1, d2, d3⟩ := a4 j hj
    refine ⟨by rw [u _ (by omega) (by omega)]; exact d1, by rw [u _ (by omega) (by omega)]; exact d2, ?_⟩
    show (upd (y_cu y) k (-4) j = -4 ∧ upd (y_pl y) k (-4) j = -4 ∧ _) ∨ ∃ c q, c < 4 ∧ q ≤ 6 ∧ upd (y_cu y) k (-4) j = nI c ∧ upd (y_pl y) k (-4) j = nI q ∧ _
    by_cases e : j = k
    · subst e
      exact Or.inl ⟨upd_same _ _ _, upd_same _ _ _, by rw [upd_ne (by omega), upd_same], by rw [upd_same]⟩
    · rw [u _ (by omega) (by omega), u _ (by omega) (by omega), upd_ne e, upd_ne e]; exact d3
  · rw [u _ (by omega) (by omega), u _ (by omega) (by omega), u _ (by omega) (by omega)]; exact a6 r hr
theorem i_ssa (a b c : Int32) : a - (b - c) = a - b + c := by
  rw [Int32.sub_eq_add_neg, Int32.sub_eq_add_neg, Int32.sub_eq_add_neg, Int32.neg_add, Int32.sub_eq_add_neg, Int32.neg_neg, Int32.add_assoc]
theorem yC_off {y : YS} {k c : Nat} (hy : yI y) (hc : yC y) (hcc : c < y_cn y) (hk : k < y_n y) (h3 : y_cu y k = nI c) (h6 : ¬ (¬ y_kd y k = nI 1 ∧ ¬ t_wo y (nI c) (nI 1) - t_wo y (nI c) (nI 0) + y_w y k ≤ 0)) : yC (yMove y (upd (y_cu y) k (-4)) (upd (y_pl y) k (-4))) := by
  intro d (hd : d < y_cn y)
  have h4 := hy.2.1
  have hy' := yI_off (k := k) hy
  have m : ∀ z, t_wo (yMove y (upd (y_cu y) k (-4)) (upd (y_pl y) k (-4))) (nI d) z + (if nI c = nI d ∧ y_kd y k = z then y_w y k else 0) = t_wo y (nI d) z := by
    intro z
    have := wo_move (y := y) (cu := upd (y_cu y) k (-4)) (pl := upd (y_pl y) k (-4)) hk (fun j hj => upd_ne hj) (nI d) z
    rw [upd_same, if_neg (c := (-4 : Int32) = nI d ∧ _) (fun q => nI_m4 (c := d) (by omega) q.1), h3] at this
    rw [this]; exact Int32.add_zero _
  show t_wo (yMove y (upd (y_cu y) k (-4)) (upd (y_pl y) k (-4))) (nI d) (nI 1) ≤ t_wo (yMove y (upd (y_cu y) k (-4)) (upd (y_pl y) k (-4))) (nI d) (nI 0)
  have m1 := m (nI 1)
  have m0 := m (nI 0)
  obtain ⟨a', ha', ea'⟩ := wo_nat hy' (nI d) (nI 1)
  obtain ⟨b', hb', eb'⟩ := wo_nat hy' (nI d) (nI 0)
  obtain ⟨a, ha, ea⟩ := wo_nat hy (nI d) (nI 1)
  obtain ⟨b, hb, eb⟩ := wo_nat hy (nI d) (nI 0)
  have hab := hc d hd
  rw [ea, eb, nI_leI (by omega) (by omega)] at hab
  rw [ea', ea] at m1
  rw [eb', eb] at m0
  rw [ea', eb', nI_leI (by omega) (by omega)]
  obtain ⟨hkd, ⟨W, hW1, hW2, eW⟩, -⟩ := hy.2.2.2.1 k hk
  by_cases e : c = d
  · subst e
    rw [eW] at m1 m0
    rcases hkd with e0 | e1
    · rw [if_neg (fun q => by rw [e0] at q; exact absurd q.2 (by decide)), Int32.add_zero, nI_eq (by omega) (by omega)] at m1
      rw [if_pos ⟨rfl, e0⟩, nI_add, nI_eq (by omega) (by omega)] at m0
      have h7 : t_wo y (nI c) (nI 1) - t_wo y (nI c) (nI 0) + y_w y k ≤ 0 := Decidable.not_not.mp fun q => h6 ⟨by rw [e0]; decide, q⟩
      rw [← i_ssa, ea, eb, eW, pk_sub (show W ≤ b by omega), nI_sub_le (by omega) (by omega)] at h7
      omega
    · rw [if_pos ⟨rfl, e1⟩, nI_add, nI_eq (by omega) (by omega)] at m1
      rw [if_neg (fun q => by rw [e1] at q; exact absurd q.2 (by decide)), Int32.add_zero, nI_eq (by omega) (by omega)] at m0
      omega
  · have ne : ¬ nI c = nI d := fun q => e ((nI_eq (by omega) (by omega)).mp q)
    rw [if_neg (fun q => ne q.1), Int32.add_zero, nI_eq (by omega) (by omega)] at m1 m0
    omega
theorem st_off {y : YS} {rs : RS} {v : MS} {x1 : Int32} (hJ : RelJ y (m_g v) (m_fl v)) : Spp y rs v (f_off y rs x1) (F_off y v x1) := by
  obtain ⟨hI, hF, hy, hd, hw, hc, hf⟩ := hJ
  have h4 := hy.2.1
  have hn := hy.1
  have h5r := hy.2.2.1
  unfold f_off F_off
  by_cases h1 : ¬ p_in x1 (y_n y)
  · rw [if_pos h1, if_pos h1]; exact Spp_bad (Or.inl rfl)
  rw [if_neg h1, if_neg h1]
  obtain ⟨k, hk, rfl⟩ := p_in_ex (n := y_n y) (by omega) (Decidable.not_not.mp h1)
  have e1 : (nI k).toNatClampNeg = k := nI_clamp (by omega)
  simp only [ixI, e1]
  by_cases h3 : y_cu y k = -4
  · rw [if_pos h3, if_pos h3]; exact Spp_ref (by decide)
  rw [if_neg h3, if_neg h3]
  obtain ⟨hkd, -, e | ⟨c, q, hcc, hq, ec, -, -⟩⟩ := hy.2.2.2.1 k hk
  · exact absurd e.1 h3
  rw [ec]
  have ek : (y_kd y k = 0) = (¬ y_kd y k = nI 1) := by
    rcases hkd with e | e <;> rw [e] <;> decide
  simp only [i_ssa, ek]
  by_cases h6 : ¬ y_kd y k = nI 1 ∧ ¬ t_wo y (nI c) (nI 1) - t_wo y (nI c) (nI 0) + y_w y k ≤ 0
  · rw [if_pos h6, if_pos h6]; exact Spp_ref (by decide)
  rw [if_neg h6, if_neg h6]
  refine Spp_ok (y' := yMove y (upd (y_cu y) k (-4)) (upd (y_pl y) k (-4))) (nI_pos (by omega)) (fun j hj => ?_) (fun _ _ => rfl) ⟨RelI_off ⟨hn, h4, h5r⟩ hI hk, ?_, yI_off hy, yD_off hd, hw, yC_off hy hc hcc hk ec h6, hf⟩
  · rw [upd_ne (by omega), upd_ne (by omega)]
  · exact RelF_th hF (fun j hj => by rw [upd_ne (by omega), upd_ne (by omega)])
