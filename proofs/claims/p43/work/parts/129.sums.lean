/-! SUMS THAT ALL CHANGES KEEP: trips by carts and by roads, miles -/
theorem sI_add {f : Nat → Int32} {i : Nat} {d : Int32} : ∀ n, i < n → sI (upd f i (f i + d)) n = sI f n + d
  | 0, h => absurd h (Nat.not_lt_zero i)
  | n + 1, h => by
    rw [sI, sI]
    by_cases e : i = n
    · subst e
      rw [pk_us, sI_cg (f := upd f i (f i + d)) (g := f) (fun k hk => pk_un (by omega)), Int32.add_assoc]
    · rw [sI_add n (by omega), pk_un (by omega), Int32.add_assoc, Int32.add_comm d, ← Int32.add_assoc]
def sums (y : YS) : Prop := t_ts y = sI (y_rt y) (y_rn y) ∧ y_mm y = sI (fun r => y_rt y r * y_mi y r) (y_rn y)
theorem sums_addT {y : YS} {rs : RS} {a b d : Int32} (h : sums y) : sums (f_addT y rs a b d).2.1 := by
  unfold f_addT
  split
  · exact h
  · split
    · exact h
    · exact h
theorem sums_addC {y : YS} {rs : RS} {a : Int32} (h : sums y) : sums (f_addC y rs a).2.1 := by
  unfold f_addC
  split
  · exact h
  · split
    · refine ⟨?_, h.2⟩
      show sI (upd (y_tr y) (y_cn y) (nI 0)) (y_cn y + 1) = sI (y_rt y) (y_rn y)
      rw [sI, pk_us, sI_cg (f := upd (y_tr y) (y_cn y) (nI 0)) (g := y_tr y) (fun k hk => pk_un (by omega)), show nI 0 = 0 by decide, Int32.add_zero]
      exact h.1
    · exact h
theorem sums_addR {y : YS} {rs : RS} {a b d : Int32} (h : sums y) : sums (f_addR y rs a b d).2.1 := by
  unfold f_addR
  split
  · exact h
  · split
    · refine ⟨?_, ?_⟩
      · show t_ts y = sI (upd (y_rt y) (y_rn y) (nI 0)) (y_rn y + 1)
        rw [sI, pk_us, sI_cg (f := upd (y_rt y) (y_rn y) (nI 0)) (g := y_rt y) (fun k hk => pk_un (by omega)), show nI 0 = 0 by decide, Int32.add_zero]
        exact h.1
      · show y_mm y = sI (fun r => upd (y_rt y) (y_rn y) (nI 0) r * upd (y_mi y) (y_rn y) b r) (y_rn y + 1)
        rw [sI, pk_us, show nI 0 = 0 by decide, Int32.zero_mul, Int32.add_zero, sI_cg (f := fun r => upd (y_rt y) (y_rn y) 0 r * upd (y_mi y) (y_rn y) b r) (g := fun r => y_rt y r * y_mi y r) (fun k hk => by rw [pk_un (by omega), pk_un (by omega)])]
        exact h.2
    · exact h
theorem sums_put {y : YS} {rs : RS} {a b d : Int32} (h : sums y) : sums (f_put y rs a b d).2.1 := by
  unfold f_put
  repeat' split
  all_goals exact h
theorem sums_off {y : YS} {rs : RS} {a : Int32} (h : sums y) : sums (f_off y rs a).2.1 := by
  unfold f_off
  repeat' split
  all_goals exact h
theorem sums_swap {y : YS} {rs : RS} {a b d : Int32} (h : sums y) : sums (f_swap y rs a b d).2.1 := by
  unfold f_swap
  repeat' split
  all_goals exact h
theorem sums_grease {y : YS} {rs : RS} {a : Int32} (h : sums y) : sums (f_grease y rs a).2.1 := by
  unfold f_grease
  repeat' split
  all_goals exact h
theorem sums_gone {y : YS} {c r : Nat} (hc : c < y_cn y) (hr : r < y_rn y) (h : sums y) : sums (yGone y c r) := by
  refine ⟨?_, ?_⟩
  · show sI (upd (y_tr y) c (y_tr y c + nI 1)) (y_cn y) = sI (upd (y_rt y) r (y_rt y r + nI 1)) (y_rn y)
    rw [sI_add _ hc, sI_add _ hr]
    exact congrArg (· + nI 1) h.1
  · show y_mm y + y_mi y r = sI (fun q => upd (y_rt y) r (y_rt y r + nI 1) q * y_mi y q) (y_rn y)
    have e : (fun q => upd (y_rt y) r (y_rt y r + nI 1) q * y_mi y q) = upd (fun q => y_rt y q * y_mi y q) r ((fun q => y_rt y q * y_mi y q) r + y_mi y r) := by
      funext q
      by_cases eq : q = r
      · subst eq
        rw [pk_us, pk_us, Int32.add_mul, show nI 1 = 1 by decide, Int32.one_mul]
      · rw [pk_un eq, pk_un eq]
    rw [e, sI_add _ hr, ← h.2]
theorem sums_go {y : YS} {rs : RS} {a b : Int32} (hcn : y_cn y ≤ 4) (hrn : y_rn y ≤ 5) (h : sums y) : sums (f_go y rs a b).2.1 := by
  unfold f_go
  by_cases h1 : ¬ p_in a (y_cn y) ∨ ¬ p_in b (y_rn y)
  · rw [if_pos h1]; exact h
  · rw [if_neg h1]
    have ha : p_in a (y_cn y) := Classical.byContradiction (fun q => h1 (Or.inl q))
    have hb : p_in b (y_rn y) := Classical.byContradiction (fun q => h1 (Or.inr q))
    obtain ⟨c, hc, rfl⟩ := p_in_ex (n := y_cn y) (by omega) ha
    obtain ⟨r, hr, rfl⟩ := p_in_ex (n := y_rn y) (by omega) hb
    rw [nI_clamp (by omega), nI_clamp (by omega)]
    repeat' split
    all_goals first | exact h | exact sums_gone hc hr h
/-- what holds of the yard all through the law -/
def K43 (y : YS) : Prop := yJ y ∧ sums y ∧ 1 ≤ y_n y ∧ 1 ≤ y_cn y ∧ y_rn y = 2
theorem sums_cmd {y : YS} (rs : RS) (c : Nat) (x1 x2 x3 : Int32) (hcn : y_cn y ≤ 4) (hrn : y_rn y ≤ 5) (h : sums y) : sums (f_cmd c y rs x1 x2 x3).2.1 := by
  unfold f_cmd
  split
  · exact sums_addT h
  · exact sums_addT h
  · exact sums_addC h
  · exact sums_addR h
  · exact sums_put h
  · exact sums_off h
  · exact sums_swap h
  · exact sums_go hcn hrn h
  · exact sums_grease h
/-- a change takes no thing, no cart, no road away -/
theorem grow_cmd {y : YS} (rs : RS) (c : Nat) (x1 x2 x3 : Int32) : y_n y ≤ y_n (f_cmd c y rs x1 x2 x3).2.1 ∧ y_cn y ≤ y_cn (f_cmd c y rs x1 x2 x3).2.1 ∧ (c ≠ 3 → y_rn (f_cmd c y rs x1 x2 x3).2.1 = y_rn y) := by
  unfold f_cmd
  split
  · unfold f_addT; repeat' split
    all_goals exact ⟨by first | exact Nat.le_refl _ | exact Nat.le_succ _, Nat.le_refl _, fun _ => rfl⟩
  · unfold f_addT; repeat' split
    all_goals exact ⟨by first | exact Nat.le_refl _ | exact Nat.le_succ _, Nat.le_refl _, fun _ => rfl⟩
  · unfold f_addC; repeat' split
    all_goals exact ⟨Nat.le_refl _, by first | exact Nat.le_refl _ | exact Nat.le_succ _, fun _ => rfl⟩
  · refine ⟨?_, ?_, fun h => absurd rfl h⟩
    · unfold f_addR; repeat' split
      all_goals exact Nat.le_refl _
    · unfold f_addR; repeat' split
      all_goals exact Nat.le_refl _
  · unfold f_put; repeat' split
    all_goals exact ⟨Nat.le_refl _, Nat.le_refl _, fun _ => rfl⟩
  · unfold f_off; repeat' split
    all_goals exact ⟨Nat.le_refl _, Nat.le_refl _, fun _ => rfl⟩
  · unfold f_swap; repeat' split
    all_goals exact ⟨Nat.le_refl _, Nat.le_refl _, fun _ => rfl⟩
  · unfold f_go; repeat' split
    all_goals exact ⟨Nat.le_refl _, Nat.le_refl _, fun _ => rfl⟩
  · unfold f_grease; repeat' split
    all_goals exact ⟨Nat.le_refl _, Nat.le_refl _, fun _ => rfl⟩
theorem K43_cmd {y : YS} (rs : RS) (c : Nat) (x1 x2 x3 : Int32) (hc : c ≠ 3) (h : K43 y) : K43 (f_cmd c y rs x1 x2 x3).2.1 := by
  obtain ⟨hJ, hs, h1, h2, h3⟩ := h
  have hy := (yJ_i hJ).1
  obtain ⟨g1, g2, g3⟩ := grow_cmd rs c x1 x2 x3 (y := y)
  exact ⟨yJ_c y rs c x1 x2 x3 hJ, sums_cmd rs c x1 x2 x3 hy.2.1 hy.2.2.1 hs, by omega, by omega, (g3 hc).trans h3⟩
