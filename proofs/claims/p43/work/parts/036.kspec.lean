/-! WHAT SCALE, REASONS, WORKS ANSWER -/
/-- what always holds of a yard's whole numbers -/
def yI (y : YS) : Prop :=
  y_n y ≤ 12 ∧ y_cn y ≤ 4 ∧ y_rn y ≤ 5 ∧
  (∀ k, k < y_n y → (y_kd y k = nI 0 ∨ y_kd y k = nI 1) ∧ (∃ w, 1 ≤ w ∧ w ≤ 54 ∧ y_w y k = nI w) ∧ ((y_cu y k = -4 ∧ y_pl y k = -4) ∨ ∃ c q, c < y_cn y ∧ q ≤ 6 ∧ y_cu y k = nI c ∧ y_pl y k = nI q ∧ (q = 6 ↔ y_kd y k = nI 1))) ∧
  (∀ r, r < y_rn y → ∃ li mi ra, 1 ≤ li ∧ li ≤ 99 ∧ 1 ≤ mi ∧ mi ≤ 9 ∧ ra ≤ 9 ∧ y_li y r = nI li ∧ y_mi y r = nI mi ∧ y_ra y r = nI ra) ∧
  (∀ c, c < y_cn y → ∃ st, 1 ≤ st ∧ st ≤ 60 ∧ y_st y c = nI st)
/-- and of its floats -/
def yF (y : YS) : Prop := (∀ j, j < 8 → nF (y_wr y j)) ∧ nF (y_tl y)
theorem sI_nat {f : Nat → Int32} {B : Nat} : ∀ {n : Nat}, (∀ k, k < n → ∃ v, v ≤ B ∧ f k = nI v) → ∃ t, t ≤ n * B ∧ sI f n = nI t
  | 0, _ => ⟨0, by omega, rfl⟩
  | n + 1, h => by
    obtain ⟨t, ht, e⟩ := sI_nat (f := f) (B := B) (n := n) (fun k hk => h k (by omega))
    obtain ⟨v, hv, e2⟩ := h n (Nat.lt_succ_self n)
    exact ⟨t + v, by rw [Nat.succ_mul]; omega, by rw [sI, e, e2, nI_add]⟩
def t_tt (y : YS) (k : Nat) (z : Int32) : Int32 := if y_kd y k = nI 1 then y_w y k * nI 5 else y_w y k * nI 2 * (if z = 0 then nI 5 - y_pl y k else y_pl y k)
def t_te (y : YS) (x z : Int32) : Int32 := sI (fun k => if y_cu y k = x then t_tt y k z else 0) (y_n y)
def t_to (y : YS) (x z : Int32) : Int32 := nI 10 * t_all y x - t_te y x (if z = 0 then nI 1 else nI 0)
def t_im (y : YS) (x : Int32) : Int32 := if 0 ≤ t_te y x (nI 0) - t_te y x (nI 1) then t_te y x (nI 0) - t_te y x (nI 1) else 0 - (t_te y x (nI 0) - t_te y x (nI 1))
abbrev t_ld (y : YS) (c : Nat) (z : Int32) : UInt32 := FP.fdiv (FP.i2f (t_te y (nI c) z)) 1092616192
abbrev p_creak (y : YS) (c : Nat) (z : Int32) : Prop := ¬ Op.cmpValue (FP.fcmp (t_ld y c z) (FP.i2f (y_st y c))) CmpOp.l ≤ 0
abbrev p_over (y : YS) (c : Nat) (v : UInt32) : Prop := ¬ Op.cmpValue (FP.fcmp v (FP.i2f (y_st y c))) CmpOp.l ≤ 0
/-- what a thing adds, as the class reckons it: by a kind of 0, or another -/
theorem tt_z {y : YS} {k : Nat} {z : Int32} (h : y_kd y k = nI 0 ∨ y_kd y k = nI 1) : t_tt y k z = y_w y k * (if y_kd y k = 0 then nI 2 * (if z = 0 then nI 5 - y_pl y k else y_pl y k) else nI 5) := by
  unfold t_tt
  rcases h with h | h
  · rw [if_neg (show ¬ y_kd y k = nI 1 by rw [h]; decide), if_pos (show y_kd y k = 0 by rw [h]; decide), Int32.mul_assoc]
  · rw [if_pos h, if_neg (show ¬ y_kd y k = 0 by rw [h]; decide)]
def t_cr (y : YS) (c : Nat) : Nat := (if p_creak y c (nI 0) then 1 else 0) + (if p_creak y c (nI 1) then 1 else 0)
theorem t_cr_le (y : YS) (c : Nat) : t_cr y c ≤ 2 := by unfold t_cr; split <;> split <;> omega
def t_acr (y : YS) : Nat := sN (fun c => t_cr y c) (y_cn y)
abbrev t_toll (y : YS) (c r : Nat) : UInt32 := FP.fmul (FP.fmul (FP.i2f (t_wo y (nI c) (nI 1))) (FP.i2f (y_ra y r))) 1048576000
abbrev t_wt0 (y : YS) (c r : Nat) (z : Int32) : UInt32 := FP.fmul (FP.fmul (t_ld y c z) (FP.i2f (y_mi y r))) 981668463
def t_wt (y : YS) (c r : Nat) (z : Int32) : UInt32 := if p_creak y c z then FP.fmul (t_wt0 y c r z) FP.fconst2 else t_wt0 y c r z
theorem tt_nat {y : YS} (hy : yI y) {c k : Nat} {z : Int32} (hc : c < y_cn y) (hk : k < y_n y) (he : y_cu y k = nI c) : ∃ v, v ≤ 540 ∧ t_tt y k z = nI v := by
  obtain ⟨hn, hcn, -, ht, -, -⟩ := hy
  obtain ⟨hkd, ⟨w, hw1, hw2, hw⟩, hcu⟩ := ht k hk
  unfold t_tt
  by_cases h1 : y_kd y k = nI 1
  · rw [if_pos h1, hw, pk_mul]; exact ⟨_, by omega, rfl⟩
  · rw [if_neg h1]
    rcases hcu with ⟨h, -⟩ | ⟨c', q, hc', hq, hcu, hpl, hiff⟩
    · rw [he] at h
      have := nI_pos (n := c) (by omega)
      rw [h] at this
      exact absurd (by decide) this
    · have hq6 : q ≠ 6 := fun e => h1 (hiff.mp e)
      rw [hpl, hw, pk_mul]
      by_cases hz : z = 0
      · rw [if_pos hz, pk_sub (by omega), pk_mul]
        refine ⟨_, ?_, rfl⟩
        calc w * 2 * (5 - q) ≤ w * 2 * 5 := Nat.mul_le_mul_left _ (by omega)
          _ ≤ 540 := by omega
      · rw [if_neg hz, pk_mul]
        refine ⟨_, ?_, rfl⟩
        calc w * 2 * q ≤ w * 2 * 5 := Nat.mul_le_mul_left _ (by omega)
          _ ≤ 540 := by omega
theorem te_nat {y : YS} (hy : yI y) {c : Nat} {z : Int32} (hc : c < y_cn y) : ∃ t, t ≤ 6480 ∧ t_te y (nI c) z = nI t := by
  obtain ⟨t, ht, e⟩ := sI_nat (f := fun k => if y_cu y k = nI c then t_tt y k z else 0) (B := 540) (n := y_n y) (fun k hk => by
    by_cases h : y_cu y k = nI c
    · obtain ⟨v, hv, e⟩ := tt_nat (z := z) hy hc hk h
      exact ⟨v, hv, by simp only [h, if_true]; exact e⟩
    · exact ⟨0, by omega, by simp only [h, if_false]; rfl⟩)
  exact ⟨t, Nat.le_trans ht (by have := hy.1; omega), e⟩
theorem wo_nat {y : YS} (hy : yI y) (x z : Int32) : ∃ t, t ≤ 648 ∧ t_wo y x z = nI t := by
  obtain ⟨t, ht, e⟩ := sI_nat (f := fun k => if y_cu y k = x ∧ y_kd y k = z then y_w y k else 0) (B := 54) (n := y_n y) (fun k hk => by
    obtain ⟨-, ⟨w, -, hw2, hw⟩, -⟩ := hy.2.2.2.1 k hk
    by_cases h : y_cu y k = x ∧ y_kd y k = z
    · exact ⟨w, hw2, by simp only [h, and_self, if_true]; exact hw⟩
    · exact ⟨0, by omega, by simp only [h, if_false]; rfl⟩)
  exact ⟨t, Nat.le_trans ht (by have := hy.1; omega), e⟩
theorem ld_nF {y : YS} (hy : yI y) {c : Nat} {z : Int32} (hc : c < y_cn y) : nF (t_ld y c z) := by
  obtain ⟨t, ht, e⟩ := te_nat (z := z) hy hc
  unfold t_ld
  rw [e]
  exact nF_div (i2f_fin (by omega)).n (by unfold fF; decide) (by decide)
theorem mi_fin {y : YS} (hy : yI y) {r : Nat} (hr : r < y_rn y) : fF (FP.i2f (y_mi y r)) ∧ FP.i2f (y_mi y r) ≠ 0 := by
  obtain ⟨li, mi, ra, -, -, h1, h2, -, -, e, -⟩ := hy.2.2.2.2.1 r hr
  rw [e]
  refine ⟨i2f_fin (by omega), ?_⟩
  rcases (show mi = 1 ∨ mi = 2 ∨ mi = 3 ∨ mi = 4 ∨ mi = 5 ∨ mi = 6 ∨ mi = 7 ∨ mi = 8 ∨ mi = 9 by omega) with rfl | rfl | rfl | rfl | rfl | rfl | rfl | rfl | rfl <;> decide +kernel
theorem wt1_nF {y : YS} (hy : yI y) {c r : Nat} {z : Int32} (hc : c < y_cn y) (hr : r < y_rn y) : nF (FP.fmul (t_ld y c z) (FP.i2f (y_mi y r))) := nF_mul (ld_nF hy hc) (mi_fin hy hr).1 (mi_fin hy hr).2
theorem wt0_nF {y : YS} (hy : yI y) {c r : Nat} {z : Int32} (hc : c < y_cn y) (hr : r < y_rn y) : nF (t_wt0 y c r z) := nF_mul (wt1_nF hy hc hr) (by unfold fF; decide) (by decide)
theorem wt2_nF {y : YS} (hy : yI y) {c r : Nat} {z : Int32} (hc : c < y_cn y) (hr : r < y_rn y) : nF (FP.fmul (t_wt0 y c r z) FP.fconst2) := nF_mul (wt0_nF hy hc hr) (by unfold fF; decide) (by decide)
theorem wt_nF {y : YS} (hy : yI y) {c r : Nat} {z : Int32} (hc : c < y_cn y) (hr : r < y_rn y) : nF (t_wt y c r z) := by
  unfold t_wt
  split
  · exact wt2_nF hy hc hr
  · exact wt0_nF hy hc hr
theorem ra_fin {y : YS} (hy : yI y) {r : Nat} (hr : r < y_rn y) : fF (FP.i2f (y_ra y r)) := by
  obtain ⟨li, mi, ra, -, -, -, -, h2, -, -, e⟩ := hy.2.2.2.2.1 r hr
  rw [e]
  exact i2f_fin (by omega)
theorem toll1_nF {y : YS} (hy : yI y) {c r : Nat} (hr : r < y_rn y) : nF (FP.fmul (FP.i2f (t_wo y (nI c) (nI 1))) (FP.i2f (y_ra y r))) := by
  obtain ⟨t, ht, e⟩ := wo_nat hy (nI c) (nI 1)
  rw [e]
  exact nF_mulf (i2f_fin (by omega)) (ra_fin hy hr)
theorem toll_nF {y : YS} (hy : yI y) {c r : Nat} (hr : r < y_rn y) : nF (t_toll y c r) := nF_mul (toll1_nF hy hr) (by unfold fF; decide) (by decide)
theorem p_in_ex {x : Int32} {n : Nat} (hn : n < 2 ^ 31) (h : p_in x n) : ∃ j, j < n ∧ x = nI j := by
  rcases pk_ix x hn with q | q | q
  · exact absurd q h.1
  · exact absurd q h.2
  · exact q
theorem at_ex (y : YS) (x z : Int32) : t_at y x z = -4 ∨ ∃ k, k < y_n y ∧ t_at y x z = nI k := by
  unfold t_at atI
  split
  · exact Or.inr ⟨_, by assumption, rfl⟩
  · exact Or.inl rfl
abbrev rsOf (a b : Int32) : RS := (a, b, -4, -4)
def f_addT (y : YS) (rs : RS) (kd w mx : Int32) : Int32 × YS × RS :=
  if w < nI 1 ∨ ¬ w ≤ mx then (-2, y, rs)
  else if y_n y < 12 then (nI (y_n y), (y_n y + 1, upd (y_kd y) (y_n y) kd, upd (y_w y) (y_n y) w, upd (y_cu y) (y_n y) (-4), upd (y_pl y) (y_n y) (-4), y_cn y, y_st y, y_wr y, y_tr y, y_rn y, y_li y, y_mi y, y_ra y, y_rt y, y_tl y, y_mm y), rs)
  else (-3, y, rsOf (nI 1) (nI 12))
def f_addC (y : YS) (rs : RS) (st : Int32) : Int32 × YS × RS :=
  if st < nI 1 ∨ ¬ st ≤ nI 60 then (-2, y, rs)
  else if y_cn y < 4 then (nI (y_cn y), (y_n y, y_kd y, y_w y, y_cu y, y_pl y, y_cn y + 1, upd (y_st y) (y_cn y) st, vf_upd (vf_upd (y_wr y) (wix (y_cn y) (nI 0)) FP.fconst0) (wix (y_cn y) (nI 1)) FP.fconst0, upd (y_tr y) (y_cn y) (nI 0), y_rn y, y_li y, y_mi y, y_ra y, y_rt y, y_tl y, y_mm y), rs)
  else (-3, y, rsOf (nI 1) (nI 4))
def f_addR (y : YS) (rs : RS) (li mi ra : Int32) : Int32 × YS × RS :=
  if li < nI 1 ∨ nI 99 < li ∨ mi < nI 1 ∨ nI 9 < mi ∨ ra < 0 ∨ ¬ ra ≤ nI 9 then (-2, y, rs)
  else if y_rn y < 5 then (nI (y_rn y), (y_n y, y_kd y, y_w y, y_cu y, y_pl y, y_cn y, y_st y, y_wr y, y_tr y, y_rn y + 1, upd (y_li y) (y_rn y) li, upd (y_mi y) (y_rn y) mi, upd (y_ra y) (y_rn y) ra, upd (y_rt y) (y_rn y) (nI 0), y_tl y, y_mm y), rs)
  else (-3, y, rsOf (nI 1) (nI 5))
abbrev yMove (y : YS) (cu pl : Nat → Int32) : YS := (y_n y, y_kd y, y_w y, cu, pl, y_cn y, y_st y, y_wr y, y_tr y, y_rn y, y_li y, y_mi y, y_ra y, y_rt y, y_tl y, y_mm y)
def f_put (y : YS) (rs : RS) (x1 x2 x3 : Int32) : Int32 × YS × RS :=
  if ¬ p_in x1 (y_n y) ∨ ¬ p_in x2 (y_cn y) then (-1, y, rs)
  else if x3 < 0 ∨ ¬ x3 ≤ nI 6 then (-2, y, rs)
  else if ¬ y_cu y x1.toNatClampNeg = -4 then (-3, y, rsOf (nI 2) (y_cu y x1.toNatClampNeg))
  else if ¬ (y_kd y x1.toNatClampNeg = nI 1 ↔ x3 = nI 6) then (-3, y, rsOf (nI 3) x3)
  else if ¬ t_at y x2 x3 = -4 then (-3, y, rsOf (nI 4) (t_at y x2 x3))
  else if y_kd y x1.toNatClampNeg = nI 1 ∧ ¬ y_w y x1.toNatClampNeg - t_wo y x2 (nI 0) ≤ 0 then (-3, y, rsOf (nI 5) (y_w y x1.toNatClampNeg - t_wo y x2 (nI 0)))
  else (t_all (yMove y (upd (y_cu y) x1.toNatClampNeg x2) (upd (y_pl y) x1.toNatClampNeg x3)) x2, yMove y (upd (y_cu y) x1.toNatClampNeg x2) (upd (y_pl y) x1.toNatClampNeg x3), rs)
def f_off (y : YS) (rs : RS) (x1 : Int32) : Int32 × YS × RS :=
  if ¬ p_in x1 (y_n y) then (-1, y, rs)
  else if y_cu y x1.toNatClampNeg = -4 then (-3, y, rsOf (nI 6) x1)
  else if y_kd y x1.toNatClampNeg = 0 ∧ ¬ t_wo y (y_cu y x1.toNatClampNeg) (nI 1) - (t_wo y (y_cu y x1.toNatClampNeg) (nI 0) - y_w y x1.toNatClampNeg) ≤ 0 then (-3, y, rsOf (nI 5) (t_wo y (y_cu y x1.toNatClampNeg) (nI 1) - (t_wo y (y_cu y x1.toNatClampNeg) (nI 0) - y_w y x1.toNatClampNeg)))
  else (y_cu y x1.toNatClampNeg, yMove y (upd (y_cu y) x1.toNatClampNeg (-4)) (upd (y_pl y) x1.toNatClampNeg (-4)), rs)
def setAt (f : Nat → Int32) (i v : Int32) : Nat → Int32 := if i = -4 then f else upd f i.toNatClampNeg v
def f_swap (y : YS) (rs : RS) (x1 x2 x3 : Int32) : Int32 × YS × RS :=
  if ¬ p_in x1 (y_cn y) then (-1, y, rs)
  else if x2 < 0 ∨ nI 5 < x2 ∨ x3 < 0 ∨ ¬ x3 ≤ nI 5 then (-2, y, rs)
  else if x2 = x3 then (-3, y, rsOf (nI 7) x2)
  else (t_im (yMove y (y_cu y) (setAt (setAt (y_pl y) (t_at y x1 x2) x3) (t_at y x1 x3) x2)) x1, yMove y (y_cu y) (setAt (setAt (y_pl y) (t_at y x1 x2) x3) (t_at y x1 x3) x2), rs)
abbrev wrStep (y : YS) (c r : Nat) (z : Int32) : Nat → UInt32 := vf_upd (y_wr y) (wix c z) (FP.fadd (y_wr y (wix c z)) (t_wt y c r z))
abbrev yWr (y : YS) (wr : Nat → UInt32) : YS := (y_n y, y_kd y, y_w y, y_cu y, y_pl y, y_cn y, y_st y, wr, y_tr y, y_rn y, y_li y, y_mi y, y_ra y, y_rt y, y_tl y, y_mm y)
/-- a trip's marks -/
def yGone (y : YS) (c r : Nat) : YS := (y_n y, y_kd y, y_w y, y_cu y, y_pl y, y_cn y, y_st y, wrStep (y_n y, y_kd y, y_w y, y_cu y, y_pl y, y_cn y, y_st y, wrStep (y_n y, y_kd y, y_w y, y_cu y, y_pl y, y_cn y, y_st y, y_wr y, y_tr y, y_rn y, y_li y, y_mi y, y_ra y, y_rt y, FP.fadd (y_tl y) (t_toll y c r), y_mm y) c r (nI 0), y_tr y, y_rn y, y_li y, y_mi y, y_ra y, y_rt y, FP.fadd (y_tl y) (t_toll y c r), y_mm y) c r (nI 1), upd (y_tr y) c (y_tr y c + nI 1), y_rn y, y_li y, y_mi y, y_ra y, upd (y_rt y) r (y_rt y r + nI 1), FP.fadd (y_tl y) (t_toll y c r), y_mm y + y_mi y r)
def f_go (y : YS) (rs : RS) (x1 x2 : Int32) : Int32 × YS × RS :=
  if ¬ p_in x1 (y_cn y) ∨ ¬ p_in x2 (y_rn y) then (-1, y, rs)
  else if t_at y x1 (nI 6) = -4 then (-3, y, rsOf (nI 8) (nI (t_pn y x1)))
  else if ¬ p_wi y x1 x2.toNatClampNeg then (-3, y, rsOf (nI 9) (t_all y x1 - y_li y x2.toNatClampNeg))
  else if ¬ t_wn y x1.toNatClampNeg = 0 then (-3, y, rsOf (nI 10) (if p_worn (y_wr y (wix x1.toNatClampNeg (nI 0))) then nI 0 else nI 1))
  else (nI (t_cr (yGone y x1.toNatClampNeg x2.toNatClampNeg) x1.toNatClampNeg), yGone y x1.toNatClampNeg x2.toNatClampNeg, rs)
abbrev p_le0 (v : UInt32) : Prop := ¬ 0 < Op.cmpValue (FP.fcmp v FP.fconst0) CmpOp.g
def f_grease (y : YS) (rs : RS) (x1 : Int32) : Int32 × YS × RS :=
  if ¬ p_in x1 (y_cn y) then (-1, y, rs)
  else if p_le0 (y_wr y (wix x1.toNatClampNeg (nI 0))) ∧ p_le0 (y_wr y (wix x1.toNatClampNeg (nI 1))) then (-3, y, rsOf (nI 11) x1)
  else (nI (t_wn y x1.toNatClampNeg), yWr y (vf_upd (vf_upd (y_wr y) (wix x1.toNatClampNeg (nI 0)) FP.fconst0) (wix x1.toNatClampNeg (nI 1)) FP.fconst0), rs)
abbrev p_lt1 (v : UInt32) : Prop := ¬ 0 ≤ Op.cmpValue (FP.fcmp v FP.fconst1) CmpOp.g
def tripN (fa ra : UInt32) : Nat → UInt32 → UInt32 → Nat
  | 0, _, _ => 0
  | n + 1, f, r => if p_lt1 f ∧ p_lt1 r then tripN fa ra n (FP.fadd f fa) (FP.fadd r ra) + 1 else 0
def t_trips (y : YS) (c r : Nat) : Nat :=
  if t_at y (nI c) (nI 6) = -4 ∨ ¬ p_wi y (nI c) r then 0
  else tripN (t_wt y c r (nI 0)) (t_wt y c r (nI 1)) 99 (y_wr y (wix c (nI 0))) (y_wr y (wix c (nI 1)))
theorem nI_ne4 {k : Nat} (h : k < 2 ^ 31) : ¬ nI k = -4 := by
  intro q
  have := nI_pos h
  rw [q] at this
  exact this (by decide)
theorem yF_step {y : YS} (hy : yI y) (hf : ∀ j, j < 8 → nF (y_wr y j)) {c r : Nat} {z : Int32} (hc : c < y_cn y) (hr : r < y_rn y) : ∀ j, j < 8 → nF (wrStep y c r z j) := by
  intro j hj
  unfold wrStep vf_upd
  split
  · exact nF_add (hf _ (wix_lt (by have := hy.2.1; omega))) (wt_nF hy hc hr)
  · exact hf j hj
theorem trip_s {fa ra f r : UInt32} {j : Nat} (hj : j < 99) (h : p_lt1 f ∧ p_lt1 r) : j + 1 + tripN fa ra (99 - (j + 1)) (FP.fadd f fa) (FP.fadd r ra) = j + tripN fa ra (99 - j) f r := by
  rw [show 99 - j = (99 - (j + 1)) + 1 by omega]
  conv => rhs; unfold tripN
  rw [if_pos h]
  omega
theorem trip_e {fa ra f r : UInt32} {n : Nat} (h : ¬ (p_lt1 f ∧ p_lt1 r)) : tripN fa ra n f r = 0 := by
  cases n with
  | zero => rfl
  | succ n => unfold tripN; rw [if_neg h]
