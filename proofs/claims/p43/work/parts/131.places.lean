/-! WHAT THE LAW COUNTS BY PLACES IS WHAT THE CLASS COUNTS BY THINGS -/
def prC (y : YS) (x : Int32) : Nat → Int32
  | 0 => nI 0
  | p + 1 => prC y x p + (if t_at y x (nI p) = -4 then nI 0 else nI 1)
def prW (y : YS) (x : Int32) : Nat → Int32
  | 0 => nI 0
  | p + 1 => prW y x p + (if t_at y x (nI p) = -4 then nI 0 else y_w y (ixI (t_at y x (nI p))))
theorem prC_len {y : YS} {x : Int32} : ∀ p, prC y x p = nI (ixp y x p).length
  | 0 => rfl
  | p + 1 => by
    rw [prC, prC_len p, ixp]
    by_cases h : t_at y x (nI p) = -4
    · rw [if_pos h, if_pos h, nI_add]; rfl
    · rw [if_neg h, if_neg h, nI_add, List.length_append]; rfl
theorem prW_lI {y : YS} {x : Int32} : ∀ p, prW y x p = lI (y_w y) (ixp y x p)
  | 0 => rfl
  | p + 1 => by
    rw [prW, prW_lI p, ixp]
    by_cases h : t_at y x (nI p) = -4
    · rw [if_pos h, if_pos h, show nI 0 = 0 by decide, Int32.add_zero]
    · rw [if_neg h, if_neg h, lI_snoc]
theorem prC_pn {y : YS} (hy : yI y) (hD : yD y) {c : Nat} (hc : c < y_cn y) : prC y (nI c) 6 = nI (t_pn y (nI c)) := by
  rw [prC_len, (ix_perm hy hD hc).length_eq, ixs_pn]; rfl
theorem prW_wo {y : YS} (hy : yI y) (hD : yD y) {c : Nat} (hc : c < y_cn y) : prW y (nI c) 6 = t_wo y (nI c) (nI 0) := by
  rw [prW_lI, lI_perm (ix_perm hy hD hc), ixs_wo]; rfl
theorem sI_zero {f : Nat → Int32} : ∀ n, (∀ k, k < n → f k = 0) → sI f n = 0
  | 0, _ => rfl
  | n + 1, h => by rw [sI, sI_zero n (fun k hk => h k (by omega)), h n (Nat.lt_succ_self n)]; rfl
theorem sI_one {f : Nat → Int32} {i : Nat} : ∀ n, i < n → (∀ k, k < n → k ≠ i → f k = 0) → sI f n = f i
  | 0, hi, _ => absurd hi (Nat.not_lt_zero i)
  | n + 1, hi, h => by
    rw [sI]
    by_cases e : i = n
    · subst e
      rw [sI_zero i (fun k hk => h k (by omega) (by omega)), Int32.zero_add]
    · rw [sI_one n (by omega) (fun k hk => h k (by omega)), h n (Nat.lt_succ_self n) (by omega), Int32.add_zero]
def t_tp (y : YS) (x : Int32) : Int32 := if t_at y x (nI 6) = -4 then nI 0 else y_w y (ixI (t_at y x (nI 6)))
theorem tp_wo {y : YS} (hy : yI y) (hD : yD y) {c : Nat} (hc : c < y_cn y) : t_tp y (nI c) = t_wo y (nI c) (nI 1) := by
  have hn := hy.1
  have hcn := hy.2.1
  have six : ∀ k, k < y_n y → y_cu y k = nI c → (y_pl y k = nI 6 ↔ y_kd y k = nI 1) := fun k hk h1 => by
    obtain ⟨hkd, -, hcu⟩ := hy.2.2.2.1 k hk
    rcases hcu with ⟨e, -⟩ | ⟨c', q, hc', hq, e1, e2, hiff⟩
    · exact absurd (h1.symm.trans e) (nI_ne4 (by omega))
    · rw [e2, nI_eq (by omega) (by omega)]; exact hiff
  unfold t_tp t_wo
  rcases at_ex y (nI c) (nI 6) with e | ⟨k, hk, e⟩
  · rw [if_pos e, sI_zero _ (fun k hk => ?_)]
    · rfl
    · refine if_neg (fun q => ?_)
      exact at_no hn e k hk ⟨q.1, (six k hk q.1).mpr q.2⟩
  · obtain ⟨h1, h2⟩ := at_sp hn hk e
    rw [if_neg (by rw [e]; exact nI_ne4 (by omega)), e]
    show y_w y (nI k).toNatClampNeg = _
    rw [nI_clamp (by omega), sI_one (i := k) _ hk (fun j hj hne => if_neg (fun q => ?_)), if_pos ⟨h1, (six k hk h1).mp h2⟩]
    have hp : y_pl y j = y_pl y k := ((six j hj q.1).mpr q.2).trans h2.symm
    have hcq : y_cu y j = y_cu y k := q.1.trans h1.symm
    have n4 : ∀ i, y_cu y i = nI c → ¬ y_cu y i = -4 := fun i a b => nI_ne4 (by omega) (a.symm.trans b)
    rcases Nat.lt_or_gt_of_ne hne with hl | hl
    · exact hD j k hl hk hcq (n4 k h1) hp
    · exact hD k j hl hj hcq.symm (n4 j q.1) hp.symm
/-- the law's tenths of a thing -/
theorem tt_law {y : YS} (hy : yI y) {c k : Nat} {z : Int32} (hc : c < y_cn y) (hk : k < y_n y) (he : y_cu y k = nI c) :
    y_w y k * (if y_pl y k = nI 6 then nI 5 else if z = 0 then nI 2 * (nI 5 - y_pl y k) else nI 2 * y_pl y k) = t_tt y k z := by
  have hcn := hy.2.1
  obtain ⟨hkd, -, hcu⟩ := hy.2.2.2.1 k hk
  rcases hcu with ⟨e, -⟩ | ⟨c', q, hc', hq, e1, e2, hiff⟩
  · exact absurd (he.symm.trans e) (nI_ne4 (by omega))
  · have h6 : y_pl y k = nI 6 ↔ y_kd y k = nI 1 := by rw [e2, nI_eq (by omega) (by omega)]; exact hiff
    unfold t_tt
    by_cases h : y_kd y k = nI 1
    · rw [if_pos h, if_pos (h6.mpr h)]
    · rw [if_neg h, if_neg (fun q => h (h6.mp q))]
      by_cases hz : z = 0
      · rw [if_pos hz, if_pos hz, Int32.mul_assoc]
      · rw [if_neg hz, if_neg hz, Int32.mul_assoc]
/-! WHAT THE FACE ANSWERS IN ITS BOUNDS -/
theorem a_at_in {y : YS} {c q : Nat} (hc : c < y_cn y) (hcn : y_cn y ≤ 4) (hq : q ≤ 6) : a_at y (nI c) (nI q) = t_at y (nI c) (nI q) := by
  unfold a_at
  rw [if_neg (fun h => h ⟨nI_pos (by omega), by rw [nI_leI (by omega) (by omega)]; omega⟩), if_neg]
  rintro (h | h)
  · exact nI_pos (by omega) h
  · exact h ((nI_leI (by omega) (by decide)).mpr hq)
theorem p_inN {n k : Nat} (hk : k < n) (hn : n ≤ 60) : p_in (nI k) n := ⟨nI_pos (by omega), by rw [nI_leI (by omega) (by omega)]; omega⟩
theorem a_th {y : YS} {k : Nat} (hk : k < y_n y) (hn : y_n y ≤ 12) : a_thing y (nI k) (nI 0) = y_kd y k ∧ a_thing y (nI k) (nI 1) = y_w y k ∧ a_thing y (nI k) (nI 2) = y_cu y k ∧ a_thing y (nI k) (nI 3) = y_pl y k := by
  have h := p_inN hk (by omega)
  have e : ixI (nI k) = k := nI_clamp (by omega)
  refine ⟨?_, ?_, ?_, ?_⟩
  · unfold a_thing; rw [if_neg (fun q => q h), if_pos rfl, e]
  · unfold a_thing; rw [if_neg (fun q => q h), if_neg (show ¬ nI 1 = nI 0 by decide), if_pos rfl, e]
  · unfold a_thing; rw [if_neg (fun q => q h), if_neg (show ¬ nI 2 = nI 0 by decide), if_neg (show ¬ nI 2 = nI 1 by decide), if_pos rfl, e]
  · unfold a_thing; rw [if_neg (fun q => q h), if_neg (show ¬ nI 3 = nI 0 by decide), if_neg (show ¬ nI 3 = nI 1 by decide), if_neg (show ¬ nI 3 = nI 2 by decide), if_pos rfl, e]
theorem a_wt {tx : List Nat} {i : Nat} (hi : i < tx.length) (hn : tx.length ≤ 60) : a_wtC tx (nI i) = nI (tx.getD i 0) := by
  unfold a_wtC
  rw [if_pos (p_inN hi (by omega))]
  show nI (tx.getD (nI i).toNatClampNeg 0) = _
  rw [nI_clamp (by omega)]
/-- the law's own row of weights -/
abbrev WZ : Type := Nat × (Nat → Int32)
abbrev w_n (z : WZ) : Nat := z.1
abbrev w_f (z : WZ) : Nat → Int32 := z.2
def WV (ct : Nat → ClassId) (v : Nat → Nat) (z : WZ) (R : va_W) : va_W := (v 0, aI ct (w_n z) (w_f z)) :: R
theorem least_w {w : Int32} {p : Nat} (hp : p < 6) : w * (nI 10 - nI (4 * p)) = (w * nI 2) * (nI 5 - nI (2 * p)) := by
  rw [Int32.mul_assoc]
  congr 1
  rcases (show p = 0 ∨ p = 1 ∨ p = 2 ∨ p = 3 ∨ p = 4 ∨ p = 5 by omega) with rfl | rfl | rfl | rfl | rfl | rfl <;> decide
/-! CHANGES THAT CAN'T FAIL -/
theorem sm_lt2 (g : XG) (k n : Nat) (h : 1 ≤ n) : sm g k n < n := sm_lt g k h
theorem acc_0 {y : YS} {l c : Nat} : a_acc y l c (nI 0) = nI (y_n y) := if_pos rfl
theorem acc_4 {y : YS} {l c : Nat} : a_acc y l c (nI 4) = nI (y_cn y) := by
  unfold a_acc
  rw [if_neg (by decide), if_neg (by decide), if_neg (by decide), if_neg (by decide), if_pos rfl]
theorem hz_ok {hz : HS} {y : YS} {x : Int32} (h1 : hz.1 ≤ 8) (h2 : hz.2.1 ≤ 8) : (F_set (hz.1, hz.2.1, upS hz.2.2 hz.1 y) x).2.1 ≤ 8 ∧ (F_set (hz.1, hz.2.1, upS hz.2.2 hz.1 y) x).2.2.1 ≤ 8 := by
  unfold F_set
  split
  · exact ⟨h1, h2⟩
  · refine ⟨?_, ?_⟩
    · show (if 8 ≤ hz.1 then 0 else hz.1 + 1) ≤ 8
      split <;> omega
    · show (if hz.2.1 < 8 then hz.2.1 + 1 else 8) ≤ 8
      split <;> omega
theorem addT_ok {y : YS} {rs : RS} {kd : Int32} {w mx : Nat} (hw : 1 ≤ w) (hm : w ≤ mx) (hmx : mx ≤ 54) (hn : y_n y < 12) :
    y_n (f_addT y rs kd (nI w) (nI mx)).2.1 = y_n y + 1 ∧ y_cn (f_addT y rs kd (nI w) (nI mx)).2.1 = y_cn y ∧ y_rn (f_addT y rs kd (nI w) (nI mx)).2.1 = y_rn y := by
  unfold f_addT
  rw [if_neg, if_pos hn]
  · exact ⟨rfl, rfl, rfl⟩
  · rintro (h | h)
    · rw [nI_ltI (by omega) (by omega)] at h; omega
    · exact h ((nI_leI (by omega) (by omega)).mpr hm)
theorem addC_ok {y : YS} {rs : RS} {w : Nat} (hw : 1 ≤ w) (hm : w ≤ 60) (hn : y_cn y < 4) :
    y_n (f_addC y rs (nI w)).2.1 = y_n y ∧ y_cn (f_addC y rs (nI w)).2.1 = y_cn y + 1 ∧ y_rn (f_addC y rs (nI w)).2.1 = y_rn y := by
  unfold f_addC
  rw [if_neg, if_pos hn]
  · exact ⟨rfl, rfl, rfl⟩
  · rintro (h | h)
    · rw [nI_ltI (by omega) (by omega)] at h; omega
    · exact h ((nI_leI (by omega) (by omega)).mpr hm)
theorem addR_ok {y : YS} {rs : RS} {li mi ra : Nat} (h1 : 1 ≤ li) (h2 : li ≤ 99) (h3 : 1 ≤ mi) (h4 : mi ≤ 9) (h5 : ra ≤ 9) (hn : y_rn y < 5) :
    y_n (f_addR y rs (nI li) (nI mi) (nI ra)).2.1 = y_n y ∧ y_cn (f_addR y rs (nI li) (nI mi) (nI ra)).2.1 = y_cn y ∧ y_rn (f_addR y rs (nI li) (nI mi) (nI ra)).2.1 = y_rn y + 1 := by
  unfold f_addR
  rw [if_neg, if_pos hn]
  · exact ⟨rfl, rfl, rfl⟩
  · rintro (h | h | h | h | h | h)
    · rw [nI_ltI (by omega) (by omega)] at h; omega
    · rw [nI_ltI (by omega) (by omega)] at h; omega
    · rw [nI_ltI (by omega) (by omega)] at h; omega
    · rw [nI_ltI (by omega) (by omega)] at h; omega
    · exact nI_pos (by omega) h
    · exact h ((nI_leI (by omega) (by omega)).mpr h5)
/-- what holds of the yard while it is built -/
def B43 (y : YS) : Prop := yJ y ∧ sums y
theorem B43_cmd {y : YS} (rs : RS) (c : Nat) (x1 x2 x3 : Int32) (h : B43 y) : B43 (f_cmd c y rs x1 x2 x3).2.1 := by
  have hy := (yJ_i h.1).1
  exact ⟨yJ_c y rs c x1 x2 x3 h.1, sums_cmd rs c x1 x2 x3 hy.2.1 hy.2.2.1 h.2⟩
theorem put_ok {y : YS} {rs : RS} {a b d : Int32} : y_n (f_put y rs a b d).2.1 = y_n y ∧ y_cn (f_put y rs a b d).2.1 = y_cn y ∧ y_rn (f_put y rs a b d).2.1 = y_rn y := by
  unfold f_put
  repeat' split
  all_goals exact ⟨rfl, rfl, rfl⟩
