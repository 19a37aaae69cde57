/-! THE WORLDS: a yard, and what works on it -/
abbrev YS : Type := Nat × (Nat → Int32) × (Nat → Int32) × (Nat → Int32) × (Nat → Int32) × Nat × (Nat → Int32) × (Nat → UInt32) × (Nat → Int32) × Nat × (Nat → Int32) × (Nat → Int32) × (Nat → Int32) × (Nat → Int32) × UInt32 × Int32
abbrev y_n (y : YS) : Nat := y.1
abbrev y_kd (y : YS) : Nat → Int32 := y.2.1
abbrev y_w (y : YS) : Nat → Int32 := y.2.2.1
abbrev y_cu (y : YS) : Nat → Int32 := y.2.2.2.1
abbrev y_pl (y : YS) : Nat → Int32 := y.2.2.2.2.1
abbrev y_cn (y : YS) : Nat := y.2.2.2.2.2.1
abbrev y_st (y : YS) : Nat → Int32 := y.2.2.2.2.2.2.1
abbrev y_wr (y : YS) : Nat → UInt32 := y.2.2.2.2.2.2.2.1
abbrev y_tr (y : YS) : Nat → Int32 := y.2.2.2.2.2.2.2.2.1
abbrev y_rn (y : YS) : Nat := y.2.2.2.2.2.2.2.2.2.1
abbrev y_li (y : YS) : Nat → Int32 := y.2.2.2.2.2.2.2.2.2.2.1
abbrev y_mi (y : YS) : Nat → Int32 := y.2.2.2.2.2.2.2.2.2.2.2.1
abbrev y_ra (y : YS) : Nat → Int32 := y.2.2.2.2.2.2.2.2.2.2.2.2.1
abbrev y_rt (y : YS) : Nat → Int32 := y.2.2.2.2.2.2.2.2.2.2.2.2.2.1
abbrev y_tl (y : YS) : UInt32 := y.2.2.2.2.2.2.2.2.2.2.2.2.2.2.1
abbrev y_mm (y : YS) : Int32 := y.2.2.2.2.2.2.2.2.2.2.2.2.2.2.2
abbrev aI (ct : Nat → ClassId) (n : Nat) (f : Nat → Int32) : va_E := .inl (ct 0, n, .inl f)
abbrev aF (ct : Nat → ClassId) (n : Nat) (f : Nat → UInt32) : va_E := .inl (ct 1, n, .inr (.inr (.inl f)))
abbrev aL (ct : Nat → ClassId) (n : Nat) (f : Nat → Int64) : va_E := .inl (ct 2, n, .inr (.inl f))
abbrev aC (ct : Nat → ClassId) (n : Nat) (f : Nat → Int32) : va_E := .inl (ct 3, n, .inl f)
abbrev oYard (a : Nat → Nat) (y : YS) : va_E := .inr (8, [.int (nI (y_n y)), .ref (a 1), .ref (a 2), .ref (a 3), .ref (a 4), .int (nI (y_cn y)), .ref (a 5), .ref (a 6), .ref (a 7), .int (nI (y_rn y)), .ref (a 8), .ref (a 9), .ref (a 10), .ref (a 11), .float (y_tl y), .int (y_mm y)])
/-- a yard's cells, and the rest -/
def YW (ct : Nat → ClassId) (a : Nat → Nat) (y : YS) (R : va_W) : va_W :=
  (a 0, oYard a y) :: (a 1, aI ct 12 (y_kd y)) :: (a 2, aI ct 12 (y_w y)) :: (a 3, aI ct 12 (y_cu y)) :: (a 4, aI ct 12 (y_pl y)) :: (a 5, aI ct 4 (y_st y)) :: (a 6, aF ct 8 (y_wr y)) :: (a 7, aI ct 4 (y_tr y)) :: (a 8, aI ct 5 (y_li y)) :: (a 9, aI ct 5 (y_mi y)) :: (a 10, aI ct 5 (y_ra y)) :: (a 11, aI ct 5 (y_rt y)) :: R
abbrev RS : Type := Int32 × Int32 × Int32 × Int32
/-- behind the yard: scale, reasons, works, orders -/
abbrev KR (a b : Nat → Nat) (rs : RS) (R : va_W) : va_W :=
  (b 0, .inr (6, [.ref (a 0)])) :: (b 1, .inr (5, [.int rs.1, .int rs.2.1, .int rs.2.2.1, .int rs.2.2.2])) :: (b 2, .inr (7, [.ref (a 0), .ref (b 0), .ref (b 1)])) :: (b 3, .inr (4, [.ref (a 0), .ref (b 0)])) :: R
abbrev KW (ct : Nat → ClassId) (a b : Nat → Nat) (y : YS) (rs : RS) (R : va_W) : va_W := YW ct a y (KR a b rs R)
/-- sums -/
def sI (f : Nat → Int32) : Nat → Int32
  | 0 => nI 0
  | n + 1 => sI f n + f n
/-- the first below n; n if there is none -/
def fst (q : Nat → Bool) : Nat → Nat
  | 0 => 0
  | n + 1 => if fst q n < n then fst q n else if q n then n else n + 1
theorem fst_le (q : Nat → Bool) : ∀ n, fst q n ≤ n
  | 0 => Nat.le_refl 0
  | n + 1 => by
    have ih := fst_le q n
    unfold fst
    by_cases h : fst q n < n
    · rw [if_pos h]; omega
    · rw [if_neg h]
      by_cases h2 : q n
      · rw [if_pos h2]; omega
      · rw [if_neg h2]; omega
theorem fst_none {q : Nat → Bool} : ∀ {n}, (∀ j, j < n → q j = false) → fst q n = n
  | 0, _ => rfl
  | n + 1, h => by
    have ih := fst_none (q := q) (n := n) (fun j hj => h j (by omega))
    unfold fst
    rw [ih, if_neg (Nat.lt_irrefl n), h n (Nat.lt_succ_self n)]
    rfl
theorem fst_some {q : Nat → Bool} {k : Nat} (hk : q k = true) (h : ∀ j, j < k → q j = false) : ∀ {n}, k < n → fst q n = k
  | 0, hn => absurd hn (Nat.not_lt_zero k)
  | n + 1, hn => by
    rcases Nat.lt_or_ge k n with h1 | h1
    · have ih := fst_some hk h h1
      unfold fst
      rw [ih, if_pos h1]
    · have e : k = n := by omega
      subst e
      have ih := fst_none (q := q) (n := k) h
      unfold fst
      rw [ih, if_neg (Nat.lt_irrefl k), if_pos hk]
def atI (q : Nat → Bool) (n : Nat) : Int32 := if fst q n < n then nI (fst q n) else -4
theorem atI_none {q : Nat → Bool} {n : Nat} (h : ∀ j, j < n → q j = false) : atI q n = -4 := by
  unfold atI; rw [fst_none h, if_neg (Nat.lt_irrefl n)]
theorem atI_some {q : Nat → Bool} {n k : Nat} (hk : q k = true) (h : ∀ j, j < k → q j = false) (hn : k < n) : atI q n = nI k := by
  unfold atI; rw [fst_some hk h hn, if_pos hn]
