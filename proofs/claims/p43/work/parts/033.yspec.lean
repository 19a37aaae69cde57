/-! WHAT THE YARD'S METHODS ANSWER -/
def sN (f : Nat → Nat) : Nat → Nat
  | 0 => 0
  | n + 1 => sN f n + f n
def cN (q : Nat → Bool) : Nat → Nat
  | 0 => 0
  | n + 1 => cN q n + (if q n = true then 1 else 0)
theorem cN_le (q : Nat → Bool) : ∀ n, cN q n ≤ n
  | 0 => Nat.le_refl 0
  | n + 1 => by
    have := cN_le q n
    unfold cN
    split <;> omega
abbrev p_in (x : Int32) (n : Nat) : Prop := ¬ x < 0 ∧ ¬ nI n ≤ x
def t_at (y : YS) (x z : Int32) : Int32 := atI (fun k => decide (y_cu y k = x ∧ y_pl y k = z)) (y_n y)
def t_pn (y : YS) (x : Int32) : Nat := cN (fun k => decide (y_cu y k = x ∧ y_kd y k = 0)) (y_n y)
def t_wo (y : YS) (x z : Int32) : Int32 := sI (fun k => if y_cu y k = x ∧ y_kd y k = z then y_w y k else 0) (y_n y)
abbrev t_all (y : YS) (x : Int32) : Int32 := t_wo y x (nI 0) + t_wo y x (nI 1)
def t_wcs (y : YS) : Int32 := sI (fun k => t_all y (nI k)) (y_cn y)
def t_tk (y : YS) (z : Int32) : Nat := cN (fun k => decide (y_kd y k = z)) (y_n y)
def t_tc (y : YS) : Nat := cN (fun k => decide (¬ y_cu y k = -4)) (y_n y)
def wix (c : Nat) (z : Int32) : Nat := if z = 0 then 2 * c else 2 * c + 1
theorem wix_lt {c : Nat} {z : Int32} (h : c < 4) : wix c z < 8 := by unfold wix; split <;> omega
theorem wix_0 (c : Nat) : wix c (nI 0) = 2 * c := rfl
theorem wix_1 (c : Nat) : wix c (nI 1) = 2 * c + 1 := rfl
abbrev p_worn (v : UInt32) : Prop := ¬ Op.cmpValue (FP.fcmp v FP.fconst1) CmpOp.l < 0
def t_wn (y : YS) (c : Nat) : Nat := (if p_worn (y_wr y (wix c (nI 0))) then 1 else 0) + (if p_worn (y_wr y (wix c (nI 1))) then 1 else 0)
theorem t_wn_le (y : YS) (c : Nat) : t_wn y c ≤ 2 := by unfold t_wn; split <;> split <;> omega
def t_awn (y : YS) : Nat := sN (fun c => t_wn y c) (y_cn y)
def t_ts (y : YS) : Int32 := sI (fun c => y_tr y c) (y_cn y)
abbrev p_wi (y : YS) (x : Int32) (r : Nat) : Prop := ¬ y_li y r < t_all y x
