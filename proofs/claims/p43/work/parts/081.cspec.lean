/-! THE CLASS: orders, the changes before -/
abbrev p_btC (y : YS) (c k f : Nat) : Prop := (¬ p_eql (t_toll y c k) (t_toll y c f) ∧ ¬ 0 ≤ Op.cmpValue (FP.fcmp (t_toll y c k) (t_toll y c f)) CmpOp.g) ∨ (p_eql (t_toll y c k) (t_toll y c f) ∧ ¬ y_mi y f ≤ y_mi y k)
def chC (y : YS) (c : Nat) : Nat → Option Nat
  | 0 => none
  | k + 1 => if p_wi y (nI c) k then (match chC y c k with
    | none => some k
    | some f => if p_btC y c k f then some k else some f) else chC y c k
def t_chC (y : YS) (x : Nat) : Int32 := if t_at y (nI x) (nI 6) = -4 then -4 else foI (chC y x (y_rn y))
abbrev HS : Type := Nat × Nat × (Nat → YS)
def F_set (h : HS) (x : Int32) : Int32 × HS := if x < 0 then (x, h) else (x, (if 8 ≤ h.1 then 0 else h.1 + 1), (if h.2.1 < 8 then h.2.1 + 1 else 8), h.2.2)
def bk (n : Nat) : Nat := if n = 0 then 8 else n - 1
def F_back (y : YS) (h : HS) : Int32 × YS × HS := if h.2.1 = 0 then (-4, y, h) else (nI (h.2.1 - 1), h.2.2 (bk h.1), (bk h.1, h.2.1 - 1, h.2.2))
theorem min_c8 {c : Nat} (h : c ≤ 8) : (if nI 8 < nI (c + 1) then nI 8 else nI (c + 1)) = nI (if c < 8 then c + 1 else 8) := by
  by_cases e : c < 8
  · rw [if_pos e, if_neg (fun q => by rw [nI_ltI (by decide) (by omega)] at q; omega)]
  · rw [if_neg e, if_pos (by rw [nI_ltI (by decide) (by omega)]; omega)]
