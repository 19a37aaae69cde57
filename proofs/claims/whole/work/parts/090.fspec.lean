/-! THE FACE: what its calls answer -/
def a_tenG (y : YS) (x z : Int32) : Int32 := if p_in x (y_cn y) then t_to y x z else -1
def a_couC (y : YS) (x1 x2 : Int32) : Int32 := if ¬ p_in x1 (y_cn y) ∨ ¬ p_in x2 (y_rn y) then -1 else nI (t_trips y (ixI x1) (ixI x2))
def a_chC (y : YS) (x : Int32) : Int32 := if p_in x (y_cn y) then t_chC y (ixI x) else -1
def a_rsC (rs : RS) (d z : Int32) : Int32 := if d = 0 then (if z = 0 then rs.1 else rs.2.1) else if d = nI 1 then (if z = 0 then rs.2.2.1 else rs.2.2.2) else -2
def F_bstC (y : YS) (b : BS) (x : Int32) : Int32 × BS := if p_in x (y_cn y) then (lsC (b_w (gatB y x b)) (b_n (gatB y x b)) 0 (nI 0) (nI 0), gatB y x b) else (-1, b)
def F_bsgC (y : YS) (b : BS) (x : Int32) : Int32 × BS := if p_in x (y_cn y) then (losB (setB (gatB y x b)) (2 ^ b_n (gatB y x b) - 1), setB (gatB y x b)) else (-1, b)
def F_resC (y sy : YS) (sv : Int32) (h : HS) : Int32 × YS × HS := if sv = 0 then (-4, y, h) else (nI (y_n sy), sy, (h.1, 0, h.2.2))
theorem tkW (y : YS) (x : Int32) (k : Nat) : tkF y x (k + 1) = if p_wi y x k then tkF y x k ||| (nI 1 <<< (nI k &&& 31)) else tkF y x k := rfl
