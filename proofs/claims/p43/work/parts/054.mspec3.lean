/-! THE REFERENCE: rows copied, laid down, taken back -/
def cpb (g : Nat → Int32) (w fr to k : Nat) : Nat → Int32 := fun j => if w * to ≤ j ∧ j < w * to + k then g (w * fr + (j - w * to)) else g j
def cpf (g : Nat → UInt32) (w fr to k : Nat) : Nat → UInt32 := fun j => if w * to ≤ j ∧ j < w * to + k then g (w * fr + (j - w * to)) else g j
theorem cpb_0 (g : Nat → Int32) (w fr to : Nat) : cpb g w fr to 0 = g := by
  funext j; unfold cpb; rw [if_neg (by omega)]
theorem cpf_0 (g : Nat → UInt32) (w fr to : Nat) : cpf g w fr to 0 = g := by
  funext j; unfold cpf; rw [if_neg (by omega)]
theorem blk_no {w fr to k : Nat} (hk : k < w) (h : w * to ≤ w * fr + k ∧ w * fr + k < w * to + k) : False := by
  obtain ⟨h1, h2⟩ := h
  have h3 : w * fr < w * to := by omega
  have h4 : fr < to := Nat.lt_of_mul_lt_mul_left h3
  have h5 : w * (fr + 1) ≤ w * to := Nat.mul_le_mul_left w h4
  rw [Nat.mul_add, Nat.mul_one] at h5
  omega
theorem cpb_s {g : Nat → Int32} {w fr to k : Nat} (hk : k < w) : upd (cpb g w fr to k) (w * to + k) (cpb g w fr to k (w * fr + k)) = cpb g w fr to (k + 1) := by
  funext j
  unfold upd
  by_cases hj : j = w * to + k
  · subst hj
    rw [if_pos rfl]
    unfold cpb
    rw [if_neg (fun h => blk_no hk h), if_pos (by omega), show w * fr + (w * to + k - w * to) = w * fr + k by omega]
  · rw [if_neg hj]
    unfold cpb
    by_cases h : w * to ≤ j ∧ j < w * to + k
    · rw [if_pos h, if_pos (by omega)]
    · rw [if_neg h, if_neg (by omega)]
theorem cpf_s {g : Nat → UInt32} {w fr to k : Nat} (hk : k < w) : vf_upd (cpf g w fr to k) (w * to + k) (cpf g w fr to k (w * fr + k)) = cpf g w fr to (k + 1) := by
  funext j
  unfold vf_upd
  by_cases hj : j = w * to + k
  · subst hj
    rw [if_pos rfl]
    unfold cpf
    rw [if_neg (fun h => blk_no hk h), if_pos (by omega), show w * fr + (w * to + k - w * to) = w * fr + k by omega]
  · rw [if_neg hj]
    unfold cpf
    by_cases h : w * to ≤ j ∧ j < w * to + k
    · rw [if_pos h, if_pos (by omega)]
    · rw [if_neg h, if_neg (by omega)]
def zrb (g : Nat → Int32) (k : Nat) : Nat → Int32 := fun j => if j < k then nI 0 else g j
def zrf (g : Nat → UInt32) (k : Nat) : Nat → UInt32 := fun j => if j < k then FP.fconst0 else g j
theorem zrb_0 (g : Nat → Int32) : zrb g 0 = g := by funext j; unfold zrb; rw [if_neg (by omega)]
theorem zrf_0 (g : Nat → UInt32) : zrf g 0 = g := by funext j; unfold zrf; rw [if_neg (by omega)]
theorem zrb_s {g : Nat → Int32} {k : Nat} : upd (zrb g k) k (nI 0) = zrb g (k + 1) := by
  funext j
  unfold upd zrb
  by_cases hj : j = k
  · subst hj; rw [if_pos rfl, if_pos (by omega)]
  · rw [if_neg hj]
    by_cases h : j < k
    · rw [if_pos h, if_pos (by omega)]
    · rw [if_neg h, if_neg (by omega)]
theorem zrf_s {g : Nat → UInt32} {k : Nat} : vf_upd (zrf g k) k FP.fconst0 = zrf g (k + 1) := by
  funext j
  unfold vf_upd zrf
  by_cases hj : j = k
  · subst hj; rw [if_pos rfl, if_pos (by omega)]
  · rw [if_neg hj]
    by_cases h : j < k
    · rw [if_pos h, if_pos (by omega)]
    · rw [if_neg h, if_neg (by omega)]
/-- block k+1 onto block k, for k from 1 to j -/
def shB (g : Nat → Int32) : Nat → Nat → Int32
  | 0 => g
  | j + 1 => cpb (shB g j) 81 (j + 2) (j + 1) 81
def shF (g : Nat → UInt32) : Nat → Nat → UInt32
  | 0 => g
  | j + 1 => cpf (shF g j) 9 (j + 2) (j + 1) 9
theorem shB_s {g : Nat → Int32} {k : Nat} (h : 1 ≤ k) : cpb (shB g (k - 1)) 81 (k + 1) k 81 = shB g (k + 1 - 1) := by
  obtain ⟨j, rfl⟩ : ∃ j, k = j + 1 := ⟨k - 1, by omega⟩
  rfl
theorem shF_s {g : Nat → UInt32} {k : Nat} (h : 1 ≤ k) : cpf (shF g (k - 1)) 9 (k + 1) k 9 = shF g (k + 1 - 1) := by
  obtain ⟨j, rfl⟩ : ∃ j, k = j + 1 := ⟨k - 1, by omega⟩
  rfl
def a_rsn (why det li ld d z : Int32) : Int32 :=
  if ¬ p_rng d (nI 0) (nI 1) then -2
  else if d = 0 then (if why = 0 then -4 else if z = 0 then why else det)
  else (if li = 0 then -4 else if z = 0 then li else ld)
def t_swk (y : YS) (z : Int32) : Int32 := sI (fun k => if z = nI 2 ∨ y_kd y k = z then y_w y k else 0) (y_n y)
theorem swk_2 (y : YS) : t_swk y (nI 2) = t_sw y := by
  unfold t_swk t_sw
  congr 1
/-- the reference's three counts over the carts -/
def t_oc3 (y : YS) (fl : Nat → UInt32) (x : Int32) : Int32 := sI (fun k => if x = 0 then t_all y (nI k) else if x = nI 1 then nI (t_cr y k) else nI ((if p_worn (fl (wix k (nI 0))) then 1 else 0) + (if p_worn (fl (wix k (nI 1))) then 1 else 0))) (y_cn y)
theorem sI_sN (f : Nat → Nat) : ∀ n, sI (fun k => nI (f k)) n = nI (sN f n)
  | 0 => rfl
  | n + 1 => by rw [sI, sN, sI_sN f n, nI_add]
theorem sI_cg {f g : Nat → Int32} : ∀ {n : Nat}, (∀ k, k < n → f k = g k) → sI f n = sI g n
  | 0, _ => rfl
  | n + 1, h => by rw [sI, sI, sI_cg (fun k hk => h k (by omega)), h n (Nat.lt_succ_self n)]
theorem oc3_0 (y : YS) (fl : Nat → UInt32) : t_oc3 y fl 0 = t_wcs y := rfl
theorem oc3_1 (y : YS) (fl : Nat → UInt32) : t_oc3 y fl (nI 1) = nI (t_acr y) := by
  unfold t_oc3 t_acr
  rw [← sI_sN]
  exact sI_cg (fun k _ => by rw [if_neg (by decide), if_pos rfl])
theorem oc3_2 {y : YS} {fl : Nat → UInt32} (h : ∀ j, j < 2 * y_cn y → fl j = y_wr y j) : t_oc3 y fl (nI 2) = nI (t_awn y) := by
  unfold t_oc3 t_awn
  rw [← sI_sN]
  exact sI_cg (fun k hk => by
    show (if nI 2 = 0 then _ else if nI 2 = nI 1 then _ else _) = _
    rw [if_neg (by decide), if_neg (by decide), h _ (wix_lt2 hk), h _ (wix_lt2 hk)]
    rfl)
/-- the reference's count of things: of a kind, or on carts -/
def t_th (y : YS) (x : Int32) : Int32 := sI (fun k => if x = nI 2 then (if y_cu y k = -4 then 0 else nI 1) else if y_kd y k = x then nI 1 else 0) (y_n y)
theorem th_k (y : YS) {x : Int32} (h : ¬ x = nI 2) : t_th y x = nI (t_tk y x) := by
  unfold t_th t_tk
  generalize y_n y = n
  induction n with
  | zero => rfl
  | succ n ih =>
    rw [sI, cN, ih, if_neg h]
    by_cases h : y_kd y n = x
    · rw [if_pos h, if_pos (decide_eq_true h), nI_add]
    · rw [if_neg h, if_neg (by rw [decide_eq_true_eq]; exact h)]; exact Int32.add_zero _
theorem th_2 (y : YS) : t_th y (nI 2) = nI (t_tc y) := by
  unfold t_th t_tc
  generalize y_n y = n
  induction n with
  | zero => rfl
  | succ n ih =>
    rw [sI, cN, ih, if_pos rfl]
    by_cases h : y_cu y n = -4
    · rw [if_pos h, if_neg (by rw [decide_eq_true_eq]; exact fun q => q h)]; exact Int32.add_zero _
    · rw [if_neg h, if_pos (decide_eq_true h), nI_add]
theorem oc3_00 (y : YS) (fl : Nat → UInt32) : t_oc3 y fl (nI 0) = t_wcs y := rfl
