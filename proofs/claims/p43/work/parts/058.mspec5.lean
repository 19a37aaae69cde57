/-! THE REFERENCE: trips, the order of roads, the best balance, what is taken back -/
def goneM (y : YS) (v : MS) (c r : Nat) : MS :=
  mGF v (markG (m_g v) c r) (m_fl (F_wearsr y (F_wearsf y (mGF v (m_g v) (vf_upd (m_fl v) 8 (FP.fadd (m_fl v 8) (t_toll y c r)))) c r) c r))
def F_goes (y : YS) (v : MS) (x1 x2 : Int32) : Int32 × MS :=
  if ¬ p_in x1 (y_cn y) ∨ ¬ p_in x2 (y_rn y) then (-1, v)
  else if t_oc y x1 (nI 1) = 0 then (-3, mRef v (nI 8) (t_oc y x1 (nI 0)))
  else if ¬ t_all y x1 - y_li y (ixI x2) ≤ 0 then (-3, mRef v (nI 9) (t_all y x1 - y_li y (ixI x2)))
  else if p_worn (m_fl v (wix (ixI x1) (nI 0))) then (-3, mRef v (nI 10) (nI 0))
  else if p_worn (m_fl v (wix (ixI x1) (nI 1))) then (-3, mRef v (nI 10) (nI 1))
  else (nI (t_cr y (ixI x1)), goneM y v (ixI x1) (ixI x2))
abbrev p_eq0 (x : UInt32) : Prop := Op.cmpValue (FP.fcmp x FP.fconst0) CmpOp.l = 0
def F_grs (y : YS) (v : MS) (x1 : Int32) : Int32 × MS :=
  if ¬ p_in x1 (y_cn y) then (-1, v)
  else if p_eq0 (m_fl v (wix (ixI x1) (nI 0))) ∧ p_eq0 (m_fl v (wix (ixI x1) (nI 1))) then (-3, mRef v (nI 11) x1)
  else (nI ((if p_worn (m_fl v (wix (ixI x1) (nI 0))) then 1 else 0) + (if p_worn (m_fl v (wix (ixI x1) (nI 1))) then 1 else 0)), mGF v (m_g v) (vf_upd (vf_upd (m_fl v) (2 * ixI x1) FP.fconst0) (2 * ixI x1 + 1) FP.fconst0))
theorem adds_ch {y : YS} {v : MS} {a b : Int32} (h : m_ch v ≤ 8) : m_ch (F_adds y v a b).2 ≤ 8 := by
  unfold F_adds; repeat' split
  all_goals exact h
theorem addC_ch {y : YS} {v : MS} {a : Int32} (h : m_ch v ≤ 8) : m_ch (F_addC y v a).2 ≤ 8 := by
  unfold F_addC; repeat' split
  all_goals exact h
theorem addR_ch {y : YS} {v : MS} {a b c : Int32} (h : m_ch v ≤ 8) : m_ch (F_addR y v a b c).2 ≤ 8 := by
  unfold F_addR; repeat' split
  all_goals exact h
theorem put_ch {y : YS} {v : MS} {a b c : Int32} (h : m_ch v ≤ 8) : m_ch (F_put y v a b c).2 ≤ 8 := by
  unfold F_put; repeat' split
  all_goals exact h
theorem off_ch {y : YS} {v : MS} {a : Int32} (h : m_ch v ≤ 8) : m_ch (F_off y v a).2 ≤ 8 := by
  unfold F_off; repeat' split
  all_goals exact h
theorem swap_ch {y : YS} {v : MS} {a b c : Int32} (h : m_ch v ≤ 8) : m_ch (F_swap y v a b c).2 ≤ 8 := by
  unfold F_swap; repeat' split
  all_goals exact h
theorem goes_ch {y : YS} {v : MS} {a b : Int32} (h : m_ch v ≤ 8) : m_ch (F_goes y v a b).2 ≤ 8 := by
  unfold F_goes; repeat' split
  all_goals exact h
theorem grs_ch {y : YS} {v : MS} {a : Int32} (h : m_ch v ≤ 8) : m_ch (F_grs y v a).2 ≤ 8 := by
  unfold F_grs; repeat' split
  all_goals exact h
theorem wearsf_nF {y : YS} (hy : yI y) {v : MS} {c r : Nat} (hc : c < y_cn y) (hr : r < y_rn y) (h : ∀ j, j < 9 → nF (m_fl v j)) : ∀ j, j < 9 → nF (m_fl (F_wearsf y v c r) j) := by
  intro j hj
  show nF (vf_upd (m_fl v) (2 * c + 0) _ j)
  unfold vf_upd
  split
  · exact nF_add (h _ (by have := hy.2.1; omega)) (wt_nF hy hc hr)
  · exact h j hj
theorem wearsr_nF {y : YS} (hy : yI y) {v : MS} {c r : Nat} (hc : c < y_cn y) (hr : r < y_rn y) (h : ∀ j, j < 9 → nF (m_fl v j)) : ∀ j, j < 9 → nF (m_fl (F_wearsr y v c r) j) := by
  intro j hj
  show nF (vf_upd (m_fl v) (2 * c + 1) _ j)
  unfold vf_upd
  split
  · exact nF_add (h _ (by have := hy.2.1; omega)) (wt_nF hy hc hr)
  · exact h j hj
theorem toll8_nF {y : YS} (hy : yI y) {fl : Nat → UInt32} {c r : Nat} (hr : r < y_rn y) (h : ∀ j, j < 9 → nF (fl j)) : ∀ j, j < 9 → nF (vf_upd fl 8 (FP.fadd (fl 8) (t_toll y c r)) j) := by
  intro j hj
  unfold vf_upd
  split
  · exact nF_add (h _ (by omega)) (toll_nF hy hr)
  · exact h j hj
theorem nF89 {fl : Nat → UInt32} (h : ∀ j, j < 9 → nF (fl j)) : ∀ j, j < 8 → nF (fl j) := fun j hj => h j (by omega)
theorem cpf_lo {g : Nat → UInt32} {fr to : Nat} (ht : 1 ≤ to) {j : Nat} (hj : j < 9) : cpf g 9 fr to 9 j = g j := by unfold cpf; rw [if_neg (by omega)]
theorem cpf_nF {g : Nat → UInt32} {fr to : Nat} (ht : 1 ≤ to) (h : ∀ j, j < 9 → nF (g j)) : ∀ j, j < 9 → nF (cpf g 9 fr to 9 j) := fun j hj => by rw [cpf_lo ht hj]; exact h j hj
abbrev mS (v : MS) (g : Nat → Int32) (fl : Nat → UInt32) (wy de li : Int32) : MS := (g, fl, m_ch v, m_sv v, wy, de, li, m_ld v, m_wt v, m_wm v, m_ln v, m_lz v, m_in v, m_ty v, m_he v, m_wa v, m_fa v, m_cm v, m_cz v)
theorem goes_shape (y : YS) (v : MS) (a b : Int32) : (F_goes y v a b).2 = mS v (m_g (F_goes y v a b).2) (m_fl (F_goes y v a b).2) (m_why (F_goes y v a b).2) (m_det (F_goes y v a b).2) (m_li (F_goes y v a b).2) := by
  unfold F_goes; repeat' split
  all_goals rfl
theorem goes_cases (y : YS) (v : MS) (a b : Int32) {P : MS → Prop} (h0 : P v) (h1 : ∀ d e, P (mRef v d e)) (h2 : ∀ c r, c < y_cn y → r < y_rn y → P (goneM y v c r)) (hB : y_n y ≤ 12 ∧ y_cn y ≤ 4 ∧ y_rn y ≤ 5) : P (F_goes y v a b).2 := by
  obtain ⟨-, b2, b3⟩ := hB
  unfold F_goes
  split
  · exact h0
  · rename_i hh
    have ha : p_in a (y_cn y) := Decidable.not_not.mp fun q => hh (Or.inl q)
    have hb : p_in b (y_rn y) := Decidable.not_not.mp fun q => hh (Or.inr q)
    obtain ⟨c, hc, rfl⟩ := p_in_ex (n := y_cn y) (by omega) ha
    obtain ⟨r, hr, rfl⟩ := p_in_ex (n := y_rn y) (by omega) hb
    have e1 : ixI (nI c) = c := nI_clamp (by omega)
    have e2 : ixI (nI r) = r := nI_clamp (by omega)
    rw [e1, e2]
    split
    · exact h1 _ _
    · split
      · exact h1 _ _
      · split
        · exact h1 _ _
        · split
          · exact h1 _ _
          · exact h2 c r hc hr
theorem goes_rel {y : YS} {v : MS} {a b : Int32} (hB : y_n y ≤ 12 ∧ y_cn y ≤ 4 ∧ y_rn y ≤ 5) (h : RelI y (m_g v)) : RelI y (m_g (F_goes y v a b).2) :=
  goes_cases y v a b (P := fun s => RelI y (m_g s)) h (fun _ _ => h) (fun c r hc hr => RelI_mark hB h (by omega) (by omega)) hB
theorem goes_nF {y : YS} (hy : yI y) {v : MS} {a b : Int32} (h : ∀ j, j < 9 → nF (m_fl v j)) : ∀ j, j < 9 → nF (m_fl (F_goes y v a b).2 j) :=
  goes_cases y v a b (P := fun s => ∀ j, j < 9 → nF (m_fl s j)) h (fun _ _ => h) (fun _ _ hc hr => wearsr_nF hy hc hr (wearsf_nF hy hc hr (toll8_nF hy hr h))) ⟨hy.1, hy.2.1, hy.2.2.1⟩
theorem markG_hi {g : Nat → Int32} {c r j : Nat} (hc : c < 4) (hr : r < 5) (hj : 81 ≤ j) : markG g c r j = g j := by
  unfold markG upd
  rw [if_neg (by omega), if_neg (by omega), if_neg (by omega), if_neg (by omega)]
theorem goes_hi {y : YS} {v : MS} {a b : Int32} (hB : y_n y ≤ 12 ∧ y_cn y ≤ 4 ∧ y_rn y ≤ 5) : ∀ j, 81 ≤ j → m_g (F_goes y v a b).2 j = m_g v j :=
  goes_cases y v a b (P := fun s => ∀ j, 81 ≤ j → m_g s j = m_g v j) (fun _ _ => rfl) (fun _ _ _ _ => rfl) (fun c r hc hr j hj => markG_hi (by omega) (by omega) hj) hB
theorem goes_fhi {y : YS} {v : MS} {a b : Int32} (hB : y_n y ≤ 12 ∧ y_cn y ≤ 4 ∧ y_rn y ≤ 5) : ∀ j, 9 ≤ j → m_fl (F_goes y v a b).2 j = m_fl v j := by
  refine goes_cases y v a b (P := fun s => ∀ j, 9 ≤ j → m_fl s j = m_fl v j) (fun _ _ => rfl) (fun _ _ _ _ => rfl) (fun c r hc hr j hj => ?_) hB
  show vf_upd (vf_upd (vf_upd (m_fl v) 8 _) (2 * c + 0) _) (2 * c + 1) _ j = m_fl v j
  unfold vf_upd
  rw [if_neg (by omega), if_neg (by omega), if_neg (by omega)]
def goM (y : YS) (a b : Int32) : Nat → MS → Nat
  | 0, _ => 0
  | n + 1, s => if ¬ (F_goes y s a b).1 < 0 then goM y a b n (F_goes y s a b).2 + 1 else 0
theorem goM_s {y : YS} {a b : Int32} {s : MS} {j : Nat} (hj : j < 99) (h : ¬ (F_goes y s a b).1 < 0) : j + 1 + goM y a b (99 - (j + 1)) (F_goes y s a b).2 = j + goM y a b (99 - j) s := by
  rw [show 99 - j = (99 - (j + 1)) + 1 by omega, goM, if_pos h]; omega
theorem goM_e {y : YS} {a b : Int32} {s : MS} {n : Nat} (h : (F_goes y s a b).1 < 0) : goM y a b n s = 0 := by
  cases n with
  | zero => rfl
  | succ n => rw [goM, if_neg (Decidable.not_not.mpr h)]
abbrev mTry (v : MS) : MS := mGF v (cpb (m_g v) 81 0 11 81) (cpf (m_fl v) 9 0 11 9)
theorem try_back {g g1 : Nat → Int32} (h : ∀ j, 81 ≤ j → g1 j = cpb g 81 0 11 81 j) : cpb g1 81 11 0 81 = cpb g 81 0 11 81 := by
  funext j
  by_cases hj : j < 81
  · have e : cpb g1 81 11 0 81 j = g1 (891 + j) := by unfold cpb; rw [if_pos (by omega)]; congr 1
    rw [e, h _ (by omega)]
    unfold cpb
    rw [if_pos (by omega), if_neg (by omega)]
    exact congrArg g (by omega)
  · have e : cpb g1 81 11 0 81 j = g1 j := by unfold cpb; rw [if_neg (by omega)]
    rw [e, h _ (by omega)]
theorem try_fback {g g1 : Nat → UInt32} (h : ∀ j, 9 ≤ j → g1 j = cpf g 9 0 11 9 j) : cpf g1 9 11 0 9 = cpf g 9 0 11 9 := by
  funext j
  by_cases hj : j < 9
  · have e : cpf g1 9 11 0 9 j = g1 (99 + j) := by unfold cpf; rw [if_pos (by omega)]; congr 1
    rw [e, h _ (by omega)]
    unfold cpf
    rw [if_pos (by omega), if_neg (by omega)]
    exact congrArg g (by omega)
  · have e : cpf g1 9 11 0 9 j = g1 j := by unfold cpf; rw [if_neg (by omega)]
    rw [e, h _ (by omega)]
def F_could (y : YS) (v : MS) (x1 x2 : Int32) : Int32 × MS :=
  if ¬ p_in x1 (y_cn y) ∨ ¬ p_in x2 (y_rn y) then (-1, v) else (nI (goM y x1 x2 99 (mTry v)), mTry v)
def F_undo (v : MS) : Int32 × MS :=
  if m_ch v = 0 then (-4, v) else (nI (m_ch v - 1), mGFC v (cpb (m_g v) 81 (m_ch v) 0 81) (cpf (m_fl v) 9 (m_ch v) 0 9) (m_ch v - 1))
def F_rest (v : MS) : Int32 × MS :=
  if m_sv v = 0 then (-4, v) else (cpb (m_g v) 81 9 0 81 0, mGFC v (cpb (m_g v) 81 9 0 81) (cpf (m_fl v) 9 9 0 9) 0)
def foI : Option Nat → Int32
  | none => -4
  | some k => nI k
abbrev p_ltg (a b : UInt32) : Prop := Op.cmpValue (FP.fcmp a b) CmpOp.g < 0
abbrev p_eql (a b : UInt32) : Prop := Op.cmpValue (FP.fcmp a b) CmpOp.l = 0
abbrev p_btM (y : YS) (c k f : Nat) : Prop := p_ltg (t_toll y c k) (t_toll y c f) ∨ (p_eql (t_toll y c k) (t_toll y c f) ∧ ¬ y_mi y f ≤ y_mi y k)
def chM (y : YS) (c : Nat) : Nat → Option Nat
  | 0 => none
  | k + 1 => if ¬ t_all y (nI c) ≤ y_li y k ∨ t_oc y (nI c) (nI 1) = 0 then chM y c k else match chM y c k with
    | none => some k
    | some f => if p_btM y c k f then some k else some f
def a_chM (y : YS) (x : Int32) : Int32 := if ¬ p_in x (y_cn y) then -1 else foI (chM y (ixI x) (y_rn y))
def lsL (c : Nat → Bool) (f : Nat → Int32) : Nat → Int32
  | 0 => nI 1000000
  | p + 1 => if c p = true then lsL c f p else if lsL c f p ≤ f p then lsL c f p else f p
def lsM (w : Nat → Int32) : Nat → Nat → Int32 → Int32 → Int32
  | 0, _, _, s => q_sz s
  | d + 1, m, t, s => lsL (fun p => decide ((t >>> (nI p &&& 31)) &&& nI 1 = nI 1)) (fun p => lsM w d (m + 1) (t ||| (nI 1 <<< (nI p &&& 31))) (s + (w m * nI 2) * (nI 5 - nI (2 * p)))) 6
abbrev gP (y : YS) (x : Int32) (k : Nat) : Prop := y_cu y k = x ∧ ¬ y_kd y k = nI 1
def gN (y : YS) (x : Int32) (k : Nat) : Nat := cN (fun k => decide (gP y x k)) k
def gW (y : YS) (x : Int32) (wt : Nat → Int32) : Nat → Nat → Int32
  | 0 => wt
  | k + 1 => if gP y x k then upd (gW y x wt k) (gN y x k) (y_w y k) else gW y x wt k
theorem cN_mono {P : Nat → Bool} {k : Nat} : ∀ {n : Nat}, k ≤ n → cN P k ≤ cN P n := by
  intro n
  induction n with
  | zero => intro h; rw [show k = 0 by omega]; exact Nat.le_refl _
  | succ n ih =>
    intro h
    by_cases e : k = n + 1
    · rw [e]; exact Nat.le_refl _
    · have := ih (by omega)
      show cN P k ≤ cN P n + (if P n = true then 1 else 0)
      omega
theorem gN_s {y : YS} {x : Int32} {k : Nat} (h : gP y x k) : gN y x (k + 1) = gN y x k + 1 := by
  show cN _ (k + 1) = cN _ k + 1
  show cN _ k + (if decide (gP y x k) = true then 1 else 0) = cN _ k + 1
  rw [if_pos (decide_eq_true h)]
theorem gN_lt {y : YS} {x : Int32} {k n q : Nat} (hq : q = gN y x k) (hk : k < n) (h : gP y x k) (h6 : gN y x n ≤ 6) : q < 6 := by
  have a : gN y x (k + 1) ≤ gN y x n := cN_mono hk
  rw [gN_s h] at a; omega
abbrev mWt (v : MS) (wt : Nat → Int32) (wm : Nat) : MS := (m_g v, m_fl v, m_ch v, m_sv v, m_why v, m_det v, m_li v, m_ld v, wt, wm, m_ln v, m_lz v, m_in v, m_ty v, m_he v, m_wa v, m_fa v, m_cm v, m_cz v)
def F_best (y : YS) (v : MS) (x : Int32) : Int32 × MS :=
  if ¬ p_in x (y_cn y) then (-1, v) else (lsM (gW y x (m_wt v) (y_n y)) (gN y x (y_n y)) 0 0 0, mWt v (gW y x (m_wt v) (y_n y)) (gN y x (y_n y)))
