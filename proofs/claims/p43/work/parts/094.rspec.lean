/-! THE FACE: a text carried out; is all well -/
def f_cmd (c : Nat) (y : YS) (rs : RS) (x1 x2 x3 : Int32) : Int32 × YS × RS :=
  match c with
  | 0 => f_addT y rs (nI 0) x1 (nI 9)
  | 1 => f_addT y rs (nI 1) x1 (nI 54)
  | 2 => f_addC y rs x1
  | 3 => f_addR y rs x1 x2 x3
  | 4 => f_put y rs x1 x2 x3
  | 5 => f_off y rs x1
  | 6 => f_swap y rs x1 x2 x3
  | 7 => f_go y rs x1 x2
  | _ => f_grease y rs x1
abbrev rQ (y : YS) (rs : RS) (v : IS) (pos : Nat) : Int32 × YS × RS := f_cmd (i_cm (tkQ v pos).2) y rs (i_nu (tkQ v pos).2 0) (i_nu (tkQ v pos).2 1) (i_nu (tkQ v pos).2 2)
def runA (h : HS) : Nat → Nat → Nat → YS → RS → IS → Int32 × YS × RS × IS × HS
  | 0, _, n, y, rs, v => ((F_set h (nI n)).1, y, rs, v, (F_set h (nI n)).2)
  | r + 1, pos, n, y, rs, v =>
    if (tkQ v pos).1 = true then
      (if (rQ y rs v pos).1 < 0 then (-3, h.2.2 h.1, (if (rQ y rs v pos).1 = -3 then (nI 12, nI n, (rQ y rs v pos).2.2.1, (rQ y rs v pos).2.2.2.1) else (nI 13, nI n, -4, -4)), (tkQ v pos).2, h)
       else runA h r (i_st (tkQ v pos).2 + 1) (n + 1) (rQ y rs v pos).2.1 (rQ y rs v pos).2.2 (tkQ v pos).2)
    else ((F_set h (nI n)).1, y, rs, (tkQ v pos).2, (F_set h (nI n)).2)
section RA
variable {h : HS} {r pos n : Nat} {y : YS} {rs : RS} {v : IS}
theorem runA_n (hr : 1 ≤ r) (h1 : ¬ (tkQ v pos).1 = true) : runA h r pos n y rs v = ((F_set h (nI n)).1, y, rs, (tkQ v pos).2, (F_set h (nI n)).2) := by
  obtain ⟨k, rfl⟩ : ∃ k, r = k + 1 := ⟨r - 1, by omega⟩
  rw [runA, if_neg h1]
theorem runA_3 (hr : 1 ≤ r) (h1 : (tkQ v pos).1 = true) (h2 : (rQ y rs v pos).1 < 0) (h3 : (rQ y rs v pos).1 = -3) : runA h r pos n y rs v = (-3, h.2.2 h.1, (nI 12, nI n, (rQ y rs v pos).2.2.1, (rQ y rs v pos).2.2.2.1), (tkQ v pos).2, h) := by
  obtain ⟨k, rfl⟩ : ∃ k, r = k + 1 := ⟨r - 1, by omega⟩
  rw [runA, if_pos h1, if_pos h2, if_pos h3]
theorem runA_f (hr : 1 ≤ r) (h1 : (tkQ v pos).1 = true) (h2 : (rQ y rs v pos).1 < 0) (h3 : ¬ (rQ y rs v pos).1 = -3) : runA h r pos n y rs v = (-3, h.2.2 h.1, (nI 13, nI n, -4, -4), (tkQ v pos).2, h) := by
  obtain ⟨k, rfl⟩ : ∃ k, r = k + 1 := ⟨r - 1, by omega⟩
  rw [runA, if_pos h1, if_pos h2, if_neg h3]
theorem runA_s (hr : 1 ≤ r) (h1 : (tkQ v pos).1 = true) (h2 : ¬ (rQ y rs v pos).1 < 0) : runA h r pos n y rs v = runA h (r - 1) (i_st (tkQ v pos).2 + 1) (n + 1) (rQ y rs v pos).2.1 (rQ y rs v pos).2.2 (tkQ v pos).2 := by
  obtain ⟨k, rfl⟩ : ∃ k, r = k + 1 := ⟨r - 1, by omega⟩
  rw [runA, if_pos h1, if_neg h2]; rfl
end RA
abbrev i0 (v : IS) : IS := (i_sg v, 0, i_cm v, i_nu v, i_st v)
abbrev hB (h : HS) (y : YS) : HS := (h.1, h.2.1, upS h.2.2 h.1 y)
abbrev rdQ (y : YS) (rs : RS) (v : IS) (h : HS) : Int32 × YS × RS × IS × HS := runA (hB h y) 60 0 0 y rs (fnF 60 0 v).2
def F_rdC (y : YS) (rs : RS) (v : IS) (h : HS) (lf : Int32) : Int32 × YS × RS × IS × HS × Int32 :=
  if (fnF 60 0 v).1 = -1 then ((rdQ y rs v h).1, (rdQ y rs v h).2.1, (rdQ y rs v h).2.2.1, i0 (rdQ y rs v h).2.2.2.1, (rdQ y rs v h).2.2.2.2, lf)
  else (-2, y, rs, i0 (fnF 60 0 v).2, h, (fnF 60 0 v).1)
/-- what is asked for a cart to be well -/
def cwP (y : YS) : Prop := ∀ (b : BS) (c : Nat), c < y_cn y → t_te y (nI c) (nI 0) = t_to y (nI c) (nI 0) ∧ t_te y (nI c) (nI 1) = t_to y (nI c) (nI 1) ∧
  lsC (b_w (gatB y (nI c) b)) (b_n (gatB y (nI c) b)) 0 (nI 0) (nI 0) = losB (setB (gatB y (nI c) (gatB y (nI c) b))) (2 ^ b_n (gatB y (nI c) (gatB y (nI c) b)) - 1) ∧ ¬ t_wo y (nI c) (nI 0) < t_wo y (nI c) (nI 1) ∧ wB (gatB y (nI c) (gatB y (nI c) b))
def bWell (y : YS) (b : BS) (c : Nat) : BS := setB (gatB y (nI c) (gatB y (nI c) b))
def bWells (y : YS) (b : BS) : Nat → BS
  | 0 => b
  | c + 1 => bWell y (bWells y b c) c
theorem or_n {a b : Nat} : nI a ||| nI b = nI (a ||| b) := by
  apply Int32.toBitVec_inj.mp
  rw [Int32.toBitVec_or]
  show BitVec.ofNat 32 a ||| BitVec.ofNat 32 b = BitVec.ofNat 32 (a ||| b)
  rw [BitVec.ofNat_or]
theorem shl12_all : ∀ k : Fin 12, nI 1 <<< (nI k.val &&& 31) = nI (2 ^ k.val) := by decide +kernel
theorem shl12 {k : Nat} (h : k < 12) : nI 1 <<< (nI k &&& 31) = nI (2 ^ k) := shl12_all ⟨k, h⟩
theorem sm12_all : ∀ k : Fin 12, ((nI k.val &&& 31).toBitVec.smod 32).toNat = k.val := by decide +kernel
theorem bit12 {s k : Nat} (hs : s < 4096) (hk : k < 12) : ((nI s >>> (nI k &&& 31)) &&& nI 1 = 0) ↔ s.testBit k = false := by
  have h1 : s / 2 ^ k ≤ s := Nat.div_le_self _ _
  rw [pk_shrN (by omega) (nI k &&& 31) k (sm12_all ⟨k, hk⟩), pk_andN (by omega) (m := nI 1) 1 (by decide), nI_0eq (by omega), Nat.testBit_eq_decide_div_mod_eq, decide_eq_false_iff_not]
  show s / 2 ^ k % 2 = 0 ↔ _
  omega
/-- the things seen up to place p of cart c -/
def seenP (y : YS) (s c p : Nat) : Prop := s < 4096 ∧ ∀ k, s.testBit k = true → ∃ c' p', (c' < c ∨ (c' = c ∧ p' < p)) ∧ c' < 4 ∧ p' ≤ 6 ∧ t_at y (nI c') (nI p') = nI k ∧ k < y_n y
theorem seen_0 (y : YS) : seenP y 0 0 0 := ⟨by decide, fun k h => by rw [Nat.zero_testBit] at h; cases h⟩
theorem seen_c {y : YS} {s c : Nat} (h : seenP y s c 7) : seenP y s (c + 1) 0 := ⟨h.1, fun k hk => by
  obtain ⟨c', p', h1, h2⟩ := h.2 k hk
  exact ⟨c', p', Or.inl (by omega), h2⟩⟩
theorem seen_n {y : YS} {s c p : Nat} (h : seenP y s c p) : seenP y s c (p + 1) := ⟨h.1, fun k hk => by
  obtain ⟨c', p', h1, h2⟩ := h.2 k hk
  exact ⟨c', p', by omega, h2⟩⟩
theorem seen_p {y : YS} {s c p k : Nat} (h : seenP y s c p) (hn : y_n y ≤ 12) (hk : k < y_n y) (hc : c < 4) (hp : p ≤ 6) (e : t_at y (nI c) (nI p) = nI k) : seenP y (s ||| 2 ^ k) c (p + 1) := by
  refine ⟨?_, fun j hj => ?_⟩
  · have h2 : 2 ^ k < 2 ^ 12 := Nat.pow_lt_pow_right (by decide) (by omega)
    exact Nat.or_lt_two_pow (n := 12) h.1 h2
  · rw [Nat.testBit_or, Bool.or_eq_true] at hj
    rcases hj with hj | hj
    · obtain ⟨c', p', h1, h2⟩ := h.2 j hj
      exact ⟨c', p', by omega, h2⟩
    · rw [Nat.testBit_two_pow, decide_eq_true_eq] at hj
      subst hj
      exact ⟨c, p, Or.inr ⟨rfl, Nat.lt_succ_self p⟩, hc, hp, e, hk⟩
theorem seen_no {y : YS} {s c p k : Nat} (h : seenP y s c p) (hn : y_n y ≤ 12) (hk : k < y_n y) (hc : c < 4) (hp : p ≤ 6) (e : t_at y (nI c) (nI p) = nI k) : (nI s >>> (nI k &&& 31)) &&& nI 1 = 0 := by
  rw [bit12 h.1 (by omega)]
  cases hb : s.testBit k with
  | false => rfl
  | true =>
    obtain ⟨c', p', h1, h2, h3, h4, -⟩ := h.2 k hb
    have a := at_sp hn hk e
    have b := at_sp hn hk h4
    have e1 : c' = c := (nI_eq (by omega) (by omega)).mp (b.1.symm.trans a.1)
    have e2 : p' = p := (nI_eq (by omega) (by omega)).mp (b.2.symm.trans a.2)
    omega
