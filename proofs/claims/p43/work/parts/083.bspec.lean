/-! THE CLASS: the best balance in its two ways, as it counts -/
abbrev cG (y : YS) (x : Int32) (k : Nat) : Prop := y_cu y k = x ∧ y_kd y k = 0
def cGn (y : YS) (x : Int32) : Nat → Nat
  | 0 => 0
  | k + 1 => if cG y x k ∧ cGn y x k < 6 then cGn y x k + 1 else cGn y x k
def cGw (y : YS) (x : Int32) (w : Nat → Int32) : Nat → Nat → Int32
  | 0 => w
  | k + 1 => if cG y x k ∧ cGn y x k < 6 then upd (cGw y x w k) (cGn y x k) (y_w y k) else cGw y x w k
theorem cGn_6 (y : YS) (x : Int32) : ∀ k, cGn y x k ≤ 6
  | 0 => Nat.zero_le _
  | k + 1 => by
    have := cGn_6 y x k
    rw [cGn]; split <;> omega
def gatB (y : YS) (x : Int32) (b : BS) : BS := (cGw y x (b_w b) (y_n y), cGn y x (y_n y), b_lo b, b_mi b, b_hi b)
abbrev q_ab (s : Int32) : Int32 := if 0 ≤ s then s else 0 - s
def lsLc (c : Nat → Bool) (f : Nat → Int32) : Nat → Int32
  | 0 => nI 1000000
  | p + 1 => if c p = true then (if f p < lsLc c f p then f p else lsLc c f p) else lsLc c f p
def lsC (w : Nat → Int32) : Nat → Nat → Int32 → Int32 → Int32
  | 0, _, _, s => q_ab s
  | d + 1, m, t, s => lsLc (fun p => decide ((t >>> (nI p &&& 31)) &&& nI 1 = 0)) (fun p => lsC w d (m + 1) (t ||| (nI 1 <<< (nI p &&& 31))) (s + (w m * nI 2) * (nI 5 - nI (2 * p)))) 6
def zrL (f : Nat → Int64) (k : Nat) : Nat → Int64 := fun j => if j < k then 0 else f j
theorem zrL_0 (f : Nat → Int64) : zrL f 0 = f := by funext j; unfold zrL; rw [if_neg (by omega)]
theorem zrL_s {f : Nat → Int64} {k : Nat} : vp_updL (zrL f k) k 0 = zrL f (k + 1) := by
  funext j
  unfold vp_updL zrL
  by_cases hj : j = k
  · subst hj; rw [if_pos rfl, if_pos (by omega)]
  · rw [if_neg hj]
    by_cases h : j < k
    · rw [if_pos h, if_pos (by omega)]
    · rw [if_neg h, if_neg (by omega)]
abbrev sL (x : Int64) (n : Nat) : Int64 := x <<< ((nI n).toInt64 &&& 63)
abbrev uR (x : Int64) (n : Nat) : Int64 := (x.toUInt64 >>> ((nI n).toInt64.toUInt64 &&& Int64.toUInt64 63)).toInt64
def shS (b : BS) (s f n : Nat) : BS := (b_w b, b_n b, vp_updL (b_lo b) s (b_lo b s ||| sL (b_lo b f) n), vp_updL (b_mi b) s (b_mi b s ||| (sL (b_mi b f) n ||| uR (uR (b_lo b f) 1) (63 - n))), vp_updL (b_hi b) s (b_hi b s ||| (sL (b_hi b f) n ||| uR (uR (b_mi b f) 1) (63 - n))))
abbrev bitP (s p : Nat) : Prop := ¬ (nI s >>> (nI p &&& 31)) &&& nI 1 = 0
def apI (b : BS) (pl s : Nat) : Nat → BS
  | 0 => b
  | p + 1 => if bitP s p then shS (apI b pl s p) s (s ^^^ 2 ^ p) (ixI (b_w b p) * (5 - pl)) else apI b pl s p
def apO (pl : Nat) : Nat → BS → BS
  | 0, b => b
  | s + 1, b => apO pl s (apI b pl (s + 1) (b_n b))
def plO (st : Nat) (b : BS) : Nat → BS
  | 0 => b
  | k + 1 => apO k (st - 1) (plO st b k)
def iniB (b : BS) (st : Nat) : BS := (b_w b, b_n b, vp_updL (zrL (b_lo b) st) 0 1, zrL (b_mi b) st, zrL (b_hi b) st)
def setB (b : BS) : BS := plO (2 ^ b_n b) (iniB b (2 ^ b_n b)) 6
abbrev wdB (b : BS) (s j : Nat) : Int64 := if 64 ≤ j then (if 128 ≤ j then b_hi b s else b_mi b s) else b_lo b s
abbrev p_hs (b : BS) (s j : Nat) : Prop := ¬ lg_cmp ((((wdB b s j).toUInt64 >>> ((nI j &&& nI 63).toInt64.toUInt64 &&& Int64.toUInt64 63)).toInt64) &&& 1) 0 = 0
def lsS (q : Nat → Bool) (W : Int32) : Nat → Int32
  | 0 => nI 1000000
  | s + 1 => if q s = true then (if q_ab (nI (4 * s) - nI 10 * W) < lsS q W s then q_ab (nI (4 * s) - nI 10 * W) else lsS q W s) else lsS q W s
def losB (b : BS) (s : Nat) : Int32 := lsS (fun j => decide (p_hs b s j)) (sI (b_w b) (b_n b)) 136
theorem shS_w (b : BS) (s f n : Nat) : b_w (shS b s f n) = b_w b := rfl
theorem shS_n (b : BS) (s f n : Nat) : b_n (shS b s f n) = b_n b := rfl
theorem apI_w (b : BS) (pl s : Nat) : ∀ p, b_w (apI b pl s p) = b_w b
  | 0 => rfl
  | p + 1 => by rw [apI]; split <;> exact apI_w b pl s p
theorem apI_n (b : BS) (pl s : Nat) : ∀ p, b_n (apI b pl s p) = b_n b
  | 0 => rfl
  | p + 1 => by rw [apI]; split <;> exact apI_n b pl s p
theorem apO_w (pl : Nat) : ∀ (s : Nat) (b : BS), b_w (apO pl s b) = b_w b
  | 0, _ => rfl
  | s + 1, b => (apO_w pl s _).trans (apI_w _ _ _ _)
theorem apO_n (pl : Nat) : ∀ (s : Nat) (b : BS), b_n (apO pl s b) = b_n b
  | 0, _ => rfl
  | s + 1, b => (apO_n pl s _).trans (apI_n _ _ _ _)
theorem plO_w (st : Nat) (b : BS) : ∀ k, b_w (plO st b k) = b_w b
  | 0 => rfl
  | k + 1 => (apO_w _ _ _).trans (plO_w st b k)
theorem plO_n (st : Nat) (b : BS) : ∀ k, b_n (plO st b k) = b_n b
  | 0 => rfl
  | k + 1 => (apO_n _ _ _).trans (plO_n st b k)
theorem xor_all : ∀ s : Fin 64, ∀ p : Fin 6, nI s.val ^^^ (nI 1 <<< (nI p.val &&& 31)) = nI (s.val ^^^ 2 ^ p.val) ∧ s.val ^^^ 2 ^ p.val < 64 := by decide +kernel
theorem xor_n {s p : Nat} (hs : s < 64) (hp : p < 6) : nI s ^^^ (nI 1 <<< (nI p &&& 31)) = nI (s ^^^ 2 ^ p) := (xor_all ⟨s, hs⟩ ⟨p, hp⟩).1
theorem xor_lt {s p : Nat} (hs : s < 64) (hp : p < 6) : s ^^^ 2 ^ p < 64 := (xor_all ⟨s, hs⟩ ⟨p, hp⟩).2
theorem shl_all : ∀ c : Fin 7, nI 1 <<< (nI c.val &&& 31) = nI (2 ^ c.val) ∧ 1 ≤ 2 ^ c.val ∧ 2 ^ c.val ≤ 64 := by decide +kernel
theorem shl_n {c : Nat} (h : c ≤ 6) : nI 1 <<< (nI c &&& 31) = nI (2 ^ c) ∧ 1 ≤ 2 ^ c ∧ 2 ^ c ≤ 64 := shl_all ⟨c, by omega⟩
theorem zDec {k : Nat} (h : 1 ≤ k) : nI k + Int32.ofInt (-1) = nI (k - 1) := by
  have e : Int32.ofInt (-1) = -(nI 1) := by decide
  rw [e, ← Int32.sub_eq_add_neg, pk_sub h]
theorem ixI_n {x : Int32} {v : Nat} (h : v < 2 ^ 31) (e : x = nI v) : x = nI (ixI x) ∧ ixI x = v := nI_ix h e
def wB (b : BS) : Prop := b_n b ≤ 6 ∧ ∀ p, p < b_n b → ∃ v, v ≤ 9 ∧ b_w b p = nI v
theorem wB.at {b : BS} (h : wB b) {p : Nat} (hp : p < b_n b) : b_w b p = nI (ixI (b_w b p)) ∧ ixI (b_w b p) ≤ 9 := by
  obtain ⟨v, hv, e⟩ := h.2 p hp
  have := nI_ix (by omega) e
  exact ⟨this.1, by omega⟩
theorem apO_s {pl s : Nat} {b : BS} (h : 1 ≤ s) : apO pl (s - 1) (apI b pl s (b_n b)) = apO pl s b := by
  obtain ⟨k, rfl⟩ : ∃ k, s = k + 1 := ⟨s - 1, by omega⟩
  rfl
theorem mul_45 {v pl : Nat} (h : v ≤ 9) : v * (5 - pl) ≤ 45 := Nat.le_trans (Nat.mul_le_mul h (show 5 - pl ≤ 5 by omega)) (by decide)
