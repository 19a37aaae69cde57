/-! THE BALANCE BY SETS: rows of sums as bits -/
theorem db_c : ∀ k, k < 64 → ((nI k).toInt64 &&& 63).toBitVec.smod 64 = BitVec.ofNat 64 k := by decide +kernel
theorem db_cu : ∀ k, k < 64 → ((nI k).toInt64.toUInt64 &&& Int64.toUInt64 63).toNat = k := by decide +kernel
abbrev bt (x : Int64) (i : Nat) : Bool := x.toBitVec.getLsbD i
theorem bt_ge (x : Int64) {i : Nat} (h : 64 ≤ i) : bt x i = false := BitVec.getLsbD_of_ge _ _ h
theorem bt_or (x y : Int64) (i : Nat) : bt (x ||| y) i = (bt x i || bt y i) := by
  show (x ||| y).toBitVec.getLsbD i = _
  rw [Int64.toBitVec_or, BitVec.getLsbD_or]
theorem bt_shl (x : Int64) {n : Nat} (hn : n < 64) {i : Nat} (hi : i < 64) : bt (sL x n) i = (decide (n ≤ i) && bt x (i - n)) := by
  show (x <<< ((nI n).toInt64 &&& 63)).toBitVec.getLsbD i = _
  rw [Int64.toBitVec_shiftLeft, db_c n hn, BitVec.shiftLeft_eq', BitVec.getLsbD_shiftLeft, BitVec.toNat_ofNat, Nat.mod_eq_of_lt (show n < 2 ^ 64 by omega)]
  by_cases h : n ≤ i
  · rw [decide_eq_true h, decide_eq_true hi, decide_eq_false (show ¬ i < n by omega)]; rfl
  · rw [decide_eq_false h, decide_eq_true hi, decide_eq_true (show i < n by omega)]; rfl
theorem bt_shr (x : Int64) {n : Nat} (hn : n < 64) (i : Nat) : bt (uR x n) i = bt x (n + i) := by
  have e : (uR x n).toBitVec = x.toBitVec >>> n := by
    apply BitVec.eq_of_toNat_eq
    show (x.toUInt64 >>> ((nI n).toInt64.toUInt64 &&& Int64.toUInt64 63)).toNat = _
    rw [UInt64.toNat_shiftRight, db_cu n hn, Nat.mod_eq_of_lt hn, BitVec.toNat_ushiftRight]
    rfl
  show (uR x n).toBitVec.getLsbD i = _
  rw [e, BitVec.getLsbD_ushiftRight]
theorem bt_0 (i : Nat) : bt 0 i = false := by
  show (0#64).getLsbD i = false
  exact BitVec.getLsbD_zero
theorem bt_1 : ∀ i : Fin 64, bt 1 i.val = decide (i.val = 0) := by decide +kernel
theorem upL_same (f : Nat → Int64) (i : Nat) (x : Int64) : vp_updL f i x i = x := by unfold vp_updL; rw [if_pos rfl]
theorem upL_ne {f : Nat → Int64} {i j : Nat} {x : Int64} (h : j ≠ i) : vp_updL f i x j = f j := by unfold vp_updL; rw [if_neg h]
/-- a sum's bit in the row of a set -/
def rb (b : BS) (s j : Nat) : Bool := if j < 64 then bt (b_lo b s) j else if j < 128 then bt (b_mi b s) (j - 64) else if j < 192 then bt (b_hi b s) (j - 128) else false
theorem rb_shS_s {b : BS} {s f n j : Nat} (hn : n ≤ 45) (hj : j < 192) : rb (shS b s f n) s j = (rb b s j || (decide (n ≤ j) && rb b f (j - n))) := by
  have e1 : b_lo (shS b s f n) s = b_lo b s ||| sL (b_lo b f) n := upL_same _ _ _
  have e2 : b_mi (shS b s f n) s = b_mi b s ||| (sL (b_mi b f) n ||| uR (uR (b_lo b f) 1) (63 - n)) := upL_same _ _ _
  have e3 : b_hi (shS b s f n) s = b_hi b s ||| (sL (b_hi b f) n ||| uR (uR (b_mi b f) 1) (63 - n)) := upL_same _ _ _
  unfold rb
  by_cases h1 : j < 64
  · rw [if_pos h1, if_pos h1, e1, bt_or, bt_shl _ (by omega) h1]
    by_cases h2 : n ≤ j
    · rw [if_pos (show j - n < 64 by omega)]
    · rw [decide_eq_false h2, Bool.false_and, Bool.false_and]
  · rw [if_neg h1, if_neg h1]
    by_cases h2 : j < 128
    · rw [if_pos h2, if_pos h2, e2, bt_or, bt_or, bt_shl _ (by omega) (by omega), bt_shr _ (by omega), bt_shr _ (by omega), decide_eq_true (show n ≤ j by omega), Bool.true_and]
      by_cases h3 : j - n < 64
      · rw [if_pos h3, decide_eq_false (show ¬ n ≤ j - 64 by omega), Bool.false_and, Bool.false_or, show 1 + (63 - n + (j - 64)) = j - n by omega]
      · rw [if_neg h3, if_pos (show j - n < 128 by omega), decide_eq_true (show n ≤ j - 64 by omega), Bool.true_and, show j - 64 - n = j - n - 64 by omega, bt_ge _ (show 64 ≤ 1 + (63 - n + (j - 64)) by omega), Bool.or_false]
    · rw [if_neg h2, if_neg h2, if_pos hj, if_pos hj, e3, bt_or, bt_or, bt_shl _ (by omega) (by omega), bt_shr _ (by omega), bt_shr _ (by omega), decide_eq_true (show n ≤ j by omega), Bool.true_and, if_neg (show ¬ j - n < 64 by omega)]
      by_cases h3 : j - n < 128
      · rw [if_pos h3, decide_eq_false (show ¬ n ≤ j - 128 by omega), Bool.false_and, Bool.false_or, show 1 + (63 - n + (j - 128)) = j - n - 64 by omega]
      · rw [if_neg h3, if_pos (show j - n < 192 by omega), decide_eq_true (show n ≤ j - 128 by omega), Bool.true_and, show j - 128 - n = j - n - 128 by omega, bt_ge _ (show 64 ≤ 1 + (63 - n + (j - 128)) by omega), Bool.or_false]
theorem rb_shS_o {b : BS} {s f n j S : Nat} (h : S ≠ s) : rb (shS b s f n) S j = rb b S j := by
  have e1 : b_lo (shS b s f n) S = b_lo b S := upL_ne h
  have e2 : b_mi (shS b s f n) S = b_mi b S := upL_ne h
  have e3 : b_hi (shS b s f n) S = b_hi b S := upL_ne h
  unfold rb
  rw [e1, e2, e3]
theorem xor_all2 : ∀ s : Fin 64, ∀ q : Fin 6, s.val ^^^ 2 ^ q.val ≠ s.val ∧ (s.val.testBit q.val = true → s.val ^^^ 2 ^ q.val < s.val) := by decide +kernel
theorem bitP_iff {s q : Nat} (hs : s < 64) (hq : q < 6) : bitP s q ↔ s.testBit q = true := by
  show ¬ ((nI s >>> (nI q &&& 31)) &&& nI 1 = 0) ↔ _
  rw [bit12 (by omega) (by omega)]
  cases s.testBit q <;> decide
abbrev dsh (b : BS) (pl q : Nat) : Nat := ixI (b_w b q) * (5 - pl)
theorem rb_apI {b : BS} {pl s : Nat} (hw : wB b) (hs : s < 64) : ∀ p, p ≤ b_n b → ∀ j, j < 192 → (∀ S, S ≠ s → rb (apI b pl s p) S j = rb b S j) ∧ (rb (apI b pl s p) s j = true ↔ rb b s j = true ∨ ∃ q, q < p ∧ s.testBit q = true ∧ dsh b pl q ≤ j ∧ rb b (s ^^^ 2 ^ q) (j - dsh b pl q) = true)
  | 0, _, j, _ => ⟨fun _ _ => rfl, ⟨Or.inl, fun h => h.elim id (fun ⟨q, hq, _⟩ => absurd hq (Nat.not_lt_zero q))⟩⟩
  | p + 1, hp, j, hj => by
    have ih := rb_apI (pl := pl) hw hs p (by omega)
    have h9 := (hw.at (show p < b_n b by omega)).2
    have h6 := hw.1
    have hB := bitP_iff (q := p) hs (by omega)
    by_cases h : bitP s p
    · have e : apI b pl s (p + 1) = shS (apI b pl s p) s (s ^^^ 2 ^ p) (dsh b pl p) := by rw [apI, if_pos h]
      rw [e]
      refine ⟨fun S hS => by rw [rb_shS_o hS]; exact (ih j hj).1 S hS, ?_⟩
      rw [rb_shS_s (mul_45 h9) hj, Bool.or_eq_true, Bool.and_eq_true, decide_eq_true_eq, (ih j hj).2, (ih (j - dsh b pl p) (by omega)).1 _ (xor_all2 ⟨s, hs⟩ ⟨p, by omega⟩).1]
      constructor
      · rintro ((h1 | ⟨q, h1, h2⟩) | ⟨h1, h2⟩)
        · exact Or.inl h1
        · exact Or.inr ⟨q, by omega, h2⟩
        · exact Or.inr ⟨p, by omega, hB.mp h, h1, h2⟩
      · rintro (h1 | ⟨q, h1, h2, h3, h4⟩)
        · exact Or.inl (Or.inl h1)
        · by_cases eq : q = p
          · subst eq; exact Or.inr ⟨h3, h4⟩
          · exact Or.inl (Or.inr ⟨q, by omega, h2, h3, h4⟩)
    · have e : apI b pl s (p + 1) = apI b pl s p := by rw [apI, if_neg h]
      rw [e]
      refine ⟨(ih j hj).1, ?_⟩
      rw [(ih j hj).2]
      constructor
      · rintro (h1 | ⟨q, h1, h2⟩)
        · exact Or.inl h1
        · exact Or.inr ⟨q, by omega, h2⟩
      · rintro (h1 | ⟨q, h1, h2, h3⟩)
        · exact Or.inl h1
        · by_cases eq : q = p
          · subst eq; exact absurd (hB.mpr h2) h
          · exact Or.inr ⟨q, by omega, h2, h3⟩
theorem wB_cg {b b' : BS} (h1 : b_w b' = b_w b) (h2 : b_n b' = b_n b) (h : wB b) : wB b' := by
  unfold wB
  rw [h1, h2]
  exact h
theorem rb_apO {pl : Nat} : ∀ (s : Nat) (b : BS), wB b → s < 64 → ∀ S j, S < 64 → j < 192 → (rb (apO pl s b) S j = true ↔ rb b S j = true ∨ (S ≤ s ∧ ∃ q, q < b_n b ∧ S.testBit q = true ∧ dsh b pl q ≤ j ∧ rb b (S ^^^ 2 ^ q) (j - dsh b pl q) = true))
  | 0, b, _, _, S, j, _, _ => ⟨Or.inl, fun h => h.elim id (fun ⟨h0, q, _, h1, _⟩ => by
      obtain rfl : S = 0 := by omega
      rw [Nat.zero_testBit] at h1; cases h1)⟩
  | s + 1, b, hw, hs, S, j, hS, hj => by
    have e1 : b_n (apI b pl (s + 1) (b_n b)) = b_n b := apI_n _ _ _ _
    have e2 : b_w (apI b pl (s + 1) (b_n b)) = b_w b := apI_w _ _ _ _
    have ih := rb_apO (pl := pl) s (apI b pl (s + 1) (b_n b)) (wB_cg e2 e1 hw) (by omega) S j hS hj
    have ha := rb_apI (pl := pl) (s := s + 1) hw hs (b_n b) (Nat.le_refl _)
    have h6 := hw.1
    show rb (apO pl s (apI b pl (s + 1) (b_n b))) S j = true ↔ _
    have e3 : ∀ q, dsh (apI b pl (s + 1) (b_n b)) pl q = dsh b pl q := fun q => by
      show ixI (b_w (apI b pl (s + 1) (b_n b)) q) * (5 - pl) = _
      rw [e2]
    rw [ih, e1]
    simp only [e3]
    by_cases c : S = s + 1
    · subst c
      rw [(ha j hj).2]
      constructor
      · rintro ((h1 | h1) | ⟨h1, -⟩)
        · exact Or.inl h1
        · exact Or.inr ⟨Nat.le_refl _, h1⟩
        · omega
      · rintro (h1 | ⟨-, h1⟩)
        · exact Or.inl (Or.inl h1)
        · exact Or.inl (Or.inr h1)
    · rw [(ha j hj).1 S c]
      constructor
      · rintro (h1 | ⟨h1, q, h2, h3, h4, h5⟩)
        · exact Or.inl h1
        · refine Or.inr ⟨by omega, q, h2, h3, h4, ?_⟩
          have := (xor_all2 ⟨S, hS⟩ ⟨q, by omega⟩).2 h3
          rw [(ha _ (by omega)).1 _ (show S ^^^ 2 ^ q ≠ s + 1 by have : S ^^^ 2 ^ q < S := this; omega)] at h5
          exact h5
      · rintro (h1 | ⟨h1, q, h2, h3, h4, h5⟩)
        · exact Or.inl h1
        · refine Or.inr ⟨by omega, q, h2, h3, h4, ?_⟩
          have := (xor_all2 ⟨S, hS⟩ ⟨q, by omega⟩).2 h3
          rw [(ha _ (by omega)).1 _ (show S ^^^ 2 ^ q ≠ s + 1 by have : S ^^^ 2 ^ q < S := this; omega)]
          exact h5
/-- a sum that the premises of a set can have on the first k places -/
def dA (w : Nat → Nat) (n : Nat) : Nat → Nat → Nat → Prop
  | 0, S, j => S = 0 ∧ j = 0
  | k + 1, S, j => dA w n k S j ∨ ∃ q, q < n ∧ S.testBit q = true ∧ w q * (5 - k) ≤ j ∧ dA w n k (S ^^^ 2 ^ q) (j - w q * (5 - k))
theorem rb_ini {b : BS} {st S j : Nat} (hS : S < st) (hj : j < 192) : rb (iniB b st) S j = true ↔ S = 0 ∧ j = 0 := by
  have e1 : b_lo (iniB b st) S = if S = 0 then 1 else 0 := by
    show vp_updL (zrL (b_lo b) st) 0 1 S = _
    unfold vp_updL zrL
    by_cases h : S = 0
    · rw [if_pos h, if_pos h]
    · rw [if_neg h, if_neg h, if_pos hS]
  have e2 : b_mi (iniB b st) S = 0 := if_pos hS
  have e3 : b_hi (iniB b st) S = 0 := if_pos hS
  unfold rb
  rw [e1, e2, e3, bt_0, bt_0]
  by_cases h1 : j < 64
  · rw [if_pos h1]
    by_cases h : S = 0
    · rw [if_pos h]
      have := bt_1 ⟨j, h1⟩
      rw [this, decide_eq_true_eq]
      exact ⟨fun q => ⟨h, q⟩, fun q => q.2⟩
    · rw [if_neg h, bt_0]
      exact ⟨fun q => absurd q (by decide), fun q => absurd q.1 h⟩
  · rw [if_neg h1]
    have e : (if j < 128 then false else if j < 192 then false else false) = false := by split <;> (try split) <;> rfl
    rw [e]
    exact ⟨fun q => absurd q (by decide), fun q => by omega⟩
theorem rb_plO {b : BS} (hw : wB b) : ∀ k, ∀ S j, S < 2 ^ b_n b → j < 192 → (rb (plO (2 ^ b_n b) (iniB b (2 ^ b_n b)) k) S j = true ↔ dA (fun q => ixI (b_w b q)) (b_n b) k S j)
  | 0, S, j, hS, hj => rb_ini hS hj
  | k + 1, S, j, hS, hj => by
    have e1 : b_n (plO (2 ^ b_n b) (iniB b (2 ^ b_n b)) k) = b_n b := plO_n _ _ _
    have e2 : b_w (plO (2 ^ b_n b) (iniB b (2 ^ b_n b)) k) = b_w b := plO_w _ _ _
    have h6 := hw.1
    have h64 : 2 ^ b_n b ≤ 64 := (shl_n h6).2.2
    have ha := rb_apO (pl := k) (2 ^ b_n b - 1) (plO (2 ^ b_n b) (iniB b (2 ^ b_n b)) k) (wB_cg e2 e1 hw) (by omega) S j (by omega) hj
    show rb (apO k (2 ^ b_n b - 1) (plO (2 ^ b_n b) (iniB b (2 ^ b_n b)) k)) S j = true ↔ _
    have e3 : ∀ q, dsh (plO (2 ^ b_n b) (iniB b (2 ^ b_n b)) k) k q = dsh b k q := fun q => by
      show ixI (b_w (plO (2 ^ b_n b) (iniB b (2 ^ b_n b)) k) q) * (5 - k) = _
      rw [e2]
    rw [ha, e1, rb_plO hw k S j hS hj]
    simp only [e3]
    show _ ↔ dA (fun q => ixI (b_w b q)) (b_n b) k S j ∨ ∃ q, q < b_n b ∧ S.testBit q = true ∧ ixI (b_w b q) * (5 - k) ≤ j ∧ dA (fun q => ixI (b_w b q)) (b_n b) k (S ^^^ 2 ^ q) (j - ixI (b_w b q) * (5 - k))
    constructor
    · rintro (h1 | ⟨h1, q, h2, h3, h4, h5⟩)
      · exact Or.inl h1
      · have : S ^^^ 2 ^ q < S := (xor_all2 ⟨S, by omega⟩ ⟨q, by omega⟩).2 h3
        exact Or.inr ⟨q, h2, h3, h4, (rb_plO hw k _ _ (by omega) (by omega)).mp h5⟩
    · rintro (h1 | ⟨q, h2, h3, h4, h5⟩)
      · exact Or.inl h1
      · have : S ^^^ 2 ^ q < S := (xor_all2 ⟨S, by omega⟩ ⟨q, by omega⟩).2 h3
        exact Or.inr ⟨by omega, q, h2, h3, h4, (rb_plO hw k _ _ (by omega) (by omega)).mpr h5⟩
/-- no sum is greater than 9 times the places' -/
def plT : Nat → Nat
  | 0 => 0
  | k + 1 => plT k + 9 * (5 - k)
theorem dA_le {w : Nat → Nat} {n : Nat} (hw : ∀ q, q < n → w q ≤ 9) : ∀ k S j, dA w n k S j → j ≤ plT k
  | 0, _, j, h => by have := h.2; show j ≤ 0; omega
  | k + 1, S, j, h => by
    show j ≤ plT k + 9 * (5 - k)
    rcases h with h | ⟨q, h1, -, h2, h3⟩
    · have := dA_le hw k S j h; omega
    · have a := dA_le hw k _ _ h3
      have b : w q * (5 - k) ≤ 9 * (5 - k) := Nat.mul_le_mul (hw q h1) (Nat.le_refl _)
      omega
theorem p_hs_iff {b : BS} {s j : Nat} (hj : j < 136) : p_hs b s j ↔ rb b s j = true := by
  have e : nI j &&& nI 63 = nI (j % 64) := by rw [pk_andN (by omega) (m := nI 63) 6 (by decide)]
  have hs := db_cu (j % 64) (by omega)
  show ¬ lg_cmp ((((wdB b s j).toUInt64 >>> ((nI j &&& nI 63).toInt64.toUInt64 &&& Int64.toUInt64 63)).toInt64) &&& 1) 0 = 0 ↔ _
  rw [e, lg_cmp_eq]
  have key : ((((wdB b s j).toUInt64 >>> ((nI (j % 64)).toInt64.toUInt64 &&& Int64.toUInt64 63)).toInt64) &&& 1) = 0 ↔ bt (wdB b s j) (j % 64) = false := by
    generalize wdB b s j = w
    have e : (w.toUInt64 >>> ((nI (j % 64)).toInt64.toUInt64 &&& Int64.toUInt64 63)).toInt64.toBitVec = w.toBitVec >>> (j % 64) := by
      apply BitVec.eq_of_toNat_eq
      show (w.toUInt64 >>> ((nI (j % 64)).toInt64.toUInt64 &&& Int64.toUInt64 63)).toNat = _
      rw [UInt64.toNat_shiftRight, hs, Nat.mod_eq_of_lt (show j % 64 < 64 by omega), BitVec.toNat_ushiftRight]
      rfl
    rw [← Int64.toBitVec_inj, Int64.toBitVec_and, e]
    show w.toBitVec >>> (j % 64) &&& 1#64 = 0#64 ↔ _
    constructor
    · intro h
      have t := congrArg (fun x => x.getLsbD 0) h
      simpa using t
    · intro h
      apply BitVec.eq_of_getLsbD_eq
      intro i hi
      cases i with
      | zero => simpa using h
      | succ i => simp
  rw [key, Bool.not_eq_false]
  unfold rb wdB
  by_cases h1 : j < 64
  · rw [if_pos h1, if_neg (show ¬ 64 ≤ j by omega), Nat.mod_eq_of_lt h1]
  · rw [if_neg h1, if_pos (show 64 ≤ j by omega)]
    by_cases h2 : j < 128
    · rw [if_pos h2, if_neg (show ¬ 128 ≤ j by omega), show j % 64 = j - 64 by omega]
    · rw [if_neg h2, if_pos (show 128 ≤ j by omega), if_pos (show j < 192 by omega), show j % 64 = j - 128 by omega]
