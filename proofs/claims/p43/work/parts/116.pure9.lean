/-! THE LEAST OF ALL SETTINGS: class and reference count the same -/
theorem bit01 (x : Int32) : x &&& nI 1 = 0 ∨ x &&& nI 1 = nI 1 := by
  have h : (x &&& nI 1).toBitVec = x.toBitVec &&& 1#32 := rfl
  rw [BitVec.and_one_eq_setWidth_ofBool_getLsbD] at h
  cases e : x.toBitVec.getLsbD 0 with
  | false =>
    left; apply Int32.toBitVec_inj.mp; rw [h, e]; decide
  | true =>
    right; apply Int32.toBitVec_inj.mp; rw [h, e]; decide
theorem szab (s : Int32) : q_ab s = q_sz s := by
  unfold q_ab q_sz
  by_cases h : 0 ≤ s
  · rw [if_pos h, if_pos h]
  · rw [if_neg h, if_neg h, Int32.zero_sub]
theorem lsL_eq {c c' : Nat → Bool} {f f' : Nat → Int32} (hc : ∀ p, c' p = !c p) (hf : ∀ p, f' p = f p) : ∀ n, lsLc c' f' n = lsL c f n := by
  intro n
  induction n with
  | zero => rfl
  | succ n ih =>
    rw [lsLc, lsL, ih, hc n, hf n]
    cases c n with
    | true => rfl
    | false =>
      show (if f n < lsL c f n then f n else lsL c f n) = (if lsL c f n ≤ f n then lsL c f n else f n)
      by_cases h : f n < lsL c f n
      · rw [if_pos h, if_neg (Int32.not_le.mpr h)]
      · rw [if_neg h, if_pos (Int32.not_lt.mp h)]
theorem lsC_lsM (w : Nat → Int32) : ∀ (d m : Nat) (t s : Int32), lsC w d m t s = lsM w d m t s := by
  intro d
  induction d with
  | zero => intro m t s; exact szab s
  | succ d ih =>
    intro m t s
    rw [lsC, lsM]
    refine lsL_eq (fun p => ?_) (fun p => ih _ _ _) 6
    rcases bit01 (t >>> (nI p &&& 31)) with h | h
    · rw [h]; decide
    · rw [h]; decide
