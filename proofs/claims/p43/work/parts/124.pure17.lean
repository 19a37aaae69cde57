/-! THE BALANCE BY SETS AND BY WAYS COME TO THE SAME -/
/-- weights times what is left to 5 of their places, over a set -/
def dS (w f : Nat → Nat) (S : Nat) : Nat → Nat
  | 0 => 0
  | n + 1 => dS w f S n + (if S.testBit n = true then w n * (5 - f n) else 0)
/-- a setting of the premises of a set on the first k places -/
def dV (n S k : Nat) (f : Nat → Nat) : Prop := (∀ p, p < n → S.testBit p = true → f p < k) ∧ ∀ p q, p < n → q < n → S.testBit p = true → S.testBit q = true → f p = f q → p = q
theorem tb_xor {S p q : Nat} : (S ^^^ 2 ^ q).testBit p = if q = p then !S.testBit p else S.testBit p := by
  rw [Nat.testBit_xor, Nat.testBit_two_pow]
  by_cases h : q = p
  · rw [decide_eq_true h, if_pos h]; cases S.testBit p <;> rfl
  · rw [decide_eq_false h, if_neg h]; cases S.testBit p <;> rfl
theorem dS_cg {w f f' : Nat → Nat} {S S' : Nat} : ∀ n, (∀ p, p < n → (if S.testBit p = true then w p * (5 - f p) else 0) = (if S'.testBit p = true then w p * (5 - f' p) else 0)) → dS w f S n = dS w f' S' n
  | 0, _ => rfl
  | n + 1, h => by rw [dS, dS, dS_cg n (fun p hp => h p (by omega)), h n (Nat.lt_succ_self n)]
theorem dS_zero {w f : Nat → Nat} {S : Nat} : ∀ n, (∀ p, p < n → S.testBit p = false) → dS w f S n = 0
  | 0, _ => rfl
  | n + 1, h => by
    rw [dS, dS_zero n (fun p hp => h p (by omega)), h n (Nat.lt_succ_self n)]
    rfl
theorem dS_out {w f f' : Nat → Nat} {S q : Nat} (hS : S.testBit q = true) (h : ∀ p, p ≠ q → f' p = f p) : ∀ n, q < n → dS w f' S n = dS w f (S ^^^ 2 ^ q) n + w q * (5 - f' q)
  | 0, hq => absurd hq (Nat.not_lt_zero q)
  | n + 1, hq => by
    rw [dS, dS]
    by_cases e : q = n
    · subst e
      have e2 : dS w f' S q = dS w f (S ^^^ 2 ^ q) q := dS_cg q (fun p hp => by rw [tb_xor, if_neg (show ¬ q = p by omega), h p (by omega)])
      have e3 : (S ^^^ 2 ^ q).testBit q = false := by rw [tb_xor, if_pos rfl, hS]; rfl
      rw [if_pos hS, e2, e3, if_neg (show ¬ false = true by decide), Nat.add_zero]
    · have ih := dS_out (w := w) hS h n (by omega)
      have e3 : (S ^^^ 2 ^ q).testBit n = S.testBit n := by rw [tb_xor, if_neg e]
      rw [ih, e3, h n (fun z => e z.symm)]
      omega
theorem dA_iff {w : Nat → Nat} {n : Nat} : ∀ k S j, S < 2 ^ n → (dA w n k S j ↔ ∃ f, dV n S k f ∧ j = dS w f S n)
  | 0, S, j, hS => by
    constructor
    · rintro ⟨rfl, rfl⟩
      refine ⟨fun _ => 0, ⟨fun p _ h => ?_, fun p q _ _ h => ?_⟩, (dS_zero n (fun p _ => Nat.zero_testBit p)).symm⟩
      · rw [Nat.zero_testBit] at h; cases h
      · rw [Nat.zero_testBit] at h; cases h
    · rintro ⟨f, ⟨v1, -⟩, e⟩
      have z : ∀ p, p < n → S.testBit p = false := fun p hp => by
        cases hb : S.testBit p with
        | false => rfl
        | true => exact absurd (v1 p hp hb) (Nat.not_lt_zero _)
      refine ⟨Nat.eq_of_testBit_eq (fun i => ?_), by rw [e]; exact dS_zero n z⟩
      rw [Nat.zero_testBit]
      by_cases hi : i < n
      · exact z i hi
      · exact Nat.testBit_lt_two_pow (Nat.lt_of_lt_of_le hS (Nat.pow_le_pow_right (by decide) (by omega)))
  | k + 1, S, j, hS => by
    show (dA w n k S j ∨ ∃ q, q < n ∧ S.testBit q = true ∧ w q * (5 - k) ≤ j ∧ dA w n k (S ^^^ 2 ^ q) (j - w q * (5 - k))) ↔ _
    constructor
    · rintro (h | ⟨q, hq, hb, hle, h⟩)
      · obtain ⟨f, ⟨v1, v2⟩, e⟩ := (dA_iff k S j hS).mp h
        exact ⟨f, ⟨fun p hp hb => Nat.lt_succ_of_lt (v1 p hp hb), v2⟩, e⟩
      · obtain ⟨f, ⟨v1, v2⟩, e⟩ := (dA_iff k _ _ (Nat.xor_lt_two_pow hS (Nat.pow_lt_pow_right (by decide) hq))).mp h
        have o : ∀ p, p ≠ q → S.testBit p = true → (S ^^^ 2 ^ q).testBit p = true := fun p hne hp => by rw [tb_xor, if_neg (fun z => hne z.symm)]; exact hp
        have fq : (fun p => if p = q then k else f p) q = k := if_pos rfl
        have fo : ∀ p, p ≠ q → (fun p => if p = q then k else f p) p = f p := fun p hp => if_neg hp
        refine ⟨fun p => if p = q then k else f p, ⟨fun p hp hpb => ?_, fun p p' hp hp' hb1 hb2 he => ?_⟩, ?_⟩
        · by_cases c : p = q
          · show (if p = q then k else f p) < k + 1
            rw [if_pos c]; exact Nat.lt_succ_self k
          · show (if p = q then k else f p) < k + 1
            rw [if_neg c]; exact Nat.lt_succ_of_lt (v1 p hp (o p c hpb))
        · have he : (if p = q then k else f p) = (if p' = q then k else f p') := he
          by_cases c : p = q <;> by_cases c' : p' = q
          · rw [c, c']
          · rw [if_pos c, if_neg c'] at he
            have := v1 p' hp' (o p' c' hb2)
            omega
          · rw [if_neg c, if_pos c'] at he
            have := v1 p hp (o p c hb1)
            omega
          · rw [if_neg c, if_neg c'] at he
            exact v2 p p' hp hp' (o p c hb1) (o p' c' hb2) he
        · have := dS_out (w := w) (f := f) (f' := fun p => if p = q then k else f p) hb fo n hq
          rw [this, if_pos rfl, ← e]
          omega
    · rintro ⟨f, ⟨v1, v2⟩, e⟩
      by_cases hx : ∃ q, q < n ∧ S.testBit q = true ∧ f q = k
      · obtain ⟨q, hq, hb, hk⟩ := hx
        have e2 := dS_out (w := w) (f := f) (f' := f) hb (fun _ _ => rfl) n hq
        rw [hk] at e2
        refine Or.inr ⟨q, hq, hb, by omega, (dA_iff k _ _ (Nat.xor_lt_two_pow hS (Nat.pow_lt_pow_right (by decide) hq))).mpr ⟨f, ⟨fun p hp hpb => ?_, fun p p' hp hp' hb1 hb2 he => ?_⟩, by omega⟩⟩
        · rw [tb_xor] at hpb
          by_cases c : q = p
          · subst c; rw [if_pos rfl, hb] at hpb; cases hpb
          · rw [if_neg c] at hpb
            have a := v1 p hp hpb
            have b : f p ≠ k := fun z => c (v2 q p hq hp hb hpb (hk.trans z.symm))
            omega
        · rw [tb_xor] at hb1 hb2
          by_cases c : q = p
          · subst c; rw [if_pos rfl, hb] at hb1; cases hb1
          · by_cases c' : q = p'
            · subst c'; rw [if_pos rfl, hb] at hb2; cases hb2
            · rw [if_neg c] at hb1
              rw [if_neg c'] at hb2
              exact v2 p p' hp hp' hb1 hb2 he
      · refine Or.inl ((dA_iff k S j hS).mpr ⟨f, ⟨fun p hp hpb => ?_, v2⟩, e⟩)
        have a := v1 p hp hpb
        have b : f p ≠ k := fun z => hx ⟨p, hp, hpb, z⟩
        omega
theorem lsLc_spec (c : Nat → Bool) (f : Nat → Int32) : ∀ n, (lsLc c f n = nI 1000000 ∨ ∃ j, j < n ∧ c j = true ∧ lsLc c f n = f j) ∧ lsLc c f n ≤ nI 1000000 ∧ ∀ j, j < n → c j = true → lsLc c f n ≤ f j
  | 0 => ⟨Or.inl rfl, Int32.le_refl _, fun j h => absurd h (Nat.not_lt_zero j)⟩
  | n + 1 => by
    obtain ⟨h1, h2, h3⟩ := lsLc_spec c f n
    by_cases hc : c n = true
    · by_cases hf : f n < lsLc c f n
      · have e : lsLc c f (n + 1) = f n := by rw [lsLc, if_pos hc, if_pos hf]
        rw [e]
        refine ⟨Or.inr ⟨n, Nat.lt_succ_self n, hc, rfl⟩, Int32.le_trans (Int32.le_of_lt hf) h2, fun j hj cj => ?_⟩
        by_cases ej : j = n
        · subst ej; exact Int32.le_refl _
        · exact Int32.le_trans (Int32.le_of_lt hf) (h3 j (by omega) cj)
      · have e : lsLc c f (n + 1) = lsLc c f n := by rw [lsLc, if_pos hc, if_neg hf]
        rw [e]
        refine ⟨h1.imp id (fun ⟨j, a, b, d⟩ => ⟨j, by omega, b, d⟩), h2, fun j hj cj => ?_⟩
        by_cases ej : j = n
        · subst ej; exact Int32.not_lt.mp hf
        · exact h3 j (by omega) cj
    · have e : lsLc c f (n + 1) = lsLc c f n := by rw [lsLc, if_neg hc]
      rw [e]
      refine ⟨h1.imp id (fun ⟨j, a, b, d⟩ => ⟨j, by omega, b, d⟩), h2, fun j hj cj => ?_⟩
      by_cases ej : j = n
      · subst ej; exact absurd cj hc
      · exact h3 j (by omega) cj
theorem lsS_Lc (q : Nat → Bool) (W : Int32) : ∀ s, lsS q W s = lsLc q (fun j => q_ab (nI (4 * j) - nI 10 * W)) s
  | 0 => rfl
  | s + 1 => by rw [lsS, lsLc, lsS_Lc q W s]
/-- the lean of the premises from m on, d of them -/
def vS (W f : Nat → Nat) : Nat → Nat → Int
  | 0, _ => 0
  | d + 1, m => (W m : Int) * 2 * (5 - ((2 * f m : Nat) : Int)) + vS W f d (m + 1)
def wV (n m T : Nat) (f : Nat → Nat) : Prop := (∀ p, m ≤ p → p < n → f p < 6 ∧ T.testBit (f p) = false) ∧ ∀ p q, m ≤ p → p < n → m ≤ q → q < n → f p = f q → p = q
theorem vS_cg {W f f' : Nat → Nat} : ∀ d m, (∀ q, m ≤ q → f q = f' q) → vS W f d m = vS W f' d m
  | 0, _, _ => rfl
  | d + 1, m, h => by rw [vS, vS, h m (Nat.le_refl m), vS_cg d (m + 1) (fun q hq => h q (by omega))]
theorem nI_oi (k : Nat) : nI k = Int32.ofInt (k : Int) := Int32.ofInt_eq_ofNat.symm
theorem lsC_spec {w : Nat → Int32} {W : Nat → Nat} {n : Nat} (hw : ∀ p, p < n → w p = nI (W p)) : ∀ d m T σ, m + d = n → T < 64 →
    (lsC w d m (nI T) (Int32.ofInt σ) = nI 1000000 ∨ ∃ f, wV n m T f ∧ lsC w d m (nI T) (Int32.ofInt σ) = q_ab (Int32.ofInt (σ + vS W f d m))) ∧ (1 ≤ d → lsC w d m (nI T) (Int32.ofInt σ) ≤ nI 1000000) ∧ ∀ f, wV n m T f → lsC w d m (nI T) (Int32.ofInt σ) ≤ q_ab (Int32.ofInt (σ + vS W f d m))
  | 0, m, T, σ, hm, hT => by
    have e : ∀ f, lsC w 0 m (nI T) (Int32.ofInt σ) = q_ab (Int32.ofInt (σ + vS W f 0 m)) := fun f => by
      show q_ab (Int32.ofInt σ) = q_ab (Int32.ofInt (σ + 0))
      rw [Int.add_zero]
    refine ⟨Or.inr ⟨fun _ => 0, ⟨fun p h1 h2 => by omega, fun p q h1 h2 => by omega⟩, e _⟩, fun h => by omega, fun f _ => by rw [e f]; exact Int32.le_refl _⟩
  | d + 1, m, T, σ, hm, hT => by
    have hF : ∀ p, p < 6 → lsC w d (m + 1) (nI T ||| (nI 1 <<< (nI p &&& 31))) (Int32.ofInt σ + (w m * nI 2) * (nI 5 - nI (2 * p))) = lsC w d (m + 1) (nI (T ||| 2 ^ p)) (Int32.ofInt (σ + (W m : Int) * 2 * (5 - ((2 * p : Nat) : Int)))) := fun p hp => by
      rw [shl12 (by omega), or_n, hw m (by omega), nI_oi (W m), nI_oi 2, nI_oi 5, nI_oi (2 * p), ← Int32.ofInt_mul, ← Int32.ofInt_sub, ← Int32.ofInt_mul, ← Int32.ofInt_add]
      rfl
    have hc : ∀ p, p < 6 → ((fun p => decide ((nI T >>> (nI p &&& 31)) &&& nI 1 = 0)) p = true ↔ T.testBit p = false) := fun p hp => by
      show decide ((nI T >>> (nI p &&& 31)) &&& nI 1 = 0) = true ↔ _
      rw [decide_eq_true_eq]; exact bit12 (by omega) (by omega)
    have ho : ∀ p, p < 6 → T ||| 2 ^ p < 64 := fun p hp => Nat.or_lt_two_pow (n := 6) hT (Nat.pow_lt_pow_right (by decide) hp)
    have e : lsC w (d + 1) m (nI T) (Int32.ofInt σ) = lsLc (fun p => decide ((nI T >>> (nI p &&& 31)) &&& nI 1 = 0)) (fun p => lsC w d (m + 1) (nI T ||| (nI 1 <<< (nI p &&& 31))) (Int32.ofInt σ + (w m * nI 2) * (nI 5 - nI (2 * p)))) 6 := by rw [lsC]
    obtain ⟨h1, h2, h3⟩ := lsLc_spec (fun p => decide ((nI T >>> (nI p &&& 31)) &&& nI 1 = 0)) (fun p => lsC w d (m + 1) (nI T ||| (nI 1 <<< (nI p &&& 31))) (Int32.ofInt σ + (w m * nI 2) * (nI 5 - nI (2 * p)))) 6
    rw [e]
    refine ⟨?_, fun _ => h2, fun f hv => ?_⟩
    · rcases h1 with h1 | ⟨p, hp, cp, h1⟩
      · exact Or.inl h1
      · rw [h1, hF p hp]
        have tp := (hc p hp).mp cp
        rcases (lsC_spec hw d (m + 1) (T ||| 2 ^ p) (σ + (W m : Int) * 2 * (5 - ((2 * p : Nat) : Int))) (by omega) (ho p hp)).1 with a | ⟨f, ⟨v1, v2⟩, a⟩
        · exact Or.inl a
        · right
          have fm : (fun q => if q = m then p else f q) m = p := if_pos rfl
          have fo : ∀ q, m + 1 ≤ q → (fun q => if q = m then p else f q) q = f q := fun q hq => if_neg (by omega)
          have np : ∀ q, m + 1 ≤ q → q < n → T.testBit (f q) = false ∧ f q ≠ p := fun q h4 h5 => by
            have z := (v1 q h4 h5).2
            rw [Nat.testBit_or, Bool.or_eq_false_iff, Nat.testBit_two_pow] at z
            exact ⟨z.1, fun y => of_decide_eq_false z.2 y.symm⟩
          refine ⟨fun q => if q = m then p else f q, ⟨fun q h4 h5 => ?_, fun q q' h4 h5 h6 h7 he => ?_⟩, ?_⟩
          · by_cases c : q = m
            · show (if q = m then p else f q) < 6 ∧ T.testBit (if q = m then p else f q) = false
              rw [if_pos c]; exact ⟨hp, tp⟩
            · show (if q = m then p else f q) < 6 ∧ T.testBit (if q = m then p else f q) = false
              rw [if_neg c]; exact ⟨(v1 q (by omega) h5).1, (np q (by omega) h5).1⟩
          · have he : (if q = m then p else f q) = (if q' = m then p else f q') := he
            by_cases c : q = m <;> by_cases c' : q' = m
            · rw [c, c']
            · rw [if_pos c, if_neg c'] at he
              exact absurd he.symm (np q' (by omega) h7).2
            · rw [if_neg c, if_pos c'] at he
              exact absurd he (np q (by omega) h5).2
            · rw [if_neg c, if_neg c'] at he
              exact v2 q q' (by omega) h5 (by omega) h7 he
          · rw [a, vS, if_pos rfl, vS_cg d (m + 1) fo, Int.add_assoc]
    · obtain ⟨v1, v2⟩ := hv
      obtain ⟨hp, tp⟩ := v1 m (Nat.le_refl m) (by omega)
      have z := h3 (f m) hp ((hc (f m) hp).mpr tp)
      rw [hF (f m) hp] at z
      have y := (lsC_spec hw d (m + 1) (T ||| 2 ^ f m) (σ + (W m : Int) * 2 * (5 - ((2 * f m : Nat) : Int))) (by omega) (ho (f m) hp)).2.2 f ⟨fun q h4 h5 => ⟨(v1 q (by omega) h5).1, by
        rw [Nat.testBit_or, Bool.or_eq_false_iff, Nat.testBit_two_pow]
        exact ⟨(v1 q (by omega) h5).2, decide_eq_false (fun x => by have := v2 m q (Nat.le_refl m) (by omega) (by omega) h5 x; omega)⟩⟩, fun q q' h4 h5 h6 h7 he => v2 q q' (by omega) h5 (by omega) h7 he⟩
      rw [Int.add_assoc] at y
      exact Int32.le_trans z y
theorem vS_app (W f : Nat → Nat) : ∀ d m, vS W f (d + 1) m = vS W f d m + (W (m + d) : Int) * 2 * (5 - ((2 * f (m + d) : Nat) : Int))
  | 0, m => by
    show (W m : Int) * 2 * (5 - ((2 * f m : Nat) : Int)) + 0 = 0 + (W (m + 0) : Int) * 2 * (5 - ((2 * f (m + 0) : Nat) : Int))
    rw [Int.add_zero, Int.zero_add]
    rfl
  | d + 1, m => by
    rw [vS, vS_app W f d (m + 1), vS, show m + 1 + d = m + (d + 1) by omega, Int.add_assoc]
theorem vS_dS {W f : Nat → Nat} {S : Nat} : ∀ n, (∀ p, p < n → f p < 6 ∧ S.testBit p = true) → vS W f n 0 = 4 * (dS W f S n : Int) - 10 * (sN W n : Int)
  | 0, _ => rfl
  | n + 1, h => by
    obtain ⟨h1, h2⟩ := h n (Nat.lt_succ_self n)
    rw [vS_app, vS_dS (S := S) n (fun p hp => h p (by omega)), dS, sN, if_pos h2, Nat.zero_add]
    have c : f n = 0 ∨ f n = 1 ∨ f n = 2 ∨ f n = 3 ∨ f n = 4 ∨ f n = 5 := by omega
    rcases c with c | c | c | c | c | c <;> rw [c] <;> omega
theorem sets_ways {b : BS} (hw : wB b) : lsC (b_w b) (b_n b) 0 (nI 0) (nI 0) = losB (setB b) (2 ^ b_n b - 1) := by
  have hW : ∀ p, p < b_n b → b_w b p = nI ((fun q => ixI (b_w b q)) p) := fun p hp => (hw.at hp).1
  have h9 : ∀ q, q < b_n b → (fun q => ixI (b_w b q)) q ≤ 9 := fun q hq => (hw.at hq).2
  have hpos : 0 < 2 ^ b_n b := Nat.pow_pos (by decide)
  have hS : 2 ^ b_n b - 1 < 2 ^ b_n b := by omega
  have hbit : ∀ p, p < b_n b → (2 ^ b_n b - 1).testBit p = true := fun p hp => by rw [Nat.testBit_two_pow_sub_one]; exact decide_eq_true hp
  have ew : sI (b_w (setB b)) (b_n (setB b)) = nI (sN (fun q => ixI (b_w b q)) (b_n b)) := by
    have e1 : b_w (setB b) = b_w b := plO_w _ _ _
    have e2 : b_n (setB b) = b_n b := plO_n _ _ _
    rw [e1, e2, sI_cg hW, sI_sN]
  have hq : ∀ j, j < 136 → ((fun j => decide (p_hs (setB b) (2 ^ b_n b - 1) j)) j = true ↔ ∃ f, dV (b_n b) (2 ^ b_n b - 1) 6 f ∧ j = dS (fun q => ixI (b_w b q)) f (2 ^ b_n b - 1) (b_n b)) := fun j hj => by
    show decide (p_hs (setB b) (2 ^ b_n b - 1) j) = true ↔ _
    rw [decide_eq_true_eq, p_hs_iff hj, ← dA_iff 6 _ _ hS]
    exact rb_plO hw 6 _ _ hS (by omega)
  have hv : ∀ f, wV (b_n b) 0 0 f ↔ dV (b_n b) (2 ^ b_n b - 1) 6 f := fun f => by
    constructor
    · rintro ⟨v1, v2⟩
      exact ⟨fun p hp _ => (v1 p (Nat.zero_le _) hp).1, fun p q hp hq _ _ e => v2 p q (Nat.zero_le _) hp (Nat.zero_le _) hq e⟩
    · rintro ⟨v1, v2⟩
      exact ⟨fun p _ hp => ⟨v1 p hp (hbit p hp), Nat.zero_testBit _⟩, fun p q _ hp _ hq e => v2 p q hp hq (hbit p hp) (hbit q hq) e⟩
  have hval : ∀ f, dV (b_n b) (2 ^ b_n b - 1) 6 f → q_ab (nI (4 * dS (fun q => ixI (b_w b q)) f (2 ^ b_n b - 1) (b_n b)) - nI 10 * nI (sN (fun q => ixI (b_w b q)) (b_n b))) = q_ab (Int32.ofInt (0 + vS (fun q => ixI (b_w b q)) f (b_n b) 0)) := fun f hf => by
    rw [Int.zero_add, vS_dS (S := 2 ^ b_n b - 1) (b_n b) (fun p hp => ⟨hf.1 p hp (hbit p hp), hbit p hp⟩), nI_oi (4 * _), nI_oi 10, nI_oi (sN _ _), ← Int32.ofInt_mul, ← Int32.ofInt_sub]
    rfl
  have h0 : nI 0 = Int32.ofInt 0 := nI_oi 0
  obtain ⟨c1, c2, c3⟩ := lsC_spec hW (b_n b) 0 0 0 (Nat.zero_add _) (by decide)
  rw [← h0] at c1 c2 c3
  have el : losB (setB b) (2 ^ b_n b - 1) = lsLc (fun j => decide (p_hs (setB b) (2 ^ b_n b - 1) j)) (fun j => q_ab (nI (4 * j) - nI 10 * nI (sN (fun q => ixI (b_w b q)) (b_n b)))) 136 := by
    unfold losB
    rw [ew, lsS_Lc]
  obtain ⟨l1, l2, l3⟩ := lsLc_spec (fun j => decide (p_hs (setB b) (2 ^ b_n b - 1) j)) (fun j => q_ab (nI (4 * j) - nI 10 * nI (sN (fun q => ixI (b_w b q)) (b_n b)))) 136
  rw [el]
  apply Int32.le_antisymm
  · rcases l1 with l1 | ⟨j, hj, cj, l1⟩
    · rw [l1]
      by_cases hn : 1 ≤ b_n b
      · exact c2 hn
      · rw [show b_n b = 0 by omega]
        show q_ab (nI 0) ≤ nI 1000000
        decide
    · rw [l1]
      obtain ⟨f, hf, rfl⟩ := (hq j hj).mp cj
      have := c3 f ((hv f).mpr hf)
      rw [← hval f hf] at this
      exact this
  · rcases c1 with c1 | ⟨f, hf, c1⟩
    · rw [c1]; exact l2
    · have hf' := (hv f).mp hf
      rw [c1, ← hval f hf']
      have hle : dS (fun q => ixI (b_w b q)) f (2 ^ b_n b - 1) (b_n b) ≤ 135 := dA_le h9 6 _ _ ((dA_iff 6 _ _ hS).mpr ⟨f, hf', rfl⟩)
      exact l3 _ (by omega) ((hq _ (by omega)).mpr ⟨f, hf', rfl⟩)
