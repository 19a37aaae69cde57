/-! FLOATS THAT ARE NO NaN AND NOT BELOW ZERO -/
def nF (x : UInt32) : Prop := x.toNat ≤ 2139095040
def fF (x : UInt32) : Prop := x.toNat < 2139095040
def nD (x : UInt64) : Prop := x.toNat ≤ 9218868437227405312
theorem fF.n {x : UInt32} (h : fF x) : nF x := Nat.le_of_lt h
theorem nF_n32 {x : UInt32} (h : nF x) : vf_n32 x := by
  unfold vf_n32
  rw [UInt32.le_iff_toNat_le, UInt32.toNat_and]
  exact Nat.le_trans Nat.and_le_left h
theorem nD_n64 {x : UInt64} (h : nD x) : vf_n64 x := by
  unfold vf_n64
  rw [UInt64.le_iff_toNat_le, UInt64.toNat_and]
  exact Nat.le_trans Nat.and_le_left h
/-- what a number not below zero is rounded to: of a format with these numbers -/
def okD (T : Nat) (qx : Int) (d : FP.Core.Datum) : Prop := d = .inf false ∨ ∃ (c : Nat) (q : Int), d = .fin false c q ∧ c < 2 * T ∧ q ≤ qx
theorem okD_bound {f : FP.Core.Fmt} {T : Nat} {qx : Int} (hq : f.qmax = qx) {c : Nat} {q : Int} (hc : c < 2 * T) : okD T qx (FP.Core.bound f false c q) := by
  unfold FP.Core.bound
  by_cases h : q ≤ f.qmax
  · rw [if_pos h]; exact Or.inr ⟨c, q, rfl, hc, hq ▸ h⟩
  · rw [if_neg h]; exact Or.inl rfl
theorem okD_settle {f : FP.Core.Fmt} {T : Nat} {qx : Int} (hT : f.tails = T) (hp : 2 ^ f.p = 2 * T) (h0 : 0 < T) (hq : f.qmax = qx) {c : Nat} {q : Int} : okD T qx (FP.Core.settle f false c q) := by
  unfold FP.Core.settle
  by_cases h : c < 2 ^ f.p
  · rw [if_pos h]; exact okD_bound hq (by rw [← hp]; exact h)
  · rw [if_neg h]; exact okD_bound hq (by rw [hT]; omega)
theorem okD_ratio {f : FP.Core.Fmt} {T : Nat} {qx : Int} (hT : f.tails = T) (hp : 2 ^ f.p = 2 * T) (h0 : 0 < T) (hq : f.qmax = qx) (hm : f.qmin ≤ qx) (num den : Nat) (e : Int) : okD T qx (FP.Core.roundRatio f false num den e) := by
  unfold FP.Core.roundRatio
  by_cases h : num = 0
  · rw [if_pos h]; exact Or.inr ⟨0, f.qmin, rfl, by omega, hm⟩
  · rw [if_neg h]; exact okD_settle hT hp h0 hq
theorem b32_tails : FP.Core.b32.tails = 8388608 := rfl
theorem b32_p : 2 ^ FP.Core.b32.p = 2 * 8388608 := rfl
theorem b32_qmax : FP.Core.b32.qmax = 104 := rfl
theorem b32_qmin : FP.Core.b32.qmin = -149 := rfl
theorem b32_exps : FP.Core.b32.exps = 256 := rfl
theorem b64_tails : FP.Core.b64.tails = 4503599627370496 := rfl
theorem b64_p : 2 ^ FP.Core.b64.p = 2 * 4503599627370496 := rfl
theorem b64_qmax : FP.Core.b64.qmax = 971 := rfl
theorem b64_qmin : FP.Core.b64.qmin = -1074 := rfl
theorem b64_exps : FP.Core.b64.exps = 2048 := rfl
abbrev ok32 (d : FP.Core.Datum) : Prop := okD 8388608 104 d
abbrev ok64 (d : FP.Core.Datum) : Prop := okD 4503599627370496 971 d
theorem ok32_ratio (num den : Nat) (e : Int) : ok32 (FP.Core.roundRatio FP.Core.b32 false num den e) := okD_ratio b32_tails b32_p (by decide) b32_qmax (by rw [b32_qmin]; decide) num den e
theorem ok64_ratio (num den : Nat) (e : Int) : ok64 (FP.Core.roundRatio FP.Core.b64 false num den e) := okD_ratio b64_tails b64_p (by decide) b64_qmax (by rw [b64_qmin]; decide) num den e
theorem enc32_fin {c : Nat} {q : Int} (hc : c < 2 * 8388608) (hq : q ≤ 104) : FP.Core.encode FP.Core.b32 (.fin false c q) < 2139095040 := by
  unfold FP.Core.encode FP.Core.assemble
  dsimp only
  by_cases h : c < FP.Core.b32.tails
  · rw [if_pos h]
    simp only [b32_tails, b32_exps, Bool.toNat_false]
    rw [b32_tails] at h
    omega
  · rw [if_neg h]
    simp only [b32_tails, b32_exps, b32_qmin, Bool.toNat_false]
    rw [b32_tails] at h
    omega
theorem enc32_inf : FP.Core.encode FP.Core.b32 (.inf false) = 2139095040 := rfl
theorem enc32 {d : FP.Core.Datum} (h : ok32 d) : FP.Core.encode FP.Core.b32 d ≤ 2139095040 := by
  rcases h with h | ⟨c, q, h, hc, hq⟩
  · rw [h, enc32_inf]; exact Nat.le_refl _
  · rw [h]; exact Nat.le_of_lt (enc32_fin hc hq)
theorem enc64_fin {c : Nat} {q : Int} (hc : c < 2 * 4503599627370496) (hq : q ≤ 971) : FP.Core.encode FP.Core.b64 (.fin false c q) < 9218868437227405312 := by
  unfold FP.Core.encode FP.Core.assemble
  dsimp only
  by_cases h : c < FP.Core.b64.tails
  · rw [if_pos h]
    simp only [b64_tails, b64_exps, Bool.toNat_false]
    rw [b64_tails] at h
    omega
  · rw [if_neg h]
    simp only [b64_tails, b64_exps, b64_qmin, Bool.toNat_false]
    rw [b64_tails] at h
    omega
theorem enc64_inf : FP.Core.encode FP.Core.b64 (.inf false) = 9218868437227405312 := rfl
theorem enc64 {d : FP.Core.Datum} (h : ok64 d) : FP.Core.encode FP.Core.b64 d ≤ 9218868437227405312 := by
  rcases h with h | ⟨c, q, h, hc, hq⟩
  · rw [h, enc64_inf]; exact Nat.le_refl _
  · rw [h]; exact Nat.le_of_lt (enc64_fin hc hq)
theorem nF_enc {d : FP.Core.Datum} (h : ok32 d) : nF (UInt32.ofNat (FP.Core.encode FP.Core.b32 d)) := by
  have := enc32 h
  unfold nF
  rw [UInt32.toNat_ofNat']
  omega
theorem nD_enc {d : FP.Core.Datum} (h : ok64 d) : nD (UInt64.ofNat (FP.Core.encode FP.Core.b64 d)) := by
  have := enc64 h
  unfold nD
  rw [UInt64.toNat_ofNat']
  omega
theorem dec32 {n : Nat} (h : n ≤ 2139095040) : (n = 2139095040 ∧ FP.Core.decode FP.Core.b32 n = .inf false) ∨ (n < 2139095040 ∧ ∃ (c : Nat) (q : Int), FP.Core.decode FP.Core.b32 n = .fin false c q ∧ (n ≠ 0 → c ≠ 0)) := by
  unfold FP.Core.decode FP.Core.fieldE FP.Core.fieldT FP.Core.fieldS
  simp only [b32_tails, b32_exps]
  have hs : n / 8388608 / 256 % 2 = 0 := by omega
  simp only [hs]
  by_cases h1 : n = 2139095040
  · left; subst h1; exact ⟨rfl, rfl⟩
  · right
    refine ⟨by omega, ?_⟩
    rw [if_neg (by omega)]
    by_cases h2 : n / 8388608 % 256 = 0
    · rw [if_pos h2]; exact ⟨_, _, rfl, by omega⟩
    · rw [if_neg h2]; exact ⟨_, _, rfl, by omega⟩
theorem dec64 {n : Nat} (h : n ≤ 9218868437227405312) : (n = 9218868437227405312 ∧ FP.Core.decode FP.Core.b64 n = .inf false) ∨ (n < 9218868437227405312 ∧ ∃ (c : Nat) (q : Int), FP.Core.decode FP.Core.b64 n = .fin false c q ∧ (n ≠ 0 → c ≠ 0)) := by
  unfold FP.Core.decode FP.Core.fieldE FP.Core.fieldT FP.Core.fieldS
  simp only [b64_tails, b64_exps]
  have hs : n / 4503599627370496 / 2048 % 2 = 0 := by omega
  simp only [hs]
  by_cases h1 : n = 9218868437227405312
  · left; subst h1; exact ⟨rfl, rfl⟩
  · right
    refine ⟨by omega, ?_⟩
    rw [if_neg (by omega)]
    by_cases h2 : n / 4503599627370496 % 2048 = 0
    · rw [if_pos h2]; exact ⟨_, _, rfl, by omega⟩
    · rw [if_neg h2]; exact ⟨_, _, rfl, by omega⟩
theorem sumSign_ff (c d : Nat) (q r : Int) : FP.Core.sumSign false false (FP.Core.sumUnits false c q false d r (min q r)) = false := by
  have h : FP.Core.sumUnits false c q false d r (min q r) = ((FP.Core.inUnits c q (min q r) + FP.Core.inUnits d r (min q r) : Nat) : Int) := by
    unfold FP.Core.sumUnits FP.Core.signed
    simp
  rw [h]
  unfold FP.Core.sumSign
  by_cases h0 : ((FP.Core.inUnits c q (min q r) + FP.Core.inUnits d r (min q r) : Nat) : Int) = 0
  · rw [if_pos h0]; rfl
  · rw [if_neg h0]; exact decide_eq_false (by omega)
theorem nF_add {x y : UInt32} (hx : nF x) (hy : nF y) : nF (FP.fadd x y) := by
  refine nF_enc ?_
  rcases dec32 hx with ⟨-, e1⟩ | ⟨-, c, q, e1, -⟩ <;> rcases dec32 hy with ⟨-, e2⟩ | ⟨-, d, r, e2, -⟩ <;> rw [e1, e2]
  · exact Or.inl rfl
  · exact Or.inl rfl
  · exact Or.inl rfl
  · simp only [FP.Core.exactSum, sumSign_ff, FP.Core.round]; exact ok32_ratio _ _ _
/-- a product with a number above zero that isn't without end -/
theorem nF_mul {x y : UInt32} (hx : nF x) (hy : fF y) (h0 : y ≠ 0) : nF (FP.fmul x y) := by
  refine nF_enc ?_
  have hn : y.toNat ≠ 0 := fun q => h0 (UInt32.toNat_inj.mp q)
  have hd : ∃ (d : Nat) (r : Int), FP.Core.decode FP.Core.b32 y.toNat = .fin false d r ∧ d ≠ 0 := by
    rcases dec32 (Nat.le_of_lt hy) with ⟨e, -⟩ | ⟨-, d, r, e2, hz⟩
    · exact absurd hy (by unfold fF; omega)
    · exact ⟨d, r, e2, hz hn⟩
  obtain ⟨d, r, e2, hd0⟩ := hd
  rcases dec32 hx with ⟨-, e1⟩ | ⟨-, c, q, e1, -⟩ <;> rw [e1, e2]
  · simp only [FP.Core.exactProduct, if_neg hd0, FP.Core.round]; exact Or.inl rfl
  · simp only [FP.Core.exactProduct, FP.Core.round]; exact ok32_ratio _ _ _
theorem nF_mulf {x y : UInt32} (hx : fF x) (hy : fF y) : nF (FP.fmul x y) := by
  refine nF_enc ?_
  rcases dec32 hx.n with ⟨e, -⟩ | ⟨-, c, q, e1, -⟩
  · exact absurd hx (by unfold fF; omega)
  rcases dec32 hy.n with ⟨e, -⟩ | ⟨-, d, r, e2, -⟩
  · exact absurd hy (by unfold fF; omega)
  rw [e1, e2]
  simp only [FP.Core.exactProduct, FP.Core.round]; exact ok32_ratio _ _ _
theorem nF_div {x y : UInt32} (hx : nF x) (hy : fF y) (h0 : y ≠ 0) : nF (FP.fdiv x y) := by
  refine nF_enc ?_
  have hn : y.toNat ≠ 0 := fun q => h0 (UInt32.toNat_inj.mp q)
  have hd : ∃ (d : Nat) (r : Int), FP.Core.decode FP.Core.b32 y.toNat = .fin false d r ∧ d ≠ 0 := by
    rcases dec32 (Nat.le_of_lt hy) with ⟨e, -⟩ | ⟨-, d, r, e2, hz⟩
    · exact absurd hy (by unfold fF; omega)
    · exact ⟨d, r, e2, hz hn⟩
  obtain ⟨d, r, e2, hd0⟩ := hd
  rcases dec32 hx with ⟨-, e1⟩ | ⟨-, c, q, e1, -⟩ <;> rw [e1, e2]
  · exact Or.inl rfl
  · simp only [FP.Core.quotient, if_neg hd0]; exact ok32_ratio _ _ _
theorem leading_le (n : Nat) : FP.Core.leading n 1 ≤ (n.log2 : Int) := by
  have h1 : Nat.log2 1 = 0 := by decide
  unfold FP.Core.leading
  simp only [h1]
  split <;> omega
theorem i2f_fin {t : Nat} (h : t < 2 ^ 31) : fF (FP.i2f (nI t)) := by
  show (UInt32.ofNat (FP.Core.fromInt FP.Core.b32 (nI t).toInt)).toNat < 2139095040
  rw [nI_toInt h]
  unfold FP.Core.fromInt FP.Core.ofInt FP.Core.round
  have hs : decide ((t : Int) < 0) = false := by simp
  simp only [hs, Int.natAbs_natCast]
  have hl : t.log2 ≤ 30 := by
    rcases Nat.eq_zero_or_pos t with h0 | h0
    · subst h0; decide
    · exact Nat.le_of_lt_succ ((Nat.log2_lt (by omega)).mpr h)
  have hlead := leading_le t
  have key : ∃ (c : Nat) (q : Int), FP.Core.roundRatio FP.Core.b32 false t 1 0 = .fin false c q ∧ c < 2 * 8388608 ∧ q ≤ 104 := by
    unfold FP.Core.roundRatio
    by_cases h0 : t = 0
    · rw [if_pos h0]; exact ⟨0, _, rfl, by decide, by rw [b32_qmin]; decide⟩
    · rw [if_neg h0]
      have hq : FP.Core.quantum FP.Core.b32 t 1 0 ≤ 7 := by
        unfold FP.Core.quantum
        rw [b32_qmin]
        have hp : (FP.Core.b32.p : Int) = 24 := rfl
        rw [hp]
        omega
      unfold FP.Core.roundAt FP.Core.settle FP.Core.bound
      by_cases h1 : FP.Core.nearest (FP.Core.unitsNum t 0 (FP.Core.quantum FP.Core.b32 t 1 0)) (FP.Core.unitsDen 1 0 (FP.Core.quantum FP.Core.b32 t 1 0)) < 2 ^ FP.Core.b32.p
      · rw [if_pos h1, if_pos (by rw [b32_qmax]; omega)]; exact ⟨_, _, rfl, by rw [← b32_p]; exact h1, by omega⟩
      · rw [if_neg h1, if_pos (by rw [b32_qmax]; omega)]; exact ⟨_, _, rfl, by rw [b32_tails]; decide, by omega⟩
  obtain ⟨c, q, e, hc, hq⟩ := key
  rw [e]
  have := enc32_fin hc hq
  rw [UInt32.toNat_ofNat']
  omega
theorem nD_f2d {x : UInt32} (hx : nF x) : nD (FP.f2d x) := by
  have hn : FP.Core.fIsNaN x = false := by
    unfold FP.Core.fIsNaN FP.Core.isNaN
    rcases dec32 hx with ⟨-, e1⟩ | ⟨-, c, q, e1, -⟩ <;> rw [e1] <;> exact decide_eq_false (fun h => by cases h)
  have e : FP.f2d x = UInt64.ofNat (FP.Core.encode FP.Core.b64 (FP.Core.round FP.Core.b64 (FP.Core.decode FP.Core.b32 x.toNat))) := by
    unfold FP.f2d
    rw [hn]
    rfl
  rw [e]
  refine nD_enc ?_
  rcases dec32 hx with ⟨-, e1⟩ | ⟨-, c, q, e1, -⟩ <;> rw [e1]
  · exact Or.inl rfl
  · simp only [FP.Core.round]; exact ok64_ratio _ _ _
theorem nD_i2d {t : Nat} (h : t < 2 ^ 31) : nD (FP.i2d (nI t)) := by
  show nD (UInt64.ofNat (FP.Core.fromInt FP.Core.b64 (nI t).toInt))
  rw [nI_toInt h]
  unfold FP.Core.fromInt FP.Core.ofInt
  have hs : decide ((t : Int) < 0) = false := by simp
  rw [hs]
  refine nD_enc ?_
  simp only [FP.Core.round, Int.natAbs_natCast]
  exact ok64_ratio _ _ _
theorem nD_div {x y : UInt64} (hx : nD x) (hy : y.toNat < 9218868437227405312) (h0 : y ≠ 0) : nD (FP.ddiv x y) := by
  refine nD_enc ?_
  have hn : y.toNat ≠ 0 := fun q => h0 (UInt64.toNat_inj.mp q)
  have hd : ∃ (d : Nat) (r : Int), FP.Core.decode FP.Core.b64 y.toNat = .fin false d r ∧ d ≠ 0 := by
    rcases dec64 (Nat.le_of_lt hy) with ⟨e, -⟩ | ⟨-, d, r, e2, hz⟩
    · omega
    · exact ⟨d, r, e2, hz hn⟩
  obtain ⟨d, r, e2, hd0⟩ := hd
  rcases dec64 hx with ⟨-, e1⟩ | ⟨-, c, q, e1, -⟩ <;> rw [e1, e2]
  · exact Or.inl rfl
  · simp only [FP.Core.quotient, if_neg hd0]; exact ok64_ratio _ _ _
