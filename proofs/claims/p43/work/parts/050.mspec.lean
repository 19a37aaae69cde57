/-! THE REFERENCE: its world, and how its rows stand to a yard -/
abbrev MS : Type := (Nat → Int32) × (Nat → UInt32) × Nat × Int32 × Int32 × Int32 × Int32 × Int32 × (Nat → Int32) × Nat × (Nat → Int32) × Nat × (Nat → Int32) × Nat × Nat × Int32 × Int32 × (Nat → Int32) × Nat
abbrev m_g (m : MS) : Nat → Int32 := m.1
abbrev m_fl (m : MS) : Nat → UInt32 := m.2.1
abbrev m_ch (m : MS) : Nat := m.2.2.1
abbrev m_sv (m : MS) : Int32 := m.2.2.2.1
abbrev m_why (m : MS) : Int32 := m.2.2.2.2.1
abbrev m_det (m : MS) : Int32 := m.2.2.2.2.2.1
abbrev m_li (m : MS) : Int32 := m.2.2.2.2.2.2.1
abbrev m_ld (m : MS) : Int32 := m.2.2.2.2.2.2.2.1
abbrev m_wt (m : MS) : Nat → Int32 := m.2.2.2.2.2.2.2.2.1
abbrev m_wm (m : MS) : Nat := m.2.2.2.2.2.2.2.2.2.1
abbrev m_ln (m : MS) : Nat → Int32 := m.2.2.2.2.2.2.2.2.2.2.1
abbrev m_lz (m : MS) : Nat := m.2.2.2.2.2.2.2.2.2.2.2.1
abbrev m_in (m : MS) : Nat → Int32 := m.2.2.2.2.2.2.2.2.2.2.2.2.1
abbrev m_ty (m : MS) : Nat := m.2.2.2.2.2.2.2.2.2.2.2.2.2.1
abbrev m_he (m : MS) : Nat := m.2.2.2.2.2.2.2.2.2.2.2.2.2.2.1
abbrev m_wa (m : MS) : Int32 := m.2.2.2.2.2.2.2.2.2.2.2.2.2.2.2.1
abbrev m_fa (m : MS) : Int32 := m.2.2.2.2.2.2.2.2.2.2.2.2.2.2.2.2.1
abbrev m_cm (m : MS) : Nat → Int32 := m.2.2.2.2.2.2.2.2.2.2.2.2.2.2.2.2.2.1
abbrev m_cz (m : MS) : Nat := m.2.2.2.2.2.2.2.2.2.2.2.2.2.2.2.2.2.2
def MW (ct : Nat → ClassId) (c : Nat → Nat) (m : MS) (R : va_W) : va_W :=
  (c 0, .inr (10, [.ref (c 1), .ref (c 2), .int (nI (m_ch m)), .int (m_sv m), .int (m_why m), .int (m_det m), .int (m_li m), .int (m_ld m), .ref (c 3), .int (nI (m_wm m)), .ref (c 4), .int (nI (m_lz m)), .ref (c 5), .int (nI (m_ty m)), .int (nI (m_he m)), .int (m_wa m), .int (m_fa m), .ref (c 6), .int (nI (m_cz m))])) :: (c 1, aI ct 972 (m_g m)) :: (c 2, aF ct 108 (m_fl m)) :: (c 3, aI ct 6 (m_wt m)) :: (c 4, aC ct 60 (m_ln m)) :: (c 5, aC ct 60 (m_in m)) :: (c 6, aI ct 244 (m_cm m)) :: R
abbrev p_rng (x a b : Int32) : Prop := ¬ x < a ∧ ¬ b < x
/-- the reference's row tells the whole numbers of a yard -/
def RelI (y : YS) (g : Nat → Int32) : Prop :=
  g 0 = nI (y_n y) ∧ g 1 = nI (y_cn y) ∧ g 2 = nI (y_rn y) ∧
  (∀ k, k < y_n y → g (5 + 4 * k + 0) = y_kd y k ∧ g (5 + 4 * k + 1) = y_w y k ∧ ((y_cu y k = -4 ∧ y_pl y k = -4 ∧ g (5 + 4 * k + 2) = nI 0 ∧ g (5 + 4 * k + 3) = nI 0) ∨ ∃ c q, c < 4 ∧ q ≤ 6 ∧ y_cu y k = nI c ∧ y_pl y k = nI q ∧ g (5 + 4 * k + 2) = nI (c + 1) ∧ g (5 + 4 * k + 3) = nI q)) ∧
  (∀ c, c < y_cn y → g (53 + 2 * c) = y_st y c) ∧
  (∀ r, r < y_rn y → g (61 + 4 * r + 0) = y_li y r ∧ g (61 + 4 * r + 1) = y_mi y r ∧ g (61 + 4 * r + 2) = y_ra y r)
theorem nI_m4 {c : Nat} (h : c < 2 ^ 31) : ¬ (-4 : Int32) = nI c := fun q => nI_ne4 h q.symm
theorem rel_on {y : YS} {g : Nat → Int32} (h : RelI y g) {k c : Nat} (hk : k < y_n y) (hc : c < 4) : g (5 + 4 * k + 2) = nI (c + 1) ↔ y_cu y k = nI c := by
  obtain ⟨-, -, h3⟩ := h.2.2.2.1 k hk
  rcases h3 with ⟨e1, -, e2, -⟩ | ⟨c', q, hc', -, e1, -, e2, -⟩
  · rw [e1, e2, nI_eq (by decide) (by omega)]
    exact ⟨fun q => by omega, fun q => absurd q (nI_m4 (by omega))⟩
  · rw [e1, e2, nI_eq (by omega) (by omega), nI_eq (by omega) (by omega)]
    omega
theorem rel_pl {y : YS} {g : Nat → Int32} (h : RelI y g) {k c : Nat} (hk : k < y_n y) (hon : y_cu y k = nI c) (hc : c < 4) : g (5 + 4 * k + 3) = y_pl y k := by
  obtain ⟨-, -, h3⟩ := h.2.2.2.1 k hk
  rcases h3 with ⟨e1, -⟩ | ⟨c', q, hc', -, e1, e3, -, e2⟩
  · rw [hon] at e1; exact absurd e1 (nI_ne4 (by omega))
  · rw [e2, e3]
theorem rel_kd {y : YS} {g : Nat → Int32} (h : RelI y g) {k : Nat} (hk : k < y_n y) : g (5 + 4 * k + 0) = y_kd y k := (h.2.2.2.1 k hk).1
theorem rel_w {y : YS} {g : Nat → Int32} (h : RelI y g) {k : Nat} (hk : k < y_n y) : g (5 + 4 * k + 1) = y_w y k := (h.2.2.2.1 k hk).2.1
theorem rng_in {x : Int32} {n : Nat} (hn : n < 2 ^ 30) : p_rng x (nI 0) (nI n - nI 1) ↔ p_in x n := by
  have e : (nI n - nI 1).toInt = (n : Int) - 1 := pk_sub_toInt hn (by decide)
  constructor
  · rintro ⟨h1, h2⟩
    refine ⟨h1, fun q => h2 ?_⟩
    rw [Int32.le_iff_toInt_le, nI_toInt (by omega)] at q
    rw [Int32.lt_iff_toInt_lt, e]; omega
  · rintro ⟨h1, h2⟩
    refine ⟨h1, fun q => h2 ?_⟩
    rw [Int32.lt_iff_toInt_lt, e] at q
    rw [Int32.le_iff_toInt_le, nI_toInt (by omega)]; omega
theorem bI_cg {P Q : Prop} [Decidable P] [Decidable Q] (h : P ↔ Q) : bI P = bI Q := by
  by_cases hp : P
  · rw [bI_t hp, bI_t (h.mp hp)]
  · rw [bI_f hp, bI_f (fun q => hp (h.mpr q))]
/-- how many things of a kind are on a cart, as an int -/
def t_oc (y : YS) (x z : Int32) : Int32 := sI (fun k => if y_cu y k = x ∧ y_kd y k = z then nI 1 else 0) (y_n y)
theorem rel_tt {y : YS} {g : Nat → Int32} (h : RelI y g) {k c : Nat} (z : Int32) (hk : k < y_n y) (hon : y_cu y k = nI c) (hc : c < 4) :
    g (5 + 4 * k + 1) * (if g (5 + 4 * k + 0) = nI 1 then nI 5 else if z = 0 then nI 2 * (nI 5 - g (5 + 4 * k + 3)) else nI 2 * g (5 + 4 * k + 3)) = t_tt y k z := by
  rw [rel_kd h hk, rel_w h hk, rel_pl h hk hon hc]
  unfold t_tt
  by_cases h1 : y_kd y k = nI 1
  · rw [if_pos h1, if_pos h1]
  · rw [if_neg h1, if_neg h1]
    by_cases h2 : z = 0
    · rw [if_pos h2, if_pos h2, Int32.mul_assoc]
    · rw [if_neg h2, if_neg h2, Int32.mul_assoc]
abbrev q_sz (v : Int32) : Int32 := if 0 ≤ v then v else -v
theorem sz_im (y : YS) (x : Int32) : q_sz (t_te y x (nI 0) - t_te y x (nI 1)) = t_im y x := by
  unfold t_im q_sz
  generalize t_te y x (nI 0) - t_te y x (nI 1) = v
  by_cases h : 0 ≤ v
  · rw [if_pos h, if_pos h]
  · rw [if_neg h, if_neg h, Int32.zero_sub]
abbrev q_ix (k : Nat) (z : Int32) : Nat := wix k z
theorem zTop {p : Program} {l : Launch} {e : Env} {R : Room} {s : State} {m : MethodId} {args : Array Value} {below : List Frame} {meth : Method} {c : Code} {H : Heap} {locs : List Loc} {cells slots : Nat} {Q : State → Prop} {pc : Nat} {ls : Array Slot} {rest : List Value} {x y : Int32} (h : x = y) (k : W p l e R s m args below meth c H locs cells slots Q (F0 m pc ls (.int y :: rest))) : W p l e R s m args below meth c H locs cells slots Q (F0 m pc ls (.int x :: rest)) := h ▸ k
theorem rel_tt2 {y : YS} {g : Nat → Int32} (h : RelI y g) {k c : Nat} (z : Int32) (hk : k < y_n y) (hon : y_cu y k = nI c) (hc : c < 4) :
    y_w y k * (if y_kd y k = nI 1 then nI 5 else if z = 0 then nI 2 * (nI 5 - g (5 + 4 * k + 3)) else nI 2 * g (5 + 4 * k + 3)) = t_tt y k z := by
  have := rel_tt h z hk hon hc
  rw [rel_kd h hk, rel_w h hk] at this
  exact this
