/-! CLASS AND REFERENCE, ALL THAT THEY HOLD: blocks of rows, the yards before the changes -/
def shI (g : Nat → Int32) (b : Nat) : Nat → Int32 := fun j => g (81 * b + j)
def shU (fl : Nat → UInt32) (b : Nat) : Nat → UInt32 := fun j => fl (9 * b + j)
abbrev BJ (y : YS) (g : Nat → Int32) (fl : Nat → UInt32) (b : Nat) : Prop := RelJ y (shI g b) (shU fl b)
theorem RelJ_cg {y : YS} {g g' : Nat → Int32} {fl fl' : Nat → UInt32} (hg : ∀ j, j < 81 → g' j = g j) (hf : ∀ j, j < 9 → fl' j = fl j) (h : RelJ y g fl) : RelJ y g' fl' := by
  obtain ⟨⟨a1, a2, a3, a4, a5, a6⟩, ⟨b1, b2, b3, b4, b5, b6, b7⟩, hA⟩ := h
  have hn := hA.1.1
  have hcn := hA.1.2.1
  have hrn := hA.1.2.2.1
  refine ⟨⟨by rw [hg 0 (by decide)]; exact a1, by rw [hg 1 (by decide)]; exact a2, by rw [hg 2 (by decide)]; exact a3, fun k hk => ?_, fun c hc => by rw [hg _ (by omega)]; exact a5 c hc, fun r hr => ?_⟩, ⟨fun j hj => by rw [hf j (by omega)]; exact b1 j hj, fun j h1 h2 => by rw [hf j (by omega)]; exact b2 j h1 h2, by rw [hf 8 (by decide)]; exact b3, by rw [hg 3 (by decide)]; exact b4, by rw [hg 4 (by decide)]; exact b5, fun c hc => by rw [hg _ (by omega)]; exact b6 c hc, fun r hr => by rw [hg _ (by omega)]; exact b7 r hr⟩, hA⟩
  · rw [hg (5 + 4 * k + 0) (by omega), hg (5 + 4 * k + 1) (by omega), hg (5 + 4 * k + 2) (by omega), hg (5 + 4 * k + 3) (by omega)]
    exact a4 k hk
  · rw [hg (61 + 4 * r + 0) (by omega), hg (61 + 4 * r + 1) (by omega), hg (61 + 4 * r + 2) (by omega)]
    exact a6 r hr
theorem BJ_0 {y : YS} {g : Nat → Int32} {fl : Nat → UInt32} : BJ y g fl 0 ↔ RelJ y g fl :=
  ⟨RelJ_cg (fun j _ => by show g j = g (81 * 0 + j); rw [Nat.mul_zero, Nat.zero_add]) (fun j _ => by show fl j = fl (9 * 0 + j); rw [Nat.mul_zero, Nat.zero_add]),
   RelJ_cg (fun j _ => by show g (81 * 0 + j) = g j; rw [Nat.mul_zero, Nat.zero_add]) (fun j _ => by show fl (9 * 0 + j) = fl j; rw [Nat.mul_zero, Nat.zero_add])⟩
theorem BJ_hi {y : YS} {g g' : Nat → Int32} {fl fl' : Nat → UInt32} {b : Nat} (hb : 1 ≤ b) (hg : ∀ j, 81 ≤ j → g' j = g j) (hf : ∀ j, 9 ≤ j → fl' j = fl j) (h : BJ y g fl b) : BJ y g' fl' b :=
  RelJ_cg (fun j _ => by show g' (81 * b + j) = g (81 * b + j); exact hg _ (by omega)) (fun j _ => by show fl' (9 * b + j) = fl (9 * b + j); exact hf _ (by omega)) h
theorem BJ_to {y : YS} {g : Nat → Int32} {fl : Nat → UInt32} {fr to : Nat} (h : BJ y g fl fr) : BJ y (cpb g 81 fr to 81) (cpf fl 9 fr to 9) to :=
  RelJ_cg (fun j hj => by
    show cpb g 81 fr to 81 (81 * to + j) = g (81 * fr + j)
    unfold cpb
    rw [if_pos ⟨by omega, by omega⟩]
    exact congrArg g (by omega)) (fun j hj => by
    show cpf fl 9 fr to 9 (9 * to + j) = fl (9 * fr + j)
    unfold cpf
    rw [if_pos ⟨by omega, by omega⟩]
    exact congrArg fl (by omega)) h
theorem BJ_ne {y : YS} {g : Nat → Int32} {fl : Nat → UInt32} {fr to b : Nat} (hb : b ≠ to) (h : BJ y g fl b) : BJ y (cpb g 81 fr to 81) (cpf fl 9 fr to 9) b :=
  RelJ_cg (fun j hj => by
    show cpb g 81 fr to 81 (81 * b + j) = g (81 * b + j)
    unfold cpb
    rw [if_neg (by omega)]) (fun j hj => by
    show cpf fl 9 fr to 9 (9 * b + j) = fl (9 * b + j)
    unfold cpf
    rw [if_neg (by omega)]) h
theorem BJ_sh {y : YS} {g : Nat → Int32} {fl : Nat → UInt32} : ∀ k, (∀ b, 1 ≤ b → b ≤ k → BJ y g fl (b + 1) → BJ y (shB g k) (shF fl k) b) ∧ (∀ b, (b = 0 ∨ k < b) → BJ y g fl b → BJ y (shB g k) (shF fl k) b)
  | 0 => ⟨fun b h1 h2 => by omega, fun b _ h => h⟩
  | k + 1 => by
    obtain ⟨i1, i2⟩ := BJ_sh (y := y) (g := g) (fl := fl) k
    refine ⟨fun b h1 h2 h => ?_, fun b hb h => ?_⟩
    · show BJ y (cpb (shB g k) 81 (k + 2) (k + 1) 81) (cpf (shF fl k) 9 (k + 2) (k + 1) 9) b
      by_cases e : b = k + 1
      · subst e
        exact BJ_to (i2 (k + 2) (by omega) h)
      · exact BJ_ne e (i1 b h1 (by omega) h)
    · show BJ y (cpb (shB g k) 81 (k + 2) (k + 1) 81) (cpf (shF fl k) 9 (k + 2) (k + 1) 9) b
      exact BJ_ne (by omega) (i2 b (by omega) h)
/-- the slot of the yard before the latest change but i -/
def ri (n i : Nat) : Nat := (n + 8 - i) % 9
theorem ri_ne {n i : Nat} (hn : n ≤ 8) (hi : i < 8) : ri n i ≠ n := by unfold ri; omega
def RelH (h : HS) (g : Nat → Int32) (fl : Nat → UInt32) (ch : Nat) : Prop := h.1 ≤ 8 ∧ h.2.1 = ch ∧ ch ≤ 8 ∧ ∀ i, i < ch → BJ (h.2.2 (ri h.1 i)) g fl (ch - i)
theorem RelH_up {h : HS} {g : Nat → Int32} {fl : Nat → UInt32} {ch : Nat} {y : YS} (hH : RelH h g fl ch) : RelH (hB h y) g fl ch := by
  obtain ⟨h1, h2, h3, h4⟩ := hH
  refine ⟨h1, h2, h3, fun i hi => ?_⟩
  show BJ (upS h.2.2 h.1 y (ri h.1 i)) g fl (ch - i)
  rw [upS_ne (ri_ne h1 (by omega))]
  exact h4 i hi
theorem RelH_cp {h : HS} {g : Nat → Int32} {fl : Nat → UInt32} {ch fr to : Nat} (ht : to = 0 ∨ 9 ≤ to) (hH : RelH h g fl ch) : RelH h (cpb g 81 fr to 81) (cpf fl 9 fr to 9) ch := by
  obtain ⟨h1, h2, h3, h4⟩ := hH
  exact ⟨h1, h2, h3, fun i hi => BJ_ne (by omega) (h4 i hi)⟩
theorem RelH_hi {h : HS} {g g' : Nat → Int32} {fl fl' : Nat → UInt32} {ch : Nat} (hg : ∀ j, 81 ≤ j → g' j = g j) (hf : ∀ j, 9 ≤ j → fl' j = fl j) (hH : RelH h g fl ch) : RelH h g' fl' ch := by
  obtain ⟨h1, h2, h3, h4⟩ := hH
  exact ⟨h1, h2, h3, fun i hi => BJ_hi (by omega) hg hf (h4 i hi)⟩
/-- between the beginning of a change and its end -/
def RQ (y0 : YS) (h : HS) (sy : YS) (v : MS) : Prop := BJ y0 (m_g v) (m_fl v) 10 ∧ RelH h (m_g v) (m_fl v) (m_ch v) ∧ (¬ m_sv v = 0 → BJ sy (m_g v) (m_fl v) 9)
theorem RQ_beg {y sy : YS} {h : HS} {v : MS} (hJ : RelJ y (m_g v) (m_fl v)) (hH : RelH h (m_g v) (m_fl v) (m_ch v)) (hS : ¬ m_sv v = 0 → BJ sy (m_g v) (m_fl v) 9) : RQ y h sy (F_beg v) ∧ RelJ y (m_g (F_beg v)) (m_fl (F_beg v)) :=
  ⟨⟨BJ_to (BJ_0.mpr hJ), RelH_cp (Or.inr (by decide)) hH, fun q => BJ_ne (by decide) (hS q)⟩, BJ_0.mp (BJ_ne (fr := 0) (to := 10) (by decide) (BJ_0.mpr hJ))⟩
theorem RQ_hi {y0 sy : YS} {h : HS} {v : MS} {g : Nat → Int32} {fl : Nat → UInt32} (hQ : RQ y0 h sy v) (hg : ∀ j, 81 ≤ j → g j = m_g v j) (hf : ∀ j, 9 ≤ j → fl j = m_fl v j) : RQ y0 h sy (mGF v g fl) :=
  ⟨BJ_hi (by decide) hg hf hQ.1, RelH_hi hg hf hQ.2.1, fun q => BJ_hi (by decide) hg hf (hQ.2.2 q)⟩
theorem ends_neg {v : MS} {t : Int32} (h : ¬ 0 ≤ t) : F_ends v t = (t, mGF v (cpb (m_g v) 81 10 0 81) (cpf (m_fl v) 9 10 0 9)) := if_pos h
theorem ends_8 {v : MS} {t : Int32} (h : 0 ≤ t) (h8 : m_ch v = 8) : F_ends v t = (t, mGFC v (cpb (shB (m_g v) 7) 81 10 8 81) (cpf (shF (m_fl v) 7) 9 10 8 9) 8) := by
  unfold F_ends; rw [if_neg (fun q => q h), if_pos h8]
theorem ends_lt {v : MS} {t : Int32} (h : 0 ≤ t) (h8 : ¬ m_ch v = 8) : F_ends v t = (t, mGFC v (cpb (m_g v) 81 10 (m_ch v + 1) 81) (cpf (m_fl v) 9 10 (m_ch v + 1) 9) (m_ch v + 1)) := by
  unfold F_ends; rw [if_neg (fun q => q h), if_neg h8]
theorem set_neg {h : HS} {x : Int32} (hx : x < 0) : F_set h x = (x, h) := if_pos hx
theorem set_pos {h : HS} {x : Int32} (hx : ¬ x < 0) : F_set h x = (x, (if 8 ≤ h.1 then 0 else h.1 + 1), (if h.2.1 < 8 then h.2.1 + 1 else 8), h.2.2) := if_neg hx
/-- a change that is made: the yard before it is kept -/
theorem RelH_new {h : HS} {y0 : YS} {g : Nat → Int32} {fl : Nat → UInt32} {ch : Nat} {x : Int32} (hx : ¬ x < 0) (hH : RelH h g fl ch) {g' : Nat → Int32} {fl' : Nat → UInt32} {ch' : Nat} (hc : ch' = if ch < 8 then ch + 1 else 8) (h0 : BJ y0 g' fl' ch')
    (hr : ∀ y i, i < ch → i + 1 < ch' → BJ y g fl (ch - i) → BJ y g' fl' (ch' - (i + 1))) : RelH (F_set (hB h y0) x).2 g' fl' ch' := by
  obtain ⟨h1, h2, h3, h4⟩ := hH
  rw [set_pos hx]
  show RelH ((if 8 ≤ h.1 then 0 else h.1 + 1), (if h.2.1 < 8 then h.2.1 + 1 else 8), upS h.2.2 h.1 y0) g' fl' ch'
  have hn : (if 8 ≤ h.1 then 0 else h.1 + 1) ≤ 8 := by split <;> omega
  refine ⟨hn, by rw [h2, hc], by rw [hc]; split <;> omega, fun i hi => ?_⟩
  show BJ (upS h.2.2 h.1 y0 (ri (if 8 ≤ h.1 then 0 else h.1 + 1) i)) g' fl' (ch' - i)
  cases i with
  | zero =>
    have e : ri (if 8 ≤ h.1 then 0 else h.1 + 1) 0 = h.1 := by unfold ri; split <;> omega
    rw [e, upS_same]
    exact h0
  | succ i =>
    have hch : i < ch := by rw [hc] at hi; split at hi <;> omega
    have e : ri (if 8 ≤ h.1 then 0 else h.1 + 1) (i + 1) = ri h.1 i := by unfold ri; split <;> omega
    rw [e, upS_ne (ri_ne h1 (by omega))]
    exact hr _ i hch hi (h4 i hch)
theorem ends_ok {y0 y1 sy : YS} {h : HS} {v : MS} {t : Int32} (hQ : RQ y0 h sy v) (hJ : RelJ y1 (m_g v) (m_fl v)) (ht : ¬ t < 0) : ∃ g fl ch, F_ends v t = (t, mGFC v g fl ch) ∧ RelJ y1 g fl ∧ RelH (F_set (hB h y0) t).2 g fl ch ∧ (¬ m_sv v = 0 → BJ sy g fl 9) := by
  obtain ⟨q1, q2, q3⟩ := hQ
  have h8 : m_ch v ≤ 8 := q2.2.2.1
  have ht0 : 0 ≤ t := Int32.not_lt.mp ht
  by_cases c : m_ch v = 8
  · refine ⟨_, _, _, ends_8 ht0 c, ?_, ?_, fun q => ?_⟩
    · exact BJ_0.mp (BJ_ne (by decide) ((BJ_sh 7).2 0 (Or.inl rfl) (BJ_0.mpr hJ)))
    · refine RelH_new ht q2 (by rw [c]; rfl) (BJ_to ((BJ_sh 7).2 10 (Or.inr (by decide)) q1)) (fun y i hi h1 hb => BJ_ne (by omega) ((BJ_sh 7).1 _ (by omega) (by omega) ?_))
      rw [c] at hb
      rw [show 8 - (i + 1) + 1 = 8 - i by omega]
      exact hb
    · exact BJ_ne (by decide) ((BJ_sh 7).2 9 (Or.inr (by decide)) (q3 q))
  · refine ⟨_, _, _, ends_lt ht0 c, ?_, ?_, fun q => ?_⟩
    · exact BJ_0.mp (BJ_ne (by omega) (BJ_0.mpr hJ))
    · refine RelH_new ht q2 (by rw [if_pos (by omega)]) (BJ_to q1) (fun y i hi h1 hb => ?_)
      rw [show m_ch v + 1 - (i + 1) = m_ch v - i by omega]
      exact BJ_ne (by omega) hb
    · exact BJ_ne (by omega) (q3 q)
theorem ends_no {y0 sy : YS} {h : HS} {v : MS} {t : Int32} (hQ : RQ y0 h sy v) (ht : t < 0) : ∃ g fl, F_ends v t = (t, mGF v g fl) ∧ RelJ y0 g fl ∧ RelH (hB h y0) g fl (m_ch v) ∧ (¬ m_sv v = 0 → BJ sy g fl 9) :=
  ⟨_, _, ends_neg (Int32.not_le.mpr ht), BJ_0.mp (BJ_to hQ.1), RelH_up (RelH_cp (Or.inl rfl) hQ.2.1), fun q => BJ_ne (by decide) (hQ.2.2 q)⟩
/-- the reasons, the input, the line -/
def RelR (rs : RS) (v : MS) : Prop := ((m_why v = 0 ∧ rs.1 = -4 ∧ rs.2.1 = -4) ∨ (¬ m_why v = 0 ∧ rs.1 = m_why v ∧ rs.2.1 = m_det v)) ∧ ((m_li v = 0 ∧ rs.2.2.1 = -4 ∧ rs.2.2.2 = -4) ∨ (¬ m_li v = 0 ∧ rs.2.2.1 = m_li v ∧ rs.2.2.2 = m_ld v))
def RelN (iv : IS) (v : MS) : Prop := i_sg iv = m_in v ∧ i_n iv = m_ty v ∧ m_ty v ≤ 60 ∧ i_cm iv < 9
def RelT (tx : List Nat) (v : MS) : Prop := m_lz v = tx.length ∧ tx.length ≤ 60 ∧ ∀ j, j < tx.length → m_ln v j = nI (tx.getD j 0)
/-- class and reference -/
def LQ (y : YS) (rs : RS) (iv : IS) (sy : YS) (xv : Int32 × Int32) (tx : List Nat) (h : HS) (v : MS) : Prop := RelJ y (m_g v) (m_fl v) ∧ RelH h (m_g v) (m_fl v) (m_ch v) ∧ (¬ m_sv v = 0 → BJ sy (m_g v) (m_fl v) 9) ∧ RelR rs v ∧ RelN iv v ∧ xv.1 = m_sv v ∧ xv.2 = m_fa v ∧ RelT tx v
theorem RL_chg {y : YS} {rs : RS} {iv : IS} {sy : YS} {xv : Int32 × Int32} {tx : List Nat} {h : HS} {v : MS} {a : Int32 × YS × RS} {b : Int32 × MS} (hL : LQ y rs iv sy xv tx h v) (hs : Spp y rs (F_beg v) a b) : (F_set (hB h y) a.1).1 = (F_ch b).1 ∧ LQ a.2.1 a.2.2 iv sy xv tx (F_set (hB h y) a.1).2 (F_ch b).2 := by
  obtain ⟨hJ, hH, hS, hR, hN, h1, h2, hT⟩ := hL
  obtain ⟨hQ, -⟩ := RQ_beg hJ hH hS
  obtain ⟨a1, a2⟩ := a
  obtain ⟨b1, b2⟩ := b
  obtain ⟨e, c⟩ := hs
  have e : a1 = b1 := e
  subst e
  show (F_set (hB h y) a1).1 = (F_ends b2 a1).1 ∧ LQ a2.1 a2.2 iv sy xv tx (F_set (hB h y) a1).2 (F_ends b2 a1).2
  rcases c with ⟨e3, x, d, hx, ea, eb⟩ | ⟨e3, ea, eb⟩ | ⟨e3, ea, g, fl, eb, hg, hf, hj⟩
  · have e3 : a1 = -3 := e3
    have ea : a2 = (y, rsOf x d) := ea
    have eb : b2 = mRef (F_beg v) x d := eb
    subst e3 ea eb
    have hQ' : RQ y h sy (mRef (F_beg v) x d) := hQ
    obtain ⟨g, fl, ee, k1, k2, k3⟩ := ends_no hQ' (show (-3 : Int32) < 0 by decide)
    rw [ee, set_neg (show (-3 : Int32) < 0 by decide)]
    exact ⟨rfl, k1, k2, k3, ⟨Or.inr ⟨hx, rfl, rfl⟩, Or.inl ⟨rfl, rfl, rfl⟩⟩, hN, h1, h2, hT⟩
  · have ea : a2 = (y, rs) := ea
    have eb : b2 = F_beg v := eb
    have hneg : a1 < 0 := by
      rcases e3 with e3 | e3
      · have e3 : a1 = -1 := e3
        rw [e3]; decide
      · have e3 : a1 = -2 := e3
        rw [e3]; decide
    subst ea eb
    obtain ⟨g, fl, ee, k1, k2, k3⟩ := ends_no hQ hneg
    rw [ee, set_neg hneg]
    exact ⟨rfl, k1, k2, k3, hR, hN, h1, h2, hT⟩
  · have e3 : ¬ a1 < 0 := e3
    have ea : a2.2 = rs := ea
    have eb : b2 = mGF (F_beg v) g fl := eb
    have hj : RelJ a2.1 g fl := hj
    subst eb
    have hQ' : RQ y h sy (mGF (F_beg v) g fl) := RQ_hi hQ hg hf
    obtain ⟨g', fl', ch', ee, k1, k2, k3⟩ := ends_ok hQ' hj e3
    rw [ee, ea]
    refine ⟨by rw [set_pos e3], k1, k2, k3, hR, hN, h1, h2, hT⟩
