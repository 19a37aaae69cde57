/-! CLASS AND REFERENCE: one command of a text; what a text keeps; things in order -/
def F_doC (c : Nat) (y : YS) (v : MS) (x1 x2 x3 : Int32) : Int32 × MS :=
  match c with
  | 0 => F_adds y v (nI 0) x1
  | 1 => F_adds y v (nI 1) x1
  | 2 => F_addC y v x1
  | 3 => F_addR y v x1 x2 x3
  | 4 => F_put y v x1 x2 x3
  | 5 => F_off y v x1
  | 6 => F_swap y v x1 x2 x3
  | 7 => F_goes y v x1 x2
  | _ => F_grs y v x1
theorem st_cmd {c : Nat} (hc : c < 9) {y : YS} {rs : RS} {v : MS} {x1 x2 x3 : Int32} (hJ : RelJ y (m_g v) (m_fl v)) : Spp y rs v (f_cmd c y rs x1 x2 x3) (F_doC c y v x1 x2 x3) := by
  rcases (show c = 0 ∨ c = 1 ∨ c = 2 ∨ c = 3 ∨ c = 4 ∨ c = 5 ∨ c = 6 ∨ c = 7 ∨ c = 8 by omega) with rfl | rfl | rfl | rfl | rfl | rfl | rfl | rfl | rfl
  · exact st_addT (Or.inl ⟨rfl, rfl⟩) hJ
  · exact st_addT (Or.inr ⟨rfl, rfl⟩) hJ
  · exact st_addC hJ
  · exact st_addR hJ
  · exact st_put hJ
  · exact st_off hJ
  · exact st_swap hJ
  · exact st_go hJ
  · exact st_grease hJ
theorem Spp_J {y : YS} {rs : RS} {v : MS} {a : Int32 × YS × RS} {b : Int32 × MS} (h : Spp y rs v a b) (hJ : RelJ y (m_g v) (m_fl v)) : RelJ a.2.1 (m_g b.2) (m_fl b.2) ∧ m_ch b.2 = m_ch v ∧ m_cz b.2 = m_cz v ∧ m_cm b.2 = m_cm v := by
  obtain ⟨-, h | h | h⟩ := h
  · obtain ⟨_, x, d, _, e1, e2⟩ := h
    rw [e1, e2]; exact ⟨hJ, rfl, rfl, rfl⟩
  · obtain ⟨_, e1, e2⟩ := h
    rw [e1, e2]; exact ⟨hJ, rfl, rfl, rfl⟩
  · obtain ⟨_, _, g, fl, e, _, _, hj⟩ := h
    rw [e]; exact ⟨hj, rfl, rfl, rfl⟩
/-- what a command of a text keeps of the class's yard alone -/
def yJ (y : YS) : Prop := ∃ g fl, RelJ y g fl
theorem yJ_i {y : YS} (h : yJ y) : yI y ∧ yF y := by
  obtain ⟨g, fl, -, -, h1, -, -, -, h5⟩ := h
  exact ⟨h1, h5⟩
theorem f_cmd_out {c : Nat} (hc : ¬ c < 9) (y : YS) (rs : RS) (x1 x2 x3 : Int32) : f_cmd c y rs x1 x2 x3 = f_cmd 8 y rs x1 x2 x3 := by
  obtain ⟨k, rfl⟩ : ∃ k, c = k + 9 := ⟨c - 9, by omega⟩
  rfl
theorem yJ_c (y : YS) (rs : RS) (c : Nat) (x1 x2 x3 : Int32) (h : yJ y) : yJ (f_cmd c y rs x1 x2 x3).2.1 := by
  obtain ⟨g, fl, hJ⟩ := h
  by_cases hc : c < 9
  · exact ⟨_, _, (Spp_J (st_cmd hc (rs := rs) (v := mGF m00 g fl) (x1 := x1) (x2 := x2) (x3 := x3) hJ) hJ).1⟩
  · rw [f_cmd_out hc]
    exact ⟨_, _, (Spp_J (st_cmd (c := 8) (by decide) (rs := rs) (v := mGF m00 g fl) (x1 := x1) (x2 := x2) (x3 := x3) hJ) hJ).1⟩
theorem pos_sub {a b : Nat} (ha : a < 2 ^ 30) (hb : b < 2 ^ 30) : (0 < nI a - nI b) ↔ b < a := by
  rw [← Int32.not_le, nI_sub_le ha hb]; omega
theorem nI_inj' {a b : Nat} (ha : a < 2 ^ 30) (hb : b < 2 ^ 30) : nI a = nI b ↔ a = b := by
  constructor
  · intro h
    have := congrArg Int32.toInt h
    rw [nI_toInt (by omega), nI_toInt (by omega)] at this
    omega
  · rintro rfl; rfl
theorem nI_le' {a b : Nat} (ha : a < 2 ^ 30) (hb : b < 2 ^ 30) : nI a ≤ nI b ↔ a ≤ b := by
  rw [Int32.le_iff_toInt_le, nI_toInt (by omega), nI_toInt (by omega)]; omega
theorem sub_eq0 {a b : Nat} (ha : a < 2 ^ 30) (hb : b < 2 ^ 30) : nI a - nI b = 0 ↔ a = b := by
  constructor
  · intro h
    have h2 := Int32.sub_add_cancel (nI a) (nI b)
    rw [h, Int32.zero_add] at h2
    exact (nI_inj' ha hb).mp h2.symm
  · rintro rfl; exact Int32.sub_self _
theorem pcT_iff {y : YS} {j k : Nat} (hy : yI y) (hj : j < y_n y) (hk : k < y_n y) : pcT y j k ↔ pmT y j k := by
  obtain ⟨hkj, ⟨a, ha1, ha2, ea⟩, -⟩ := hy.2.2.2.1 j hj
  obtain ⟨hkk, ⟨b, hb1, hb2, eb⟩, -⟩ := hy.2.2.2.1 k hk
  have p1 : (0 < nI a - nI b) = (b < a) := propext (pos_sub (by omega) (by omega))
  have p2 : (nI a - nI b = 0) = (a = b) := propext (sub_eq0 (by omega) (by omega))
  have p3 : (nI a = nI b) = (a = b) := propext (nI_inj' (by omega) (by omega))
  have p4 : (nI a ≤ nI b) = (a ≤ b) := propext (nI_le' (by omega) (by omega))
  have k00 : (0 < nI 0 - nI 0) = False := eq_false (by decide)
  have k11 : (0 < nI 1 - nI 1) = False := eq_false (by decide)
  have k01 : (0 < nI 0 - nI 1) = False := eq_false (by decide)
  have k10 : (0 < nI 1 - nI 0) = True := eq_true (by decide)
  have z00 : (nI 0 - nI 0 = 0) = True := eq_true (by decide)
  have z11 : (nI 1 - nI 1 = 0) = True := eq_true (by decide)
  have z01 : (nI 0 - nI 1 = 0) = False := eq_false (by decide)
  have z10 : (nI 1 - nI 0 = 0) = False := eq_false (by decide)
  have e01 : (nI 0 = nI 1) = False := eq_false (by decide)
  have e10 : (nI 1 = nI 0) = False := eq_false (by decide)
  have d0 : (nI 0 = 0) = True := eq_true (by decide)
  have d1 : (nI 1 = 0) = False := eq_false (by decide)
  unfold pcT pmT
  rw [ea, eb, p1, p2, p3, p4]
  rcases hkj with e | e <;> rcases hkk with e' | e' <;> rw [e, e'] <;> simp only [k00, k11, k01, k10, z00, z11, z01, z10, e01, e10, d0, d1, not_true_eq_false, not_false_eq_true, true_and, false_and, and_false, and_true, or_false, false_or, or_true, true_or] <;> omega
