/-! THE REFERENCE: its parser -/
def mHW (v : MS) (h : Nat) (w : Int32) : MS := (m_g v, m_fl v, m_ch v, m_sv v, m_why v, m_det v, m_li v, m_ld v, m_wt v, m_wm v, m_ln v, m_lz v, m_in v, m_ty v, h, w, m_fa v, m_cm v, m_cz v)
def mCm (v : MS) (f : Nat → Int32) (n : Nat) : MS := (m_g v, m_fl v, m_ch v, m_sv v, m_why v, m_det v, m_li v, m_ld v, m_wt v, m_wm v, m_ln v, m_lz v, m_in v, m_ty v, m_he v, m_wa v, m_fa v, f, n)
def sg (f : Nat → Int32) (n i : Nat) : Int32 := if i < n then f i else -1
theorem sg_lt {f : Nat → Int32} {n i : Nat} (h : p_rng (sg f n i) (nI 48) (nI 57)) : i < n := by
  by_cases q : i < n
  · exact q
  · unfold sg at h; rw [if_neg q] at h; exact absurd h (by decide)
theorem sg_ne {f : Nat → Int32} {n i c : Nat} (h : sg f n i = nI c) (hc : c < 2 ^ 31) : i < n := by
  by_cases q : i < n
  · exact q
  · unfold sg at h; rw [if_neg q] at h; exact absurd h (by intro e; rw [← Int32.toInt_inj, nI_toInt hc] at e; have e2 : (-1 : Int32).toInt = -1 := by decide
                                                          rw [e2] at e; omega)
def okP (v : MS) : Prop := m_he v ≤ m_ty v ∧ m_ty v ≤ 60
def F_need (v : MS) (c : Int32) : MS :=
  if ¬ m_wa v < 0 then v else if sg (m_in v) (m_ty v) (m_he v) = c then mHW v (m_he v + 1) (m_wa v) else mHW v (m_he v) (nI (m_he v))
abbrev F_s2 (v : MS) (a b : Int32) : MS := F_need (F_need v a) b
abbrev F_s3 (v : MS) (a b c : Int32) : MS := F_need (F_need (F_need v a) b) c
abbrev dgP (x : Int32) : Prop := p_rng x (nI 48) (nI 57)
abbrev sgH (v : MS) : Int32 := sg (m_in v) (m_ty v) (m_he v)
def F_num1 (v : MS) : Int32 × MS :=
  if ¬ m_wa v < 0 then (nI 0, v)
  else if ¬ dgP (sgH v) then (nI 0, mHW v (m_he v) (nI (m_he v)))
  else (nI (10 * 0) + sgH v - nI 48, mHW v (m_he v + 1) (m_wa v))
def F_num2 (v : MS) : Int32 × MS :=
  if ¬ m_wa v < 0 then (nI 0, v)
  else if ¬ dgP (sgH v) then (nI 0, mHW v (m_he v) (nI (m_he v)))
  else if ¬ dgP (sg (m_in v) (m_ty v) (m_he v + 1)) then (nI (10 * 0) + sgH v - nI 48, mHW v (m_he v + 1) (m_wa v))
  else (nI 10 * (nI (10 * 0) + sgH v - nI 48) + sg (m_in v) (m_ty v) (m_he v + 1) - nI 48, mHW v (m_he v + 1 + 1) (m_wa v))
abbrev F_bh1 (v : MS) : Int32 × MS := F_num1 (F_need v (nI 32))
abbrev F_bh2 (v : MS) : Int32 × MS := F_num2 (F_need v (nI 32))
/-- all but here and wrongAt stays; here stays within the text -/
def samP (v s : MS) : Prop := s = mHW v (m_he s) (m_wa s)
theorem need_ok {v : MS} {c : Nat} (hc : c < 2 ^ 31) (h : okP v) : okP (F_need v (nI c)) := by
  unfold F_need
  split
  · exact h
  · split
    · rename_i h1
      have := sg_ne h1 hc
      exact ⟨this, h.2⟩
    · exact h
theorem num1_ok {v : MS} (h : okP v) : okP (F_num1 v).2 := by
  unfold F_num1
  split
  · exact h
  · split
    · exact h
    · rename_i h1
      exact ⟨sg_lt (Decidable.not_not.mp h1), h.2⟩
theorem num2_ok {v : MS} (h : okP v) : okP (F_num2 v).2 := by
  unfold F_num2
  split
  · exact h
  · split
    · exact h
    · split
      · rename_i h1 _
        exact ⟨sg_lt (Decidable.not_not.mp h1), h.2⟩
      · rename_i h1
        exact ⟨sg_lt (Decidable.not_not.mp h1), h.2⟩
theorem s3_ok {v : MS} {a b c : Nat} (ha : a < 2 ^ 31) (hb : b < 2 ^ 31) (hc : c < 2 ^ 31) (h : okP v) : okP (F_s3 v (nI a) (nI b) (nI c)) := need_ok hc (need_ok hb (need_ok ha h))
theorem s2_ok {v : MS} {a b : Nat} (ha : a < 2 ^ 31) (hb : b < 2 ^ 31) (h : okP v) : okP (F_s2 v (nI a) (nI b)) := need_ok hb (need_ok ha h)
/-- the words -/
abbrev W_p (v : MS) : MS := F_s3 (F_s3 v (nI 114) (nI 101) (nI 109)) (nI 105) (nI 115) (nI 101)
abbrev W_r (v : MS) : MS := F_s3 v (nI 111) (nI 97) (nI 100)
abbrev W_u (v : MS) : MS := F_s2 (F_s3 v (nI 110) (nI 108) (nI 111)) (nI 97) (nI 100)
abbrev W_s (v : MS) : MS := F_s3 v (nI 119) (nI 97) (nI 112)
abbrev W_t (v : MS) : MS := F_s3 v (nI 114) (nI 105) (nI 112)
abbrev W_g (v : MS) : MS := F_s2 (F_s3 v (nI 114) (nI 101) (nI 97)) (nI 115) (nI 101)
abbrev W_a (v : MS) : MS := F_s3 v (nI 97) (nI 114) (nI 116)
abbrev W_c (v : MS) : MS := F_s3 (F_s3 (F_s3 v (nI 111) (nI 110) (nI 99)) (nI 108) (nI 117) (nI 115)) (nI 105) (nI 111) (nI 110)
def setC (v : MS) (i : Nat) (x : Int32) : MS := mCm v (upd (m_cm v) i x) (m_cz v)
def setN (i : Nat) (q : Int32 × MS) : MS := setC q.2 i q.1
theorem setC_ok {v : MS} {i : Nat} {x : Int32} (h : okP v) : okP (setC v i x) := h
theorem setN_ok {q : Int32 × MS} {i : Nat} (h : okP q.2) : okP (setN i q) := h
abbrev K1 (b : Nat) (k : Nat) (s : MS) : MS := setN (b + 1) (F_bh1 (setC s b (nI k)))
abbrev K2 (b : Nat) (k : Nat) (s : MS) : MS := setN (b + 1) (F_bh2 (setC s b (nI k)))
abbrev K_r (b : Nat) (s : MS) : MS := setN (b + 3) (F_bh1 (setN (b + 2) (F_bh1 (K2 b 114 s))))
abbrev K_l (b : Nat) (s : MS) : MS := setN (b + 3) (F_num1 (setN (b + 2) (F_bh1 (K2 b 108 s))))
abbrev K_s (b : Nat) (s : MS) : MS := setN (b + 3) (F_num1 (setN (b + 2) (F_bh1 (K1 b 115 s))))
abbrev K_t (b : Nat) (s : MS) : MS := setN (b + 2) (F_bh1 (K1 b 116 s))
abbrev c_0 (v : MS) : MS := mCm v (zr4 (m_cm v) (4 * m_cz v) 4) (m_cz v + 1)
abbrev c_1 (v : MS) : MS := mHW (c_0 v) (m_he v + 1) (m_wa v)
def F_cmd (v : MS) : MS :=
  if sgH v = nI 112 then K1 (4 * m_cz v) 112 (W_p (c_1 v))
  else if sgH v = nI 99 then (if sg (m_in v) (m_ty v) (m_he v + 1) = nI 97 then K2 (4 * m_cz v) 97 (W_a (c_1 v)) else K2 (4 * m_cz v) 99 (W_c (c_1 v)))
  else if sgH v = nI 114 then K_r (4 * m_cz v) (W_r (c_1 v))
  else if sgH v = nI 108 then K_l (4 * m_cz v) (W_r (c_1 v))
  else if sgH v = nI 117 then K2 (4 * m_cz v) 117 (W_u (c_1 v))
  else if sgH v = nI 115 then K_s (4 * m_cz v) (W_s (c_1 v))
  else if sgH v = nI 116 then K_t (4 * m_cz v) (W_t (c_1 v))
  else if sgH v = nI 103 then K1 (4 * m_cz v) 103 (W_g (c_1 v))
  else mHW (c_0 v) (m_he v) (nI (m_he v))
def pLoop : Nat → MS → MS
  | 0, s => s
  | n + 1, s => if m_wa s < 0 ∧ sgH s = nI 59 then pLoop n (F_cmd (mHW s (m_he s + 1) (m_wa s))) else s
def prE (s : MS) : MS := if m_wa s < 0 ∧ m_he s < m_ty s then mHW s (m_he s) (nI (m_he s)) else s
abbrev p_0 (v : MS) : MS := mCm (mHW v 0 (-1)) (m_cm v) 0
def F_prs (v : MS) : MS := prE (pLoop 61 (F_cmd (p_0 v)))
/-- s is v further on: here no smaller, only here, wrongAt and the commands are others -/
def adv (v s : MS) : Prop := okP s ∧ m_he v ≤ m_he s ∧ ∃ h w f, s = mCm (mHW v h w) f (m_cz v)
theorem adv_rf {v : MS} (h : okP v) : adv v v := ⟨h, Nat.le_refl _, m_he v, m_wa v, m_cm v, rfl⟩
theorem adv_need {v s : MS} {c : Nat} (hc : c < 2 ^ 31) (h : adv v s) : adv v (F_need s (nI c)) := by
  have ho := need_ok hc h.1
  obtain ⟨-, h2, x, w, f, e⟩ := h
  refine ⟨ho, ?_, ?_⟩
  · unfold F_need
    split
    · exact h2
    · split
      · exact Nat.le_succ_of_le h2
      · exact h2
  · unfold F_need
    split
    · exact ⟨x, w, f, e⟩
    · split
      · subst e; exact ⟨_, _, _, rfl⟩
      · subst e; exact ⟨_, _, _, rfl⟩
theorem adv_num1 {v s : MS} (h : adv v s) : adv v (F_num1 s).2 := by
  have ho := num1_ok h.1
  obtain ⟨-, h2, x, w, f, e⟩ := h
  refine ⟨ho, ?_, ?_⟩
  · unfold F_num1
    split
    · exact h2
    · split
      · exact h2
      · exact Nat.le_succ_of_le h2
  · unfold F_num1
    subst e
    split
    · exact ⟨_, _, _, rfl⟩
    · split
      · exact ⟨_, _, _, rfl⟩
      · exact ⟨_, _, _, rfl⟩
theorem adv_num2 {v s : MS} (h : adv v s) : adv v (F_num2 s).2 := by
  have ho := num2_ok h.1
  obtain ⟨-, h2, x, w, f, e⟩ := h
  refine ⟨ho, ?_, ?_⟩
  · unfold F_num2
    split
    · exact h2
    · split
      · exact h2
      · split
        · exact Nat.le_succ_of_le h2
        · exact Nat.le_succ_of_le (Nat.le_succ_of_le h2)
  · unfold F_num2
    subst e
    split
    · exact ⟨_, _, _, rfl⟩
    · split
      · exact ⟨_, _, _, rfl⟩
      · split
        · exact ⟨_, _, _, rfl⟩
        · exact ⟨_, _, _, rfl⟩
theorem adv_setC {v s : MS} {i : Nat} {x : Int32} (h : adv v s) : adv v (setC s i x) := by
  obtain ⟨h1, h2, a, w, f, e⟩ := h
  refine ⟨h1, h2, a, w, upd f i x, ?_⟩
  subst e; rfl
theorem adv_setN {v : MS} {i : Nat} {q : Int32 × MS} (h : adv v q.2) : adv v (setN i q) := adv_setC h
theorem adv_s3 {v s : MS} {a b c : Nat} (ha : a < 2 ^ 31) (hb : b < 2 ^ 31) (hc : c < 2 ^ 31) (h : adv v s) : adv v (F_s3 s (nI a) (nI b) (nI c)) := adv_need hc (adv_need hb (adv_need ha h))
theorem adv_s2 {v s : MS} {a b : Nat} (ha : a < 2 ^ 31) (hb : b < 2 ^ 31) (h : adv v s) : adv v (F_s2 s (nI a) (nI b)) := adv_need hb (adv_need ha h)
theorem adv_b1 {v s : MS} {i : Nat} (h : adv v s) : adv v (setN i (F_bh1 s)) := adv_setN (adv_num1 (adv_need (by decide) h))
theorem adv_b2 {v s : MS} {i : Nat} (h : adv v s) : adv v (setN i (F_bh2 s)) := adv_setN (adv_num2 (adv_need (by decide) h))
theorem adv_k1 {v s : MS} {b k : Nat} (h : adv v s) : adv v (K1 b k s) := adv_b1 (adv_setC h)
theorem adv_k2 {v s : MS} {b k : Nat} (h : adv v s) : adv v (K2 b k s) := adv_b2 (adv_setC h)
/-- a command moves on -/
theorem cmd_adv {v : MS} (h : okP v) : okP (F_cmd v) ∧ ∃ a w f, F_cmd v = mCm (mHW v a w) f (m_cz v + 1) ∧ (w < 0 → m_he v + 1 ≤ a) ∧ m_he v ≤ a := by
  have go : ∀ s, adv (c_1 v) s → F_cmd v = s → okP (F_cmd v) ∧ ∃ a w f, F_cmd v = mCm (mHW v a w) f (m_cz v + 1) ∧ (w < 0 → m_he v + 1 ≤ a) ∧ m_he v ≤ a := by
    intro s h1 e
    obtain ⟨h2, h3, a, w, f, e2⟩ := h1
    rw [e]
    refine ⟨h2, a, w, f, e2, fun _ => ?_, ?_⟩
    · rw [e2] at h3; exact h3
    · rw [e2] at h3; exact Nat.le_of_succ_le h3
  have ok : ∀ k, k < 2 ^ 31 → sgH v = nI k → adv (c_1 v) (c_1 v) := fun k hk e => adv_rf ⟨sg_ne e hk, h.2⟩
  by_cases h1 : sgH v = nI 112
  · exact go _ (adv_k1 (adv_s3 (by decide) (by decide) (by decide) (adv_s3 (by decide) (by decide) (by decide) (ok _ (by decide) h1)))) (if_pos h1)
  · by_cases h2 : sgH v = nI 99
    · by_cases h9 : sg (m_in v) (m_ty v) (m_he v + 1) = nI 97
      · exact go _ (adv_k2 (adv_s3 (by decide) (by decide) (by decide) (ok _ (by decide) h2))) ((if_neg h1).trans ((if_pos h2).trans (if_pos h9)))
      · exact go _ (adv_k2 (adv_s3 (by decide) (by decide) (by decide) (adv_s3 (by decide) (by decide) (by decide) (adv_s3 (by decide) (by decide) (by decide) (ok _ (by decide) h2))))) ((if_neg h1).trans ((if_pos h2).trans (if_neg h9)))
    · by_cases h3 : sgH v = nI 114
      · exact go _ (adv_b1 (adv_b1 (adv_k2 (adv_s3 (by decide) (by decide) (by decide) (ok _ (by decide) h3))))) ((if_neg h1).trans ((if_neg h2).trans (if_pos h3)))
      · by_cases h4 : sgH v = nI 108
        · exact go _ (adv_setN (adv_num1 (adv_b1 (adv_k2 (adv_s3 (by decide) (by decide) (by decide) (ok _ (by decide) h4)))))) ((if_neg h1).trans ((if_neg h2).trans ((if_neg h3).trans (if_pos h4))))
        · by_cases h5 : sgH v = nI 117
          · exact go _ (adv_k2 (adv_s2 (by decide) (by decide) (adv_s3 (by decide) (by decide) (by decide) (ok _ (by decide) h5)))) ((if_neg h1).trans ((if_neg h2).trans ((if_neg h3).trans ((if_neg h4).trans (if_pos h5)))))
          · by_cases h6 : sgH v = nI 115
            · exact go _ (adv_setN (adv_num1 (adv_b1 (adv_k1 (adv_s3 (by decide) (by decide) (by decide) (ok _ (by decide) h6)))))) ((if_neg h1).trans ((if_neg h2).trans ((if_neg h3).trans ((if_neg h4).trans ((if_neg h5).trans (if_pos h6))))))
            · by_cases h7 : sgH v = nI 116
              · exact go _ (adv_b1 (adv_k1 (adv_s3 (by decide) (by decide) (by decide) (ok _ (by decide) h7)))) ((if_neg h1).trans ((if_neg h2).trans ((if_neg h3).trans ((if_neg h4).trans ((if_neg h5).trans ((if_neg h6).trans (if_pos h7)))))))
              · by_cases h8 : sgH v = nI 103
                · exact go _ (adv_k1 (adv_s2 (by decide) (by decide) (adv_s3 (by decide) (by decide) (by decide) (ok _ (by decide) h8)))) ((if_neg h1).trans ((if_neg h2).trans ((if_neg h3).trans ((if_neg h4).trans ((if_neg h5).trans ((if_neg h6).trans ((if_neg h7).trans (if_pos h8))))))))
                · have e : F_cmd v = mHW (c_0 v) (m_he v) (nI (m_he v)) := (if_neg h1).trans ((if_neg h2).trans ((if_neg h3).trans ((if_neg h4).trans ((if_neg h5).trans ((if_neg h6).trans ((if_neg h7).trans (if_neg h8)))))))
                  rw [e]
                  refine ⟨h, m_he v, nI (m_he v), zr4 (m_cm v) (4 * m_cz v) 4, rfl, fun q => absurd q (nI_pos (by have := h.1; have := h.2; omega)), Nat.le_refl _⟩
theorem cmd_cz {v : MS} (h : okP v) (hz : m_cz v ≤ m_he v) (hw : m_wa (F_cmd v) < 0) : m_cz (F_cmd v) ≤ m_he (F_cmd v) := by
  obtain ⟨-, a, w, f, e, h1, -⟩ := cmd_adv h
  rw [e] at hw ⊢
  have := h1 hw
  show m_cz v + 1 ≤ a
  omega
theorem cmd_ty {v : MS} (h : okP v) : m_ty (F_cmd v) = m_ty v := by
  obtain ⟨-, a, w, f, e, -⟩ := cmd_adv h
  rw [e]; rfl
theorem cmd_he {v : MS} (h : okP v) : m_he v ≤ m_he (F_cmd v) := by
  obtain ⟨-, a, w, f, e, -, h1⟩ := cmd_adv h
  rw [e]; exact h1
theorem pLoop_e {n : Nat} {s : MS} (h : ¬ (m_wa s < 0 ∧ sgH s = nI 59)) : pLoop n s = s := by
  cases n with
  | zero => rfl
  | succ n => exact if_neg h
theorem pLoop_s {n : Nat} {s : MS} (hn : 1 ≤ n) (h : m_wa s < 0 ∧ sgH s = nI 59) : pLoop (n - 1) (F_cmd (mHW s (m_he s + 1) (m_wa s))) = pLoop n s := by
  obtain ⟨k, rfl⟩ : ∃ k, n = k + 1 := ⟨n - 1, by omega⟩
  exact (if_pos h).symm
theorem i_lt0 {x : Int32} (h : ¬ 0 ≤ x) : x < 0 := Int32.not_le.mp h
theorem i_ge0 {x : Int32} (h : 0 ≤ x) : ¬ x < 0 := Int32.not_lt.mpr h
