/-! THE REFERENCE: its parser -/
def mHW (v : MS) (h : Nat) (w : Int32) : MS := (m_g v, m_fl v, m_ch v, m_sv v, m_why v, m_det v, m_li v, m_ld v, m_wt v, m_wm v, m_ln v, m_lz v, m_in v, m_ty v, h, w, m_fa v, m_cm v, m_cz v)
def mCm (v : MS) (f : Nat → Int32) (n : Nat) : MS := (m_g v, m_fl v, m_ch v, m_sv v, m_why v, m_det v, m_li v, m_ld v, m_wt v, m_wm v, m_ln v, m_lz v, m_in v, m_ty v, m_he v, m_wa v, m_fa v, f, n)
def sg (f : Nat → Int32) (n i : Nat) : Int32 := if i < n then f i else -1
theorem sg_lt {f : Nat → Int32} {n i : Nat} (h : p_rng (sg f n i) (nI 48) (nI 57)) : i < n := by
  by_cases q : i < n
  · exact q
  · unfold sg at h; rw [if_neg q] at h; exact absurd h (by decide)
theorem sg_ne {f : Nat → Int32} {n i c : Nat} (h : sg f n i = nI c) (hc : c < 2 ^ 31) : i < n := by
  by_cases q : i < n
  · exact q
  · unfold sg at h
    rw [if_neg q] at h
    have e2 : (-1 : Int32).toInt = -1 := by decide
    rw [← Int32.toInt_inj, nI_toInt hc, e2] at h
    omega
def okP (v : MS) : Prop := m_he v ≤ m_ty v ∧ m_ty v ≤ 60
def F_need (v : MS) (c : Int32) : MS :=
  if ¬ m_wa v < 0 then v else if sg (m_in v) (m_ty v) (m_he v) = c then mHW v (m_he v + 1) (m_wa v) else mHW v (m_he v) (nI (m_he v))
abbrev F_s2 (v : MS) (a b : Int32) : MS := F_need (F_need v a) b
abbrev F_s3 (v : MS) (a b c : Int32) : MS := F_need (F_need (F_need v a) b) c
abbrev dgP (x : Int32) : Prop := p_rng x (nI 48) (nI 57)
abbrev sgH (v : MS) : Int32 := sg (m_in v) (m_ty v) (m_he v)
def F_num1 (v : MS) : Int32 × MS :=
  if ¬ m_wa v < 0 then (nI 0, v)
  else if ¬ dgP (sgH v) then (nI 0, mHW v (m_he v) (nI (m_he v)))
  else (nI (10 * 0) + sgH v - nI 48, mHW v (m_he v + 1) (m_wa v))
def F_num2 (v : MS) : Int32 × MS :=
  if ¬ m_wa v < 0 then (nI 0, v)
  else if ¬ dgP (sgH v) then (nI 0, mHW v (m_he v) (nI (m_he v)))
  else if ¬ dgP (sg (m_in v) (m_ty v) (m_he v + 1)) then (nI (10 * 0) + sgH v - nI 48, mHW v (m_he v + 1) (m_wa v))
  else (nI 10 * (nI (10 * 0) + sgH v - nI 48) + sg (m_in v) (m_ty v) (m_he v + 1) - nI 48, mHW v (m_he v + 1 + 1) (m_wa v))
abbrev F_bh1 (v : MS) : Int32 × MS := F_num1 (F_need v (nI 32))
abbrev F_bh2 (v : MS) : Int32 × MS := F_num2 (F_need v (nI 32))
/-- all but here and wrongAt stays; here stays within the text -/
def samP (v s : MS) : Prop := s = mHW v (m_he s) (m_wa s)
theorem need_ok {v : MS} {c : Nat} (hc : c < 2 ^ 31) (h : okP v) : okP (F_need v (nI c)) := by
  unfold F_need
  split
  · exact h
  · split
    · rename_i h1
      have := sg_ne h1 hc
      exact ⟨this, h.2⟩
    · exact h
theorem num1_ok {v : MS} (h : okP v) : okP (F_num1 v).2 := by
  unfold F_num1
  split
  · exact h
  · split
    · exact h
    · rename_i h1
      exact ⟨sg_lt (Decidable.not_not.mp h1), h.2⟩
theorem num2_ok {v : MS} (h : okP v) : okP (F_num2 v).2 := by
  unfold F_num2
  split
  · exact h
  · split
    · exact h
    · split
      · rename_i h1 _
        exact ⟨sg_lt (Decidable.not_not.mp h1), h.2⟩
      · rename_i h1
        exact ⟨sg_lt (Decidable.not_not.mp h1), h.2⟩
theorem s3_ok {v : MS} {a b c : Nat} (ha : a < 2 ^ 31) (hb : b < 2 ^ 31) (hc : c < 2 ^ 31) (h : okP v) : okP (F_s3 v (nI a) (nI b) (nI c)) := need_ok hc (need_ok hb (need_ok ha h))
theorem s2_ok {v : MS} {a b : Nat} (ha : a < 2 ^ 31) (hb : b < 2 ^ 31) (h : okP v) : okP (F_s2 v (nI a) (nI b)) := need_ok hb (need_ok ha h)
/-- the words -/
abbrev W_p (v : MS) : MS := F_s3 (F_s3 v (nI 114) (nI 101) (nI 109)) (nI 105) (nI 115) (nI 101)
abbrev W_r (v : MS) : MS := F_s3 v (nI 111) (nI 97) (nI 100)
abbrev W_u (v : MS) : MS := F_s2 (F_s3 v (nI 110) (nI 108) (nI 111)) (nI 97) (nI 100)
abbrev W_s (v : MS) : MS := F_s3 v (nI 119) (nI 97) (nI 112)
abbrev W_t (v : MS) : MS := F_s3 v (nI 114) (nI 105) (nI 112)
abbrev W_g (v : MS) : MS := F_s2 (F_s3 v (nI 114) (nI 101) (nI 97)) (nI 115) (nI 101)
abbrev W_a (v : MS) : MS := F_s3 v (nI 97) (nI 114) (nI 116)
abbrev W_c (v : MS) : MS := F_s3 (F_s3 (F_s3 v (nI 111) (nI 110) (nI 99)) (nI 108) (nI 117) (nI 115)) (nI 105) (nI 111) (nI 110)
def setC (v : MS) (i : Nat) (x : Int32) : MS := mCm v (upd (m_cm v) i x) (m_cz v)
def setN (i : Nat) (q : Int32 × MS) : MS := setC q.2 i q.1
theorem setC_ok {v : MS} {i : Nat} {x : Int32} (h : okP v) : okP (setC v i x) := by
  simp only [okP, setC, mCm] at h ⊢; exact h
theorem setN_ok {q : Int32 × MS} {i : Nat} (h : okP q.2) : okP (setN i q) := setC_ok h
abbrev K1 (b : Nat) (k : Nat) (s : MS) : MS := setN (b + 1) (F_bh1 (setC s b (nI k)))
abbrev K2 (b : Nat) (k : Nat) (s : MS) : MS := setN (b + 1) (F_bh2 (setC s b (nI k)))
abbrev K_r (b : Nat) (s : MS) : MS := setN (b + 3) (F_bh1 (setN (b + 2) (F_bh1 (K2 b 114 s))))
abbrev K_l (b : Nat) (s : MS) : MS := setN (b + 3) (F_num1 (setN (b + 2) (F_bh1 (K2 b 108 s))))
abbrev K_s (b : Nat) (s : MS) : MS := setN (b + 3) (F_num1 (setN (b + 2) (F_bh1 (K1 b 115 s))))
abbrev K_t (b : Nat) (s : MS) : MS := setN (b + 2) (F_bh1 (K1 b 116 s))
abbrev c_0 (v : MS) : MS := mCm v (zr4 (m_cm v) (4 * m_cz v) 4) (m_cz v + 1)
abbrev c_1 (v : MS) : MS := mHW (c_0 v) (m_he v + 1) (m_wa v)
def F_cmd (v : MS) : MS :=
  if sgH v = nI 112 then K1 (4 * m_cz v) 112 (W_p (c_1 v))
  else if sgH v = nI 99 then (if sg (m_in v) (m_ty v) (m_he v + 1) = nI 97 then K2 (4 * m_cz v) 97 (W_a (c_1 v)) else K2 (4 * m_cz v) 99 (W_c (c_1 v)))
  else if sgH v = nI 114 then K_r (4 * m_cz v) (W_r (c_1 v))
  else if sgH v = nI 108 then K_l (4 * m_cz v) (W_r (c_1 v))
  else if sgH v = nI 117 then K2 (4 * m_cz v) 117 (W_u (c_1 v))
  else if sgH v = nI 115 then K_s (4 * m_cz v) (W_s (c_1 v))
  else if sgH v = nI 116 then K_t (4 * m_cz v) (W_t (c_1 v))
  else if sgH v = nI 103 then K1 (4 * m_cz v) 103 (W_g (c_1 v))
  else mHW (c_0 v) (m_he v) (nI (m_he v))
def pLoop : Nat → MS → MS
  | 0, s => s
  | n + 1, s => if m_wa s < 0 ∧ sgH s = nI 59 then pLoop n (F_cmd (mHW s (m_he s + 1) (m_wa s))) else s
def prE (s : MS) : MS := if m_wa s < 0 ∧ m_he s < m_ty s then mHW s (m_he s) (nI (m_he s)) else s
abbrev p_0 (v : MS) : MS := mCm (mHW v 0 (-1)) (m_cm v) 0
def F_prs (v : MS) : MS := prE (pLoop 61 (F_cmd (p_0 v)))
/-- s is v further on: here no smaller, only here, wrongAt and the commands are others -/
def adv (v s : MS) : Prop := okP s ∧ m_he v ≤ m_he s ∧ ∃ h w f, s = mCm (mHW v h w) f (m_cz v)
theorem hw_id (v : MS) : mCm (mHW v (m_he v) (m_wa v)) (m_cm v) (m_cz v) = v := by simp only [mHW, mCm]
theorem hw_cm (v : MS) (x : Nat) (w : Int32) (f : Nat → Int32) (n h : Nat) (u : Int32) : mHW (mCm (mHW v x w) f n) h u = mCm (mHW v h u) f n := by simp only [mHW, mCm]
theorem cm_cm (v : MS) (f f2 : Nat → Int32) (n n2 : Nat) : mCm (mCm v f n) f2 n2 = mCm v f2 n2 := by simp only [mCm]
theorem he_hw (v : MS) (h : Nat) (w : Int32) : m_he (mHW v h w) = h := by simp only [mHW]
theorem wa_hw (v : MS) (h : Nat) (w : Int32) : m_wa (mHW v h w) = w := by simp only [mHW]
theorem he_cm (v : MS) (f : Nat → Int32) (n : Nat) : m_he (mCm v f n) = m_he v := by simp only [mCm]
theorem wa_cm (v : MS) (f : Nat → Int32) (n : Nat) : m_wa (mCm v f n) = m_wa v := by simp only [mCm]
theorem ty_cm (v : MS) (f : Nat → Int32) (n : Nat) : m_ty (mCm v f n) = m_ty v := by simp only [mCm]
theorem ty_hw (v : MS) (h : Nat) (w : Int32) : m_ty (mHW v h w) = m_ty v := by simp only [mHW]
theorem cm_cm1 (v : MS) (f : Nat → Int32) (n : Nat) : m_cm (mCm v f n) = f := by simp only [mCm]
theorem cz_cm (v : MS) (f : Nat → Int32) (n : Nat) : m_cz (mCm v f n) = n := by simp only [mCm]
theorem ok_hw {v : MS} {h : Nat} {w : Int32} (h1 : h ≤ m_ty v) (h2 : m_ty v ≤ 60) : okP (mHW v h w) := by
  unfold okP; rw [he_hw, ty_hw]; exact ⟨h1, h2⟩
theorem ok_cm {v : MS} {f : Nat → Int32} {n : Nat} (h : okP v) : okP (mCm v f n) := by
  unfold okP; rw [he_cm, ty_cm]; exact h
theorem adv_rf {v : MS} (h : okP v) : adv v v := ⟨h, Nat.le_refl _, m_he v, m_wa v, m_cm v, (hw_id v).symm⟩
theorem adv_hw {v s : MS} {h : Nat} {w : Int32} (a : adv v s) (h1 : m_he v ≤ h) (h2 : okP (mHW s h w)) : adv v (mHW s h w) := by
  obtain ⟨-, -, x, u, f, e⟩ := a
  exact ⟨h2, by rw [he_hw]; exact h1, h, w, f, by rw [e]; exact hw_cm _ _ _ _ _ _ _⟩
theorem adv_cm {v s : MS} {f : Nat → Int32} (a : adv v s) : adv v (mCm s f (m_cz s)) := by
  obtain ⟨h1, h2, x, u, f', e⟩ := a
  exact ⟨ok_cm h1, by rw [he_cm]; exact h2, x, u, f, by rw [e, cm_cm, cz_cm]⟩
theorem adv_need {v s : MS} {c : Nat} (hc : c < 2 ^ 31) (h : adv v s) : adv v (F_need s (nI c)) := by
  have ho := need_ok hc h.1
  unfold F_need at ho ⊢
  split
  · exact h
  · rename_i h1
    rw [if_neg h1] at ho
    split
    · rename_i h2
      rw [if_pos h2] at ho
      exact adv_hw h (Nat.le_succ_of_le h.2.1) ho
    · rename_i h2
      rw [if_neg h2] at ho
      exact adv_hw h h.2.1 ho
theorem adv_num1 {v s : MS} (h : adv v s) : adv v (F_num1 s).2 := by
  have ho := num1_ok h.1
  unfold F_num1 at ho ⊢
  by_cases h1 : ¬ m_wa s < 0
  · rw [if_pos h1]; exact h
  · rw [if_neg h1] at ho ⊢
    by_cases h2 : ¬ dgP (sgH s)
    · rw [if_pos h2] at ho ⊢
      exact adv_hw h h.2.1 ho
    · rw [if_neg h2] at ho ⊢
      exact adv_hw h (Nat.le_succ_of_le h.2.1) ho
theorem adv_num2 {v s : MS} (h : adv v s) : adv v (F_num2 s).2 := by
  have ho := num2_ok h.1
  unfold F_num2 at ho ⊢
  by_cases h1 : ¬ m_wa s < 0
  · rw [if_pos h1]; exact h
  · rw [if_neg h1] at ho ⊢
    by_cases h2 : ¬ dgP (sgH s)
    · rw [if_pos h2] at ho ⊢
      exact adv_hw h h.2.1 ho
    · rw [if_neg h2] at ho ⊢
      by_cases h3 : ¬ dgP (sg (m_in s) (m_ty s) (m_he s + 1))
      · rw [if_pos h3] at ho ⊢
        exact adv_hw h (Nat.le_succ_of_le h.2.1) ho
      · rw [if_neg h3] at ho ⊢
        exact adv_hw h (Nat.le_succ_of_le (Nat.le_succ_of_le h.2.1)) ho
theorem adv_setC {v s : MS} {i : Nat} {x : Int32} (h : adv v s) : adv v (setC s i x) := adv_cm h
theorem adv_setN {v : MS} {i : Nat} {q : Int32 × MS} (h : adv v q.2) : adv v (setN i q) := adv_setC h
theorem adv_s3 {v s : MS} {a b c : Nat} (ha : a < 2 ^ 31) (hb : b < 2 ^ 31) (hc : c < 2 ^ 31) (h : adv v s) : adv v (F_s3 s (nI a) (nI b) (nI c)) := adv_need hc (adv_need hb (adv_need ha h))
theorem adv_s2 {v s : MS} {a b : Nat} (ha : a < 2 ^ 31) (hb : b < 2 ^ 31) (h : adv v s) : adv v (F_s2 s (nI a) (nI b)) := adv_need hb (adv_need ha h)
theorem adv_b1 {v s : MS} {i : Nat} (h : adv v s) : adv v (setN i (F_bh1 s)) := adv_setN (adv_num1 (adv_need (by decide) h))
theorem adv_b2 {v s : MS} {i : Nat} (h : adv v s) : adv v (setN i (F_bh2 s)) := adv_setN (adv_num2 (adv_need (by decide) h))
theorem adv_k1 {v s : MS} {b k : Nat} (h : adv v s) : adv v (K1 b k s) := adv_b1 (adv_setC h)
theorem adv_k2 {v s : MS} {b k : Nat} (h : adv v s) : adv v (K2 b k s) := adv_b2 (adv_setC h)
/-- a command moves on -/
theorem cmd_p {v : MS} (h : sgH v = nI 112) : F_cmd v = K1 (4 * m_cz v) 112 (W_p (c_1 v)) := by unfold F_cmd; rw [if_pos h]
theorem cmd_a {v : MS} (h : sgH v = nI 99) (h9 : sg (m_in v) (m_ty v) (m_he v + 1) = nI 97) : F_cmd v = K2 (4 * m_cz v) 97 (W_a (c_1 v)) := by unfold F_cmd; rw [if_neg (by rw [h]; decide), if_pos h, if_pos h9]
theorem cmd_c {v : MS} (h : sgH v = nI 99) (h9 : ¬ sg (m_in v) (m_ty v) (m_he v + 1) = nI 97) : F_cmd v = K2 (4 * m_cz v) 99 (W_c (c_1 v)) := by unfold F_cmd; rw [if_neg (by rw [h]; decide), if_pos h, if_neg h9]
theorem cmd_r {v : MS} (h : sgH v = nI 114) : F_cmd v = K_r (4 * m_cz v) (W_r (c_1 v)) := by unfold F_cmd; rw [if_neg (by rw [h]; decide), if_neg (by rw [h]; decide), if_pos h]
theorem cmd_l {v : MS} (h : sgH v = nI 108) : F_cmd v = K_l (4 * m_cz v) (W_r (c_1 v)) := by unfold F_cmd; rw [if_neg (by rw [h]; decide), if_neg (by rw [h]; decide), if_neg (by rw [h]; decide), if_pos h]
theorem cmd_u {v : MS} (h : sgH v = nI 117) : F_cmd v = K2 (4 * m_cz v) 117 (W_u (c_1 v)) := by unfold F_cmd; rw [if_neg (by rw [h]; decide), if_neg (by rw [h]; decide), if_neg (by rw [h]; decide), if_neg (by rw [h]; decide), if_pos h]
theorem cmd_s {v : MS} (h : sgH v = nI 115) : F_cmd v = K_s (4 * m_cz v) (W_s (c_1 v)) := by unfold F_cmd; rw [if_neg (by rw [h]; decide), if_neg (by rw [h]; decide), if_neg (by rw [h]; decide), if_neg (by rw [h]; decide), if_neg (by rw [h]; decide), if_pos h]
theorem cmd_t {v : MS} (h : sgH v = nI 116) : F_cmd v = K_t (4 * m_cz v) (W_t (c_1 v)) := by unfold F_cmd; rw [if_neg (by rw [h]; decide), if_neg (by rw [h]; decide), if_neg (by rw [h]; decide), if_neg (by rw [h]; decide), if_neg (by rw [h]; decide), if_neg (by rw [h]; decide), if_pos h]
theorem cmd_g {v : MS} (h : sgH v = nI 103) : F_cmd v = K1 (4 * m_cz v) 103 (W_g (c_1 v)) := by unfold F_cmd; rw [if_neg (by rw [h]; decide), if_neg (by rw [h]; decide), if_neg (by rw [h]; decide), if_neg (by rw [h]; decide), if_neg (by rw [h]; decide), if_neg (by rw [h]; decide), if_neg (by rw [h]; decide), if_pos h]
abbrev noW (x : Int32) : Prop := ¬ x = nI 112 ∧ ¬ x = nI 99 ∧ ¬ x = nI 114 ∧ ¬ x = nI 108 ∧ ¬ x = nI 117 ∧ ¬ x = nI 115 ∧ ¬ x = nI 116 ∧ ¬ x = nI 103
theorem cmd_n {v : MS} (h : noW (sgH v)) : F_cmd v = mHW (c_0 v) (m_he v) (nI (m_he v)) := by
  obtain ⟨h1, h2, h3, h4, h5, h6, h7, h8⟩ := h
  unfold F_cmd; rw [if_neg h1, if_neg h2, if_neg h3, if_neg h4, if_neg h5, if_neg h6, if_neg h7, if_neg h8]
def cmdQ (v s : MS) : Prop := okP s ∧ ∃ a w f, s = mCm (mHW v a w) f (m_cz v + 1) ∧ (w < 0 → m_he v + 1 ≤ a) ∧ m_he v ≤ a
theorem c1_he (v : MS) : m_he (c_1 v) = m_he v + 1 := by rw [he_hw]
theorem hw_hw (v : MS) (a h : Nat) (w u : Int32) : mHW (mHW v a w) h u = mHW v h u := by simp only [mHW]
theorem cz_hw (v : MS) (h : Nat) (w : Int32) : m_cz (mHW v h w) = m_cz v := by simp only [mHW]
theorem c0_sh (v : MS) (a : Nat) (w : Int32) : mHW (c_0 v) a w = mCm (mHW v a w) (zr4 (m_cm v) (4 * m_cz v) 4) (m_cz v + 1) := by simp only [mHW, mCm]
theorem c1_sh (v : MS) (a : Nat) (w : Int32) (f : Nat → Int32) : mCm (mHW (c_1 v) a w) f (m_cz (c_1 v)) = mCm (mHW v a w) f (m_cz v + 1) := by
  rw [hw_hw, c0_sh, cm_cm, cz_hw, cz_cm]
theorem cmd_go {v s : MS} (h1 : adv (c_1 v) s) : cmdQ v s := by
  obtain ⟨h2, h3, a, w, f, e2⟩ := h1
  have e5 : m_he s = a := by rw [e2, he_cm, he_hw]
  rw [c1_he, e5] at h3
  rw [c1_sh] at e2
  exact ⟨h2, a, w, f, e2, fun _ => h3, by omega⟩
theorem cmd_ok {v : MS} (h : okP v) {k : Nat} (hk : k < 2 ^ 31) (e : sgH v = nI k) : adv (c_1 v) (c_1 v) :=
  adv_rf (ok_hw (v := c_0 v) (by rw [ty_cm]; exact sg_ne e hk) (by rw [ty_cm]; exact h.2))
theorem adv_wp {v s : MS} (h : adv v s) : adv v (W_p s) := adv_s3 (by decide) (by decide) (by decide) (adv_s3 (by decide) (by decide) (by decide) h)
theorem adv_wr {v s : MS} (h : adv v s) : adv v (W_r s) := adv_s3 (by decide) (by decide) (by decide) h
theorem adv_wu {v s : MS} (h : adv v s) : adv v (W_u s) := adv_s2 (by decide) (by decide) (adv_s3 (by decide) (by decide) (by decide) h)
theorem adv_ws {v s : MS} (h : adv v s) : adv v (W_s s) := adv_s3 (by decide) (by decide) (by decide) h
theorem adv_wt {v s : MS} (h : adv v s) : adv v (W_t s) := adv_s3 (by decide) (by decide) (by decide) h
theorem adv_wg {v s : MS} (h : adv v s) : adv v (W_g s) := adv_s2 (by decide) (by decide) (adv_s3 (by decide) (by decide) (by decide) h)
theorem adv_wa {v s : MS} (h : adv v s) : adv v (W_a s) := adv_s3 (by decide) (by decide) (by decide) h
theorem adv_wc {v s : MS} (h : adv v s) : adv v (W_c s) := adv_s3 (by decide) (by decide) (by decide) (adv_s3 (by decide) (by decide) (by decide) (adv_s3 (by decide) (by decide) (by decide) h))
theorem adv_kr {v s : MS} {b : Nat} (h : adv v s) : adv v (K_r b s) := adv_b1 (adv_b1 (adv_k2 h))
theorem adv_kl {v s : MS} {b : Nat} (h : adv v s) : adv v (K_l b s) := adv_setN (adv_num1 (adv_b1 (adv_k2 h)))
theorem adv_ks {v s : MS} {b : Nat} (h : adv v s) : adv v (K_s b s) := adv_setN (adv_num1 (adv_b1 (adv_k1 h)))
theorem adv_kt {v s : MS} {b : Nat} (h : adv v s) : adv v (K_t b s) := adv_b1 (adv_k1 h)
theorem cmd_nQ {v : MS} (h : okP v) : cmdQ v (mHW (c_0 v) (m_he v) (nI (m_he v))) := by
  refine ⟨ok_hw (v := c_0 v) (by rw [ty_cm]; exact h.1) (by rw [ty_cm]; exact h.2), m_he v, nI (m_he v), zr4 (m_cm v) (4 * m_cz v) 4, c0_sh _ _ _, fun q => absurd q (nI_pos ?_), Nat.le_refl _⟩
  have := h.1
  have := h.2
  omega
theorem cmd_Q {v : MS} (h : okP v) : cmdQ v (F_cmd v) := by
  by_cases h1 : sgH v = nI 112
  · rw [cmd_p h1]; exact cmd_go (adv_k1 (adv_wp (cmd_ok h (by decide) h1)))
  by_cases h2 : sgH v = nI 99
  · by_cases h9 : sg (m_in v) (m_ty v) (m_he v + 1) = nI 97
    · rw [cmd_a h2 h9]; exact cmd_go (adv_k2 (adv_wa (cmd_ok h (by decide) h2)))
    · rw [cmd_c h2 h9]; exact cmd_go (adv_k2 (adv_wc (cmd_ok h (by decide) h2)))
  by_cases h3 : sgH v = nI 114
  · rw [cmd_r h3]; exact cmd_go (adv_kr (adv_wr (cmd_ok h (by decide) h3)))
  by_cases h4 : sgH v = nI 108
  · rw [cmd_l h4]; exact cmd_go (adv_kl (adv_wr (cmd_ok h (by decide) h4)))
  by_cases h5 : sgH v = nI 117
  · rw [cmd_u h5]; exact cmd_go (adv_k2 (adv_wu (cmd_ok h (by decide) h5)))
  by_cases h6 : sgH v = nI 115
  · rw [cmd_s h6]; exact cmd_go (adv_ks (adv_ws (cmd_ok h (by decide) h6)))
  by_cases h7 : sgH v = nI 116
  · rw [cmd_t h7]; exact cmd_go (adv_kt (adv_wt (cmd_ok h (by decide) h7)))
  by_cases h8 : sgH v = nI 103
  · rw [cmd_g h8]; exact cmd_go (adv_k1 (adv_wg (cmd_ok h (by decide) h8)))
  rw [cmd_n ⟨h1, h2, h3, h4, h5, h6, h7, h8⟩]; exact cmd_nQ h
theorem cmd_adv {v : MS} (h : okP v) : okP (F_cmd v) ∧ ∃ a w f, F_cmd v = mCm (mHW v a w) f (m_cz v + 1) ∧ (w < 0 → m_he v + 1 ≤ a) ∧ m_he v ≤ a := cmd_Q h
theorem cmd_cz {v : MS} (h : okP v) (hz : m_cz v ≤ m_he v) (hw : m_wa (F_cmd v) < 0) : m_cz (F_cmd v) ≤ m_he (F_cmd v) := by
  obtain ⟨-, a, w, f, e, h1, -⟩ := cmd_adv h
  rw [e, wa_cm, wa_hw] at hw
  rw [e, cz_cm, he_cm, he_hw]
  have := h1 hw
  omega
theorem cmd_ty {v : MS} (h : okP v) : m_ty (F_cmd v) = m_ty v := by
  obtain ⟨-, a, w, f, e, -⟩ := cmd_adv h
  rw [e, ty_cm, ty_hw]
theorem cmd_he {v : MS} (h : okP v) : m_he v ≤ m_he (F_cmd v) := by
  obtain ⟨-, a, w, f, e, -, h1⟩ := cmd_adv h
  rw [e, he_cm, he_hw]; exact h1
theorem pLoop_e {n : Nat} {s : MS} (h : ¬ (m_wa s < 0 ∧ sgH s = nI 59)) : pLoop n s = s := by
  cases n with
  | zero => rfl
  | succ n => exact if_neg h
theorem pLoop_s {n : Nat} {s : MS} (hn : 1 ≤ n) (h : m_wa s < 0 ∧ sgH s = nI 59) : pLoop (n - 1) (F_cmd (mHW s (m_he s + 1) (m_wa s))) = pLoop n s := by
  obtain ⟨k, rfl⟩ : ∃ k, n = k + 1 := ⟨n - 1, by omega⟩
  exact (if_pos h).symm
theorem i_lt0 {x : Int32} (h : ¬ 0 ≤ x) : x < 0 := Int32.not_le.mp h
theorem i_ge0 {x : Int32} (h : 0 ≤ x) : ¬ x < 0 := Int32.not_lt.mpr h
