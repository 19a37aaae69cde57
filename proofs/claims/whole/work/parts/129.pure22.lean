/-! THE FORMS, AS THE REFERENCE READS THEM -/
def rR : List Nat → Nat → MS → MS
  | [], _, s => s
  | c :: L, b, s => if c = 35 then rR L (b + 1) (setN b (F_num1 s)) else if c = 64 then rR L (b + 1) (setN b (F_num2 s)) else rR L b (F_need s (nI c))
section RR
variable {c b : Nat} {L : List Nat} {s : MS}
theorem rR_h (h : c = 35) : rR (c :: L) b s = rR L (b + 1) (setN b (F_num1 s)) := by rw [rR, if_pos h]
theorem rR_a (h0 : ¬ c = 35) (h : c = 64) : rR (c :: L) b s = rR L (b + 1) (setN b (F_num2 s)) := by rw [rR, if_neg h0, if_pos h]
theorem rR_l (h0 : ¬ c = 35) (h : ¬ c = 64) : rR (c :: L) b s = rR L b (F_need s (nI c)) := by rw [rR, if_neg h0, if_neg h]
theorem need_in : m_in (F_need s (nI c)) = m_in s ∧ m_ty (F_need s (nI c)) = m_ty s ∧ m_cm (F_need s (nI c)) = m_cm s := by
  unfold F_need; split
  · exact ⟨rfl, rfl, rfl⟩
  · split <;> exact ⟨rfl, rfl, rfl⟩
theorem num1_in : m_in (F_num1 s).2 = m_in s ∧ m_ty (F_num1 s).2 = m_ty s ∧ m_cm (F_num1 s).2 = m_cm s := by
  unfold F_num1; split
  · exact ⟨rfl, rfl, rfl⟩
  · split <;> exact ⟨rfl, rfl, rfl⟩
theorem num2_in : m_in (F_num2 s).2 = m_in s ∧ m_ty (F_num2 s).2 = m_ty s ∧ m_cm (F_num2 s).2 = m_cm s := by
  unfold F_num2; split
  · exact ⟨rfl, rfl, rfl⟩
  · split
    · exact ⟨rfl, rfl, rfl⟩
    · split <;> exact ⟨rfl, rfl, rfl⟩
theorem setN_cm {q : Int32 × MS} {i : Nat} : m_cm (setN i q) = upd (m_cm q.2) i q.1 := rfl
theorem setN_in {q : Int32 × MS} {i : Nat} : m_in (setN i q) = m_in q.2 ∧ m_ty (setN i q) = m_ty q.2 ∧ m_wa (setN i q) = m_wa q.2 ∧ m_he (setN i q) = m_he q.2 := ⟨rfl, rfl, rfl, rfl⟩
end RR
/-- once it is wrong it stays so -/
theorem rR_st : ∀ (L : List Nat) (b : Nat) (s : MS), ¬ m_wa s < 0 → m_wa (rR L b s) = m_wa s ∧ ∀ i, i < b → m_cm (rR L b s) i = m_cm s i
  | [], _, _, _ => ⟨rfl, fun _ _ => rfl⟩
  | c :: L, b, s, hw => by
    by_cases c1 : c = 35
    · have e : F_num1 s = (nI 0, s) := if_pos hw
      rw [rR_h c1, e]
      obtain ⟨h1, h2⟩ := rR_st L (b + 1) (setN b (nI 0, s)) hw
      exact ⟨h1, fun i hi => (h2 i (by omega)).trans (upd_ne (by omega))⟩
    · by_cases c2 : c = 64
      · have e : F_num2 s = (nI 0, s) := if_pos hw
        rw [rR_a c1 c2, e]
        obtain ⟨h1, h2⟩ := rR_st L (b + 1) (setN b (nI 0, s)) hw
        exact ⟨h1, fun i hi => (h2 i (by omega)).trans (upd_ne (by omega))⟩
      · have e : F_need s (nI c) = s := if_pos hw
        rw [rR_l c1 c2, e]
        exact rR_st L b s hw
def rrQ (f : Nat → Int32) (n : Nat) (L : List Nat) (b : Nat) (s r : MS) : Prop :=
  ((fm f n L (m_he s)).1 = true → m_wa r < 0 ∧ m_he r = (fm f n L (m_he s)).2 ∧ ∀ j, j < cnt L → m_cm r (b + j) = nv f n L (m_he s) j) ∧ ((fm f n L (m_he s)).1 = false → m_wa r = nI (fm f n L (m_he s)).2 ∧ (fm f n L (m_he s)).2 ≤ 60) ∧ ∀ i, i < b → m_cm r i = m_cm s i
theorem rrQ_no {f : Nat → Int32} {n b : Nat} {L : List Nat} {s r : MS} (h : fm f n L (m_he s) = (false, m_he s)) (hw : m_wa r = nI (m_he s)) (h6 : m_he s ≤ 60) (hc : ∀ i, i < b → m_cm r i = m_cm s i) : rrQ f n L b s r := by
  unfold rrQ
  rw [h]
  exact ⟨fun q => absurd (show false = true from q) (by decide), fun _ => ⟨hw, h6⟩, hc⟩
theorem rrQ_num {f : Nat → Int32} {n b c : Nat} {L : List Nat} {s s' r : MS} {x : Int32} (hc : cnt (c :: L) = cnt L + 1) (hf : fm f n (c :: L) (m_he s) = fm f n L (m_he s')) (hn : nv f n (c :: L) (m_he s) = hdN x (nv f n L (m_he s'))) (hu : m_cm s' = upd (m_cm s) b x) (h : rrQ f n L (b + 1) s' r) : rrQ f n (c :: L) b s r := by
  obtain ⟨h1, h2, h3⟩ := h
  unfold rrQ
  rw [hf, hc, hn]
  refine ⟨fun q => ?_, h2, fun i hi => ?_⟩
  · obtain ⟨a1, a2, a3⟩ := h1 q
    refine ⟨a1, a2, fun j hj => ?_⟩
    cases j with
    | zero =>
      rw [Nat.add_zero, h3 b (Nat.lt_succ_self b), hu, upd_same]
      rfl
    | succ j =>
      rw [show b + (j + 1) = b + 1 + j by omega, a3 j (by omega)]
      rfl
  · rw [h3 i (by omega), hu, upd_ne (by omega)]
theorem i_z10 (x : Int32) : nI (10 * 0) + x = x := by
  show (0 : Int32) + x = x
  exact Int32.zero_add x
/-- a number is laid down -/
theorem stp {s : MS} {b h : Nat} {x w : Int32} : m_in (setN b (x, mHW s h w)) = m_in s ∧ m_ty (setN b (x, mHW s h w)) = m_ty s ∧ m_wa (setN b (x, mHW s h w)) = w ∧ m_he (setN b (x, mHW s h w)) = h ∧ m_cm (setN b (x, mHW s h w)) = upd (m_cm s) b x := by
  refine ⟨?_, ?_, ?_, ?_, ?_⟩ <;> simp only [setN, setC, mCm, mHW]
theorem hwp {s : MS} {h : Nat} {w : Int32} : m_in (mHW s h w) = m_in s ∧ m_ty (mHW s h w) = m_ty s ∧ m_wa (mHW s h w) = w ∧ m_he (mHW s h w) = h ∧ m_cm (mHW s h w) = m_cm s := by
  refine ⟨?_, ?_, ?_, ?_, ?_⟩ <;> simp only [mHW]
theorem c1p {s : MS} {b : Nat} {x : Int32} : m_in (setC (c_1 s) b x) = m_in s ∧ m_ty (setC (c_1 s) b x) = m_ty s ∧ m_wa (setC (c_1 s) b x) = m_wa s ∧ m_he (setC (c_1 s) b x) = m_he s + 1 ∧ m_cm (setC (c_1 s) b x) = upd (zr4 (m_cm s) (4 * m_cz s) 4) b x := by
  refine ⟨?_, ?_, ?_, ?_, ?_⟩ <;> simp only [setC, mCm, mHW]
theorem num1_y {s : MS} (hw : m_wa s < 0) (d : dgP (sgH s)) : F_num1 s = (nI (10 * 0) + sgH s - nI 48, mHW s (m_he s + 1) (m_wa s)) := by
  unfold F_num1; rw [if_neg (fun q => q hw), if_neg (fun q => q d)]
theorem num1_n {s : MS} (hw : m_wa s < 0) (d : ¬ dgP (sgH s)) : F_num1 s = (nI 0, mHW s (m_he s) (nI (m_he s))) := by
  unfold F_num1; rw [if_neg (fun q => q hw), if_pos d]
theorem num2_n {s : MS} (hw : m_wa s < 0) (d : ¬ dgP (sgH s)) : F_num2 s = (nI 0, mHW s (m_he s) (nI (m_he s))) := by
  unfold F_num2; rw [if_neg (fun q => q hw), if_pos d]
theorem num2_1 {s : MS} (hw : m_wa s < 0) (d : dgP (sgH s)) (d2 : ¬ dgP (sg (m_in s) (m_ty s) (m_he s + 1))) : F_num2 s = (nI (10 * 0) + sgH s - nI 48, mHW s (m_he s + 1) (m_wa s)) := by
  unfold F_num2; rw [if_neg (fun q => q hw), if_neg (fun q => q d), if_pos d2]
theorem num2_2 {s : MS} (hw : m_wa s < 0) (d : dgP (sgH s)) (d2 : dgP (sg (m_in s) (m_ty s) (m_he s + 1))) : F_num2 s = (nI 10 * (nI (10 * 0) + sgH s - nI 48) + sg (m_in s) (m_ty s) (m_he s + 1) - nI 48, mHW s (m_he s + 1 + 1) (m_wa s)) := by
  unfold F_num2; rw [if_neg (fun q => q hw), if_neg (fun q => q d), if_neg (fun q => q d2)]
theorem need_y {s : MS} {c : Int32} (hw : m_wa s < 0) (d : sgH s = c) : F_need s c = mHW s (m_he s + 1) (m_wa s) := by
  unfold F_need; rw [if_neg (fun q => q hw), if_pos d]
theorem need_n {s : MS} {c : Int32} (hw : m_wa s < 0) (d : ¬ sgH s = c) : F_need s c = mHW s (m_he s) (nI (m_he s)) := by
  unfold F_need; rw [if_neg (fun q => q hw), if_neg d]
/-- one number, if the row behind it does as it ought -/
theorem rR_num {f : Nat → Int32} {n c b h : Nat} {L : List Nat} {s : MS} {x : Int32} (hc : cnt (c :: L) = cnt L + 1) (hf : fm f n (c :: L) (m_he s) = fm f n L h) (hn : nv f n (c :: L) (m_he s) = hdN x (nv f n L h)) (h1 : m_in s = f) (h2 : m_ty s = n) (hk : okP (mHW s h (m_wa s))) (hw : m_wa s < 0)
    (ih : ∀ s' : MS, m_in s' = f → m_ty s' = n → okP s' → m_wa s' < 0 → rrQ f n L (b + 1) s' (rR L (b + 1) s')) : rrQ f n (c :: L) b s (rR L (b + 1) (setN b (x, mHW s h (m_wa s)))) := by
  obtain ⟨k1, k2, k3, k4, k5⟩ := stp (s := s) (b := b) (x := x) (h := h) (w := m_wa s)
  have k6 : okP (setN b (x, mHW s h (m_wa s))) := setN_ok hk
  obtain ⟨s', hs'⟩ : ∃ s', s' = setN b (x, mHW s h (m_wa s)) := ⟨_, rfl⟩
  rw [← hs'] at k1 k2 k3 k4 k5 k6 ⊢
  exact rrQ_num hc (by rw [k4]; exact hf) (by rw [k4]; exact hn) k5 (ih s' (k1.trans h1) (k2.trans h2) k6 (by rw [k3]; exact hw))
theorem rR_bad {f : Nat → Int32} {n b : Nat} {L L' : List Nat} {s s' : MS} (h : fm f n L (m_he s) = (false, m_he s)) (hw : m_wa s' = nI (m_he s)) (h6 : m_he s ≤ 60) {b' : Nat} (hb : b ≤ b') (hc : ∀ i, i < b → m_cm s' i = m_cm s i) : rrQ f n L b s (rR L' b' s') := by
  obtain ⟨k1, k2⟩ := rR_st L' b' s' (by rw [hw]; exact nI_pos (by omega))
  exact rrQ_no h (k1.trans hw) h6 (fun i hi => (k2 i (by omega)).trans (hc i hi))
theorem rR_ok {f : Nat → Int32} {n : Nat} : ∀ (L : List Nat) (b : Nat) (s : MS), m_in s = f → m_ty s = n → okP s → m_wa s < 0 → (∀ c ∈ L, c < 128) → rrQ f n L b s (rR L b s)
  | [], b, s, _, _, _, hw, _ => ⟨fun _ => ⟨hw, rfl, fun j hj => absurd hj (Nat.not_lt_zero j)⟩, fun q => absurd (show true = false from q) (by decide), fun _ _ => rfl⟩
  | c :: L, b, s, h1, h2, ho, hw, hL => by
    have hL' : ∀ x ∈ L, x < 128 := fun x hx => hL x (List.mem_cons_of_mem _ hx)
    have hc128 := hL c List.mem_cons_self
    have es : sgH s = sg f n (m_he s) := by rw [← h1, ← h2]
    have es2 : sg (m_in s) (m_ty s) (m_he s + 1) = sg f n (m_he s + 1) := by rw [h1, h2]
    have h60 : m_he s ≤ 60 := Nat.le_trans ho.1 ho.2
    have ih := fun b' s' a1 a2 a3 a4 => rR_ok (f := f) (n := n) L b' s' a1 a2 a3 a4 hL'
    by_cases c1 : c = 35
    · rw [rR_h c1]
      by_cases d : dgP (sgH s)
      · have hk := num1_ok ho
        rw [num1_y hw d] at hk ⊢
        refine rR_num (cnt_h c1) (fm_h c1 (by rw [← es]; exact d)) ?_ h1 h2 hk hw (ih (b + 1))
        rw [nv_h c1, i_z10, es]
      · rw [num1_n hw d]
        obtain ⟨-, -, k3, -, k5⟩ := stp (s := s) (b := b) (x := nI 0) (h := m_he s) (w := nI (m_he s))
        exact rR_bad (fm_hn c1 (by rw [← es]; exact d)) k3 h60 (Nat.le_succ b) (fun i hi => by rw [k5]; exact upd_ne (by omega))
    · by_cases c2 : c = 64
      · rw [rR_a c1 c2]
        by_cases d : dgP (sgH s)
        · have hk := num2_ok ho
          by_cases d2 : dgP (sg (m_in s) (m_ty s) (m_he s + 1))
          · rw [num2_2 hw d d2] at hk ⊢
            refine rR_num (cnt_a c1 c2) (fm_a2 c1 c2 (by rw [← es]; exact d) (by rw [← es2]; exact d2)) ?_ h1 h2 hk hw (ih (b + 1))
            rw [nv_a2 c1 c2 (by rw [← es2]; exact d2), i_z10, es, es2, Int32.mul_comm (nI 10)]
          · rw [num2_1 hw d d2] at hk ⊢
            refine rR_num (cnt_a c1 c2) (fm_a1 c1 c2 (by rw [← es]; exact d) (by rw [← es2]; exact d2)) ?_ h1 h2 hk hw (ih (b + 1))
            rw [nv_a1 c1 c2 (by rw [← es2]; exact d2), i_z10, es]
        · rw [num2_n hw d]
          obtain ⟨-, -, k3, -, k5⟩ := stp (s := s) (b := b) (x := nI 0) (h := m_he s) (w := nI (m_he s))
          exact rR_bad (fm_an c1 c2 (by rw [← es]; exact d)) k3 h60 (Nat.le_succ b) (fun i hi => by rw [k5]; exact upd_ne (by omega))
      · rw [rR_l c1 c2]
        have hk := need_ok (c := c) (by omega) ho
        by_cases d : sgH s = nI c
        · rw [need_y hw d] at hk ⊢
          obtain ⟨k1, k2, k3, k4, k5⟩ := hwp (s := s) (h := m_he s + 1) (w := m_wa s)
          obtain ⟨s', hs'⟩ : ∃ s', s' = mHW s (m_he s + 1) (m_wa s) := ⟨_, rfl⟩
          rw [← hs'] at k1 k2 k3 k4 k5 hk ⊢
          have q := ih b s' (k1.trans h1) (k2.trans h2) hk (by rw [k3]; exact hw)
          unfold rrQ at q ⊢
          rw [fm_l c1 c2 (by rw [← es]; exact d), nv_l c1 c2, cnt_l c1 c2]
          rw [k4, k5] at q
          exact q
        · rw [need_n hw d]
          obtain ⟨-, -, k3, -, k5⟩ := hwp (s := s) (h := m_he s) (w := nI (m_he s))
          exact rR_bad (fm_ln c1 c2 (by rw [← es]; exact d)) k3 h60 (Nat.le_refl b) (fun i _ => by rw [k5])
theorem need_setC (s : MS) (b : Nat) (x : Int32) (c : Int32) : F_need (setC s b x) c = setC (F_need s c) b x := by
  unfold F_need
  by_cases h : ¬ m_wa s < 0
  · rw [if_pos h]; exact if_pos h
  · rw [if_neg h]
    refine (if_neg h).trans ?_
    by_cases h2 : sg (m_in s) (m_ty s) (m_he s) = c
    · rw [if_pos h2]; exact if_pos h2
    · rw [if_neg h2]; exact if_neg h2
section RW
variable (s : MS) (b : Nat) (x : Int32)
theorem Wp_set : W_p (setC s b x) = setC (W_p s) b x := by simp only [W_p, F_s3, need_setC]
theorem Wr_set : W_r (setC s b x) = setC (W_r s) b x := by simp only [W_r, F_s3, need_setC]
theorem Wu_set : W_u (setC s b x) = setC (W_u s) b x := by simp only [W_u, F_s3, F_s2, need_setC]
theorem Ws_set : W_s (setC s b x) = setC (W_s s) b x := by simp only [W_s, F_s3, need_setC]
theorem Wt_set : W_t (setC s b x) = setC (W_t s) b x := by simp only [W_t, F_s3, need_setC]
theorem Wg_set : W_g (setC s b x) = setC (W_g s) b x := by simp only [W_g, F_s3, F_s2, need_setC]
theorem Wa_set : W_a (setC s b x) = setC (W_a s) b x := by simp only [W_a, F_s3, need_setC]
theorem Wc_set : W_c (setC s b x) = setC (W_c s) b x := by simp only [W_c, F_s3, need_setC]
theorem rx_0 (S : MS) : rR [114, 101, 109, 105, 115, 101, 32, 35] (b + 1) S = (setN (b + 1) (F_num1 (F_need (W_p S) (nI 32)))) := by
  rw [rR_l (by decide) (by decide), rR_l (by decide) (by decide), rR_l (by decide) (by decide), rR_l (by decide) (by decide), rR_l (by decide) (by decide), rR_l (by decide) (by decide), rR_l (by decide) (by decide), rR_h rfl]
  rfl
theorem rr_0 : rR (fmL 0).tail (b + 1) (setC s b (nI 112)) = K1 b 112 (W_p s) := by
  show rR [114, 101, 109, 105, 115, 101, 32, 35] (b + 1) (setC s b (nI 112)) = _
  rw [rx_0, Wp_set]
theorem rx_1 (S : MS) : rR [111, 110, 99, 108, 117, 115, 105, 111, 110, 32, 64] (b + 1) S = (setN (b + 1) (F_num2 (F_need (W_c S) (nI 32)))) := by
  rw [rR_l (by decide) (by decide), rR_l (by decide) (by decide), rR_l (by decide) (by decide), rR_l (by decide) (by decide), rR_l (by decide) (by decide), rR_l (by decide) (by decide), rR_l (by decide) (by decide), rR_l (by decide) (by decide), rR_l (by decide) (by decide), rR_l (by decide) (by decide), rR_a (by decide) rfl]
  rfl
theorem rr_1 : rR (fmL 1).tail (b + 1) (setC s b (nI 99)) = K2 b 99 (W_c s) := by
  show rR [111, 110, 99, 108, 117, 115, 105, 111, 110, 32, 64] (b + 1) (setC s b (nI 99)) = _
  rw [rx_1, Wc_set]
theorem rx_2 (S : MS) : rR [97, 114, 116, 32, 64] (b + 1) S = (setN (b + 1) (F_num2 (F_need (W_a S) (nI 32)))) := by
  rw [rR_l (by decide) (by decide), rR_l (by decide) (by decide), rR_l (by decide) (by decide), rR_l (by decide) (by decide), rR_a (by decide) rfl]
  rfl
theorem rr_2 : rR (fmL 2).tail (b + 1) (setC s b (nI 97)) = K2 b 97 (W_a s) := by
  show rR [97, 114, 116, 32, 64] (b + 1) (setC s b (nI 97)) = _
  rw [rx_2, Wa_set]
theorem rx_3 (S : MS) : rR [111, 97, 100, 32, 64, 32, 35, 32, 35] (b + 1) S = (setN (b + 3) (F_num1 (F_need (setN (b + 2) (F_num1 (F_need (setN (b + 1) (F_num2 (F_need (W_r S) (nI 32)))) (nI 32)))) (nI 32)))) := by
  rw [rR_l (by decide) (by decide), rR_l (by decide) (by decide), rR_l (by decide) (by decide), rR_l (by decide) (by decide), rR_a (by decide) rfl, rR_l (by decide) (by decide), rR_h rfl, rR_l (by decide) (by decide), rR_h rfl]
  rfl
theorem rr_3 : rR (fmL 3).tail (b + 1) (setC s b (nI 114)) = K_r b (W_r s) := by
  show rR [111, 97, 100, 32, 64, 32, 35, 32, 35] (b + 1) (setC s b (nI 114)) = _
  rw [rx_3, Wr_set]
theorem rx_4 (S : MS) : rR [111, 97, 100, 32, 64, 32, 35, 35] (b + 1) S = (setN (b + 3) (F_num1 (setN (b + 2) (F_num1 (F_need (setN (b + 1) (F_num2 (F_need (W_r S) (nI 32)))) (nI 32)))))) := by
  rw [rR_l (by decide) (by decide), rR_l (by decide) (by decide), rR_l (by decide) (by decide), rR_l (by decide) (by decide), rR_a (by decide) rfl, rR_l (by decide) (by decide), rR_h rfl, rR_h rfl]
  rfl
theorem rr_4 : rR (fmL 4).tail (b + 1) (setC s b (nI 108)) = K_l b (W_r s) := by
  show rR [111, 97, 100, 32, 64, 32, 35, 35] (b + 1) (setC s b (nI 108)) = _
  rw [rx_4, Wr_set]
theorem rx_5 (S : MS) : rR [110, 108, 111, 97, 100, 32, 64] (b + 1) S = (setN (b + 1) (F_num2 (F_need (W_u S) (nI 32)))) := by
  rw [rR_l (by decide) (by decide), rR_l (by decide) (by decide), rR_l (by decide) (by decide), rR_l (by decide) (by decide), rR_l (by decide) (by decide), rR_l (by decide) (by decide), rR_a (by decide) rfl]
  rfl
theorem rr_5 : rR (fmL 5).tail (b + 1) (setC s b (nI 117)) = K2 b 117 (W_u s) := by
  show rR [110, 108, 111, 97, 100, 32, 64] (b + 1) (setC s b (nI 117)) = _
  rw [rx_5, Wu_set]
theorem rx_6 (S : MS) : rR [119, 97, 112, 32, 35, 32, 35, 35] (b + 1) S = (setN (b + 3) (F_num1 (setN (b + 2) (F_num1 (F_need (setN (b + 1) (F_num1 (F_need (W_s S) (nI 32)))) (nI 32)))))) := by
  rw [rR_l (by decide) (by decide), rR_l (by decide) (by decide), rR_l (by decide) (by decide), rR_l (by decide) (by decide), rR_h rfl, rR_l (by decide) (by decide), rR_h rfl, rR_h rfl]
  rfl
theorem rr_6 : rR (fmL 6).tail (b + 1) (setC s b (nI 115)) = K_s b (W_s s) := by
  show rR [119, 97, 112, 32, 35, 32, 35, 35] (b + 1) (setC s b (nI 115)) = _
  rw [rx_6, Ws_set]
theorem rx_7 (S : MS) : rR [114, 105, 112, 32, 35, 32, 35] (b + 1) S = (setN (b + 2) (F_num1 (F_need (setN (b + 1) (F_num1 (F_need (W_t S) (nI 32)))) (nI 32)))) := by
  rw [rR_l (by decide) (by decide), rR_l (by decide) (by decide), rR_l (by decide) (by decide), rR_l (by decide) (by decide), rR_h rfl, rR_l (by decide) (by decide), rR_h rfl]
  rfl
theorem rr_7 : rR (fmL 7).tail (b + 1) (setC s b (nI 116)) = K_t b (W_t s) := by
  show rR [114, 105, 112, 32, 35, 32, 35] (b + 1) (setC s b (nI 116)) = _
  rw [rx_7, Wt_set]
theorem rx_8 (S : MS) : rR [114, 101, 97, 115, 101, 32, 35] (b + 1) S = (setN (b + 1) (F_num1 (F_need (W_g S) (nI 32)))) := by
  rw [rR_l (by decide) (by decide), rR_l (by decide) (by decide), rR_l (by decide) (by decide), rR_l (by decide) (by decide), rR_l (by decide) (by decide), rR_l (by decide) (by decide), rR_h rfl]
  rfl
theorem rr_8 : rR (fmL 8).tail (b + 1) (setC s b (nI 103)) = K1 b 103 (W_g s) := by
  show rR [114, 101, 97, 115, 101, 32, 35] (b + 1) (setC s b (nI 103)) = _
  rw [rx_8, Wg_set]
end RW
/-- what the reference's command does, by the form that leads -/
def cmF (f : Nat → Int32) (n i : Nat) (s r : MS) : Prop :=
  ((fm f n (fmL i) (m_he s)).1 = true → m_wa r < 0 ∧ m_he r = (fm f n (fmL i) (m_he s)).2 ∧ m_cm r (4 * m_cz s) = nI (cdL i) ∧ ∀ j, j < cnt (fmL i) → m_cm r (4 * m_cz s + 1 + j) = nv f n (fmL i) (m_he s) j) ∧ ((fm f n (fmL i) (m_he s)).1 = false → m_wa r = nI (fm f n (fmL i) (m_he s)).2 ∧ (fm f n (fmL i) (m_he s)).2 ≤ 60)
theorem cm_rr {f : Nat → Int32} {n i : Nat} {s : MS} (hi : i < 9) (h1 : m_in s = f) (h2 : m_ty s = n) (ho : okP s) (hw : m_wa s < 0) (e : sgH s = nI (fl1 i)) (hc : F_cmd s = rR (fmL i).tail (4 * m_cz s + 1) (setC (c_1 s) (4 * m_cz s) (nI (cdL i)))) : cmF f n i s (F_cmd s) ∧ ∀ j, j < 4 * m_cz s → m_cm (F_cmd s) j = m_cm s j := by
  have es : sg f n (m_he s) = nI (fl1 i) := by rw [← h1, ← h2]; exact e
  obtain ⟨ef, a, b, -⟩ := fm_hd ⟨i, hi⟩
  have ef : fmL i = fl1 i :: (fmL i).tail := ef
  have h128 := fl1_lt hi
  have hok : okP (setC (c_1 s) (4 * m_cz s) (nI (cdL i))) := setC_ok (cmd_ok ho (by omega) e).1
  obtain ⟨p1, p2, p3, hhe, hz⟩ := c1p (s := s) (b := 4 * m_cz s) (x := nI (cdL i))
  have q := rR_ok (f := f) (n := n) (fmL i).tail (4 * m_cz s + 1) (setC (c_1 s) (4 * m_cz s) (nI (cdL i))) (p1.trans h1) (p2.trans h2) hok (by rw [p3]; exact hw) (fun x hx => fm_mem hi x (List.mem_of_mem_tail hx))
  rw [← hc] at q
  have hcnt : cnt (fmL i) = cnt (fmL i).tail := by rw [ef, List.tail_cons]; exact cnt_l a b
  have hnv : nv f n (fmL i) (m_he s) = nv f n (fmL i).tail (m_he s + 1) := by
    rw [ef, List.tail_cons]; exact nv_l a b
  have hfm := fm_1st hi es
  obtain ⟨q1, q2, q3⟩ := q
  rw [hhe] at q1 q2
  refine ⟨?_, fun j hj => ?_⟩
  · unfold cmF
    rw [hfm, hcnt, hnv]
    refine ⟨fun t => ?_, q2⟩
    obtain ⟨k1, k2, k3⟩ := q1 t
    exact ⟨k1, k2, by rw [q3 _ (Nat.lt_succ_self _), hz, upd_same], k3⟩
  · rw [q3 j (by omega), hz, upd_ne (by omega)]
    unfold zr4
    rw [if_neg (by omega)]
/-- the letter that stands there chooses the form -/
theorem cm_lead {f : Nat → Int32} {n : Nat} {s : MS} (h1 : m_in s = f) (h2 : m_ty s = n) (ho : okP s) (hw : m_wa s < 0) : (∃ i, lead f n (m_he s) i ∧ cmF f n i s (F_cmd s) ∧ ∀ j, j < 4 * m_cz s → m_cm (F_cmd s) j = m_cm s j) ∨ ((∀ i, i < 9 → ¬ sg f n (m_he s) = nI (fl1 i)) ∧ m_wa (F_cmd s) = nI (m_he s) ∧ ∀ j, j < 4 * m_cz s → m_cm (F_cmd s) j = m_cm s j) := by
  have es : sgH s = sg f n (m_he s) := by show sg (m_in s) (m_ty s) (m_he s) = _; rw [h1, h2]
  by_cases l0 : sgH s = nI 112
  · exact Or.inl ⟨0, lead_o (by decide) (by decide) (by decide) (es.symm.trans l0), cm_rr (by decide) h1 h2 ho hw l0 (by rw [cmd_p l0]; exact (rr_0 _ _).symm)⟩
  by_cases l1 : sgH s = nI 99
  · have hl := lead_c (es.symm.trans l1)
    by_cases c9 : sg (m_in s) (m_ty s) (m_he s + 1) = nI 97
    · rw [if_pos (by rw [← h1, ← h2]; exact c9)] at hl
      exact Or.inl ⟨2, hl, cm_rr (by decide) h1 h2 ho hw l1 (by rw [cmd_a l1 c9]; exact (rr_2 _ _).symm)⟩
    · rw [if_neg (by rw [← h1, ← h2]; exact c9)] at hl
      exact Or.inl ⟨1, hl, cm_rr (by decide) h1 h2 ho hw l1 (by rw [cmd_c l1 c9]; exact (rr_1 _ _).symm)⟩
  by_cases l3 : sgH s = nI 114
  · exact Or.inl ⟨3, lead_o (by decide) (by decide) (by decide) (es.symm.trans l3), cm_rr (by decide) h1 h2 ho hw l3 (by rw [cmd_r l3]; exact (rr_3 _ _).symm)⟩
  by_cases l4 : sgH s = nI 108
  · exact Or.inl ⟨4, lead_o (by decide) (by decide) (by decide) (es.symm.trans l4), cm_rr (by decide) h1 h2 ho hw l4 (by rw [cmd_l l4]; exact (rr_4 _ _).symm)⟩
  by_cases l5 : sgH s = nI 117
  · exact Or.inl ⟨5, lead_o (by decide) (by decide) (by decide) (es.symm.trans l5), cm_rr (by decide) h1 h2 ho hw l5 (by rw [cmd_u l5]; exact (rr_5 _ _).symm)⟩
  by_cases l6 : sgH s = nI 115
  · exact Or.inl ⟨6, lead_o (by decide) (by decide) (by decide) (es.symm.trans l6), cm_rr (by decide) h1 h2 ho hw l6 (by rw [cmd_s l6]; exact (rr_6 _ _).symm)⟩
  by_cases l7 : sgH s = nI 116
  · exact Or.inl ⟨7, lead_o (by decide) (by decide) (by decide) (es.symm.trans l7), cm_rr (by decide) h1 h2 ho hw l7 (by rw [cmd_t l7]; exact (rr_7 _ _).symm)⟩
  by_cases l8 : sgH s = nI 103
  · exact Or.inl ⟨8, lead_o (by decide) (by decide) (by decide) (es.symm.trans l8), cm_rr (by decide) h1 h2 ho hw l8 (by rw [cmd_g l8]; exact (rr_8 _ _).symm)⟩
  · right
    refine ⟨fun i hi q => ?_, ?_, fun j hj => ?_⟩
    · rw [← es] at q
      rcases (show i = 0 ∨ i = 1 ∨ i = 2 ∨ i = 3 ∨ i = 4 ∨ i = 5 ∨ i = 6 ∨ i = 7 ∨ i = 8 by omega) with rfl | rfl | rfl | rfl | rfl | rfl | rfl | rfl | rfl
      · exact l0 q
      · exact l1 q
      · exact l1 q
      · exact l3 q
      · exact l4 q
      · exact l5 q
      · exact l6 q
      · exact l7 q
      · exact l8 q
    · rw [cmd_n ⟨l0, l1, l3, l4, l5, l6, l7, l8⟩, wa_hw]
    · have e : m_cm (mHW (c_0 s) (m_he s) (nI (m_he s))) = zr4 (m_cm s) (4 * m_cz s) 4 := by simp only [mHW, mCm]
      rw [cmd_n ⟨l0, l1, l3, l4, l5, l6, l7, l8⟩, e]
      unfold zr4
      rw [if_neg (by omega)]
