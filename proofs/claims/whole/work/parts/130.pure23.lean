/-! A TEXT READ WHOLE: where it is wrong, and what its commands are -/
theorem fnF_g : ∀ (r pos : Nat) (v : IS), i_cm v < 9 → i_sg (fnF r pos v).2 = i_sg v ∧ i_n (fnF r pos v).2 = i_n v ∧ i_cm (fnF r pos v).2 < 9
  | 0, _, _, h => ⟨rfl, rfl, h⟩
  | r + 1, pos, v, h => by
    obtain ⟨g1, g2, -, -, g5⟩ := tkQ_g v (pos := pos) (B := pos + i_n v) (by omega) (by omega)
    have h9 := g5 h
    rw [fnF]
    split
    · split
      · exact ⟨g1, g2, h9⟩
      · split
        · obtain ⟨k1, k2, k3⟩ := fnF_g r (i_st (tkQ v pos).2 + 1) (tkQ v pos).2 h9
          exact ⟨k1.trans g1, k2.trans g2, k3⟩
        · exact ⟨g1, g2, h9⟩
    · exact ⟨g1, g2, h9⟩
/-- the commands of a text from a place on, and the rows that tell them -/
def CM (f : Nat → Int32) (n : Nat) (cm : Nat → Int32) : Nat → Nat → Nat → Prop
  | 0, pos, _ => pos = n + 1
  | k + 1, pos, z => ∃ i, i < 9 ∧ (fm f n (fmL i) pos).1 = true ∧ (∀ j, j < i → (fm f n (fmL j) pos).1 = false) ∧ cm (4 * z) = nI (cdL i) ∧ (∀ j, j < cnt (fmL i) → cm (4 * z + 1 + j) = nv f n (fmL i) pos j) ∧ CM f n cm k ((fm f n (fmL i) pos).2 + 1) (z + 1)
theorem CM_le {f : Nat → Int32} {n : Nat} {cm : Nat → Int32} : ∀ k pos z, CM f n cm k pos z → pos + 2 * k ≤ n + 1
  | 0, pos, z, h => by have h : pos = n + 1 := h; omega
  | k + 1, pos, z, h => by
    obtain ⟨i, hi, hy, -, -, -, hk⟩ := h
    have a := CM_le k _ _ hk
    have b := (fm_yes hi hy).2
    omega
theorem sg_end {f : Nat → Int32} {n j : Nat} (h : n ≤ j) : sg f n j = -1 := if_neg (by omega)
theorem prE_no {s : MS} (h : ¬ (m_wa s < 0 ∧ m_he s < m_ty s)) : prE s = s := if_neg h
theorem prE_yes {s : MS} (h : m_wa s < 0 ∧ m_he s < m_ty s) : prE s = mHW s (m_he s) (nI (m_he s)) := if_pos h
theorem n1_ne {k : Nat} (h : k < 2 ^ 31) : ¬ nI k = -1 := fun q => nI_pos h (by rw [q]; decide)
def prQ (f : Nat → Int32) (n : Nat) (pos : Nat) (x : Int32) (s e : MS) : Prop :=
  (m_wa e < 0 → x = -1 ∧ ∃ k, m_cz e = m_cz s + k ∧ CM f n (m_cm e) k pos (m_cz s)) ∧ (¬ m_wa e < 0 → x = m_wa e ∧ ¬ x = -1) ∧ (∀ j, j < 4 * m_cz s → m_cm e j = m_cm s j) ∧ ∃ a w g z, e = mCm (mHW s a w) g z
theorem prs_go {f : Nat → Int32} {n : Nat} : ∀ (r m pos : Nat) (v : IS) (s : MS), r ≤ m → 61 ≤ pos + 2 * r → i_sg v = f → i_n v = n → m_in s = f → m_ty s = n → okP s → m_wa s < 0 → m_he s = pos → prQ f n pos (fnF r pos v).1 s (prE (pLoop m (F_cmd s)))
  | 0, m, pos, v, s, _, h61, _, _, _, h4, ho, _, h6 => by
    have a := ho.1
    have b := ho.2
    omega
  | r + 1, m, pos, v, s, hm, h61, h1, h2, h3, h4, ho, hw, h6 => by
    have a0 := ho.1
    have b0 := ho.2
    obtain ⟨hok, a, w, g, eF, -, -⟩ := cmd_Q ho
    have hlead := cm_lead h3 h4 ho hw
    obtain ⟨q, hq⟩ : ∃ q, q = F_cmd s := ⟨_, rfl⟩
    rw [← hq] at hok eF hlead ⊢
    have qin : m_in q = f := by rw [eF]; exact h3
    have qty : m_ty q = n := by rw [eF]; exact h4
    have qcz : m_cz q = m_cz s + 1 := by rw [eF]; rfl
    have qs : ∃ a w g z, q = mCm (mHW s a w) g z := ⟨a, w, g, _, eF⟩
    have hsg : sgH q = sg f n (m_he q) := by show sg (m_in q) (m_ty q) (m_he q) = _; rw [qin, qty]
    have wrong : ∀ st, m_wa q = nI st → st ≤ 60 → (fnF (r + 1) pos v).1 = nI st → (∀ j, j < 4 * m_cz s → m_cm q j = m_cm s j) → prQ f n pos (fnF (r + 1) pos v).1 s (prE (pLoop m q)) := by
      intro st hwa h60 hx hcm
      have hn : ¬ m_wa q < 0 := by rw [hwa]; exact nI_pos (by omega)
      rw [pLoop_e (fun z => hn z.1), prE_no (fun z => hn z.1), hx]
      exact ⟨fun z => absurd z hn, fun _ => ⟨hwa.symm, n1_ne (by omega)⟩, hcm, qs⟩
    rcases hlead with ⟨i, hl, ⟨c1, c2⟩, c3⟩ | ⟨hno, hwa, c3⟩
    · rw [h6] at hl c1 c2
      have hi := hl.1
      by_cases y : (fm f n (fmL i) pos).1 = true
      · obtain ⟨k1, k2, k3, k4⟩ := c1 y
        have hlow : ∀ j, j < i → (fm f n (fmL j) pos).1 = false := fun j hj => (hl.2.2 j (by omega) (by omega)).1
        obtain ⟨t1, t2, t3, t4⟩ := tkQ_yes (v := v) h1 h2 hi y hlow
        obtain ⟨g1, g2, -, -, -⟩ := tkQ_g v (pos := pos) (B := pos + i_n v) (by omega) (by omega)
        have hstn : (fm f n (fmL i) pos).2 ≤ n := by rw [← k2, ← qty]; exact hok.1
        have hsgv : isg (tkQ v pos).2 (i_st (tkQ v pos).2) = sg f n (fm f n (fmL i) pos).2 := by
          show sg (i_sg (tkQ v pos).2) (i_n (tkQ v pos).2) (i_st (tkQ v pos).2) = _
          rw [g1, g2, t3, h1, h2]
        obtain ⟨st, hst⟩ : ∃ st, st = (fm f n (fmL i) pos).2 := ⟨_, rfl⟩
        rw [← hst] at k2 t3 hstn hsgv
        have hcm0 : ∀ cm : Nat → Int32, (∀ j, j < 4 * (m_cz s + 1) → cm j = m_cm q j) → ∀ k, CM f n cm k (st + 1) (m_cz s + 1) → CM f n cm (k + 1) pos (m_cz s) := by
          intro cm hcm k hk
          refine ⟨i, hi, y, hlow, by rw [hcm _ (by omega)]; exact k3, fun j hj => ?_, by rw [← hst]; exact hk⟩
          have h3c : cnt (fmL i) ≤ 3 := cnt_3 ⟨i, hi⟩
          rw [hcm _ (by omega)]
          exact k4 j hj
        by_cases hend : n ≤ st
        · have hx : (fnF (r + 1) pos v).1 = -1 := by rw [fnF_e (by omega) t1 (by rw [g2, h2, t3]; exact hend)]
          have hne : ¬ sgH q = nI 59 := by rw [hsg, k2, sg_end hend]; decide
          rw [pLoop_e (fun z => hne z.2), prE_no (fun z => by rw [k2, qty] at z; omega), hx]
          exact ⟨fun _ => ⟨rfl, 1, qcz, hcm0 _ (fun _ _ => rfl) 0 (show st + 1 = n + 1 by omega)⟩, fun z => absurd k1 z, c3, qs⟩
        · by_cases hsc : sg f n st = nI 59
          · have hx : fnF (r + 1) pos v = fnF r (st + 1) (tkQ v pos).2 := by
              rw [fnF_s (by omega) t1 (by rw [g2, h2, t3]; exact hend) (by rw [hsgv]; exact hsc), t3]
              rfl
            have hp : m_wa q < 0 ∧ sgH q = nI 59 := ⟨k1, by rw [hsg, k2]; exact hsc⟩
            rw [← pLoop_s (n := m) (by omega) hp, hx, k2]
            have hos : okP (mHW q (st + 1) (m_wa q)) := ok_hw (by rw [qty]; omega) (by rw [qty]; omega)
            obtain ⟨i1, i2, i3, i4⟩ := prs_go (f := f) (n := n) r (m - 1) (st + 1) (tkQ v pos).2 (mHW q (st + 1) (m_wa q)) (by omega) (by have := (fm_yes hi y).2; omega) (g1.trans h1) (g2.trans h2) qin qty hos k1 rfl
            obtain ⟨e, he⟩ : ∃ e, e = prE (pLoop (m - 1) (F_cmd (mHW q (st + 1) (m_wa q)))) := ⟨_, rfl⟩
            rw [← he] at i1 i2 i3 i4 ⊢
            have hz' : m_cz (mHW q (st + 1) (m_wa q)) = m_cz s + 1 := by rw [cz_hw, qcz]
            rw [hz'] at i1 i3
            have i3' : ∀ j, j < 4 * (m_cz s + 1) → m_cm e j = m_cm q j := i3
            refine ⟨fun z => ?_, i2, fun j hj => ?_, ?_⟩
            · obtain ⟨x1, k, x2, x3⟩ := i1 z
              exact ⟨x1, k + 1, by rw [x2]; omega, hcm0 _ i3' k x3⟩
            · rw [i3' j (by omega)]; exact c3 j hj
            · obtain ⟨a', w', g', z', e4⟩ := i4
              refine ⟨a', w', g', z', ?_⟩
              rw [e4, hw_hw, eF, hw_cm, cm_cm]
          · have hx : (fnF (r + 1) pos v).1 = nI st := by rw [fnF_w (by omega) t1 (by rw [g2, h2, t3]; exact hend) (by rw [hsgv]; exact hsc), t3]
            have hne : ¬ sgH q = nI 59 := by rw [hsg, k2]; exact hsc
            rw [pLoop_e (fun z => hne z.2), prE_yes ⟨k1, by rw [k2, qty]; omega⟩, hx, k2]
            have hp0 : ¬ m_wa (mHW q st (nI st)) < 0 := by rw [wa_hw]; exact nI_pos (by omega)
            refine ⟨fun z => absurd z hp0, fun _ => ⟨(wa_hw _ _ _).symm, n1_ne (by omega)⟩, c3, ?_⟩
            exact ⟨st, nI st, g, m_cz s + 1, by rw [eF, hw_cm]⟩
      · have y' : (fm f n (fmL i) pos).1 = false := by
          cases hb : (fm f n (fmL i) pos).1 with
          | false => rfl
          | true => exact absurd hb y
        obtain ⟨t1, t2⟩ := tkQ_lead (v := v) h1 h2 hl y'
        obtain ⟨k1, k2⟩ := c2 y'
        refine wrong _ k1 k2 ?_ c3
        rw [fnF_n (by omega) (by rw [t1]; decide), t2]
    · rw [h6] at hno hwa
      obtain ⟨t1, t2⟩ := tkQ_none (v := v) h1 h2 hno
      refine wrong pos hwa (by omega) ?_ c3
      rw [fnF_n (by omega) (by rw [t1]; decide), t2]
/-- the whole text -/
theorem prs_all {iv : IS} {v : MS} (h : RelN iv v) : prQ (m_in v) (m_ty v) 0 (fnF 60 0 iv).1 (p_0 v) (F_prs v) := by
  obtain ⟨h1, h2, h3, -⟩ := h
  have ho : okP (p_0 v) := ok_cm (ok_hw (Nat.zero_le _) h3)
  exact prs_go (f := m_in v) (n := m_ty v) 60 61 0 iv (p_0 v) (by decide) (by decide) h1 h2 (by simp only [mCm, mHW]) (by rw [ty_cm, ty_hw]) ho (by rw [wa_cm, wa_hw]; decide) (by rw [he_cm, he_hw])
