/-! A TEXT CARRIED OUT: class against reference -/
def cdI (x : Int32) : Nat := if x = nI 112 then 0 else if x = nI 99 then 1 else if x = nI 97 then 2 else if x = nI 114 then 3 else if x = nI 108 then 4 else if x = nI 117 then 5 else if x = nI 115 then 6 else if x = nI 116 then 7 else 8
theorem cdI_L : ∀ i : Fin 9, cdI (nI (cdL i.val)) = i.val := by decide +kernel
theorem CM_cs {f : Nat → Int32} {n : Nat} {cm : Nat → Int32} : ∀ k pos z, CM f n cm k pos z → ∀ i, z ≤ i → i < z + k → cdI (cm (4 * i)) < 9 ∧ cm (4 * i) = nI (cdL (cdI (cm (4 * i))))
  | 0, _, _, _, i, h1, h2 => by omega
  | k + 1, pos, z, h, i, h1, h2 => by
    obtain ⟨c, hc, -, -, e, -, hk⟩ := h
    by_cases q : i = z
    · subst q
      have := cdI_L ⟨c, hc⟩
      rw [e, this]
      exact ⟨hc, rfl⟩
    · exact CM_cs k _ _ hk i (by omega) (by omega)
theorem f_cmd_cg {c : Nat} (hc : c < 9) {X X' : Nat → Int32} (h : ∀ j, j < cnt (fmL c) → X j = X' j) (y : YS) (rs : RS) : f_cmd c y rs (X 0) (X 1) (X 2) = f_cmd c y rs (X' 0) (X' 1) (X' 2) := by
  rcases (show c = 0 ∨ c = 1 ∨ c = 2 ∨ c = 3 ∨ c = 4 ∨ c = 5 ∨ c = 6 ∨ c = 7 ∨ c = 8 by omega) with rfl | rfl | rfl | rfl | rfl | rfl | rfl | rfl | rfl
  · show f_addT y rs (nI 0) (X 0) (nI 9) = f_addT y rs (nI 0) (X' 0) (nI 9)
    rw [h 0 (by decide)]
  · show f_addT y rs (nI 1) (X 0) (nI 54) = f_addT y rs (nI 1) (X' 0) (nI 54)
    rw [h 0 (by decide)]
  · show f_addC y rs (X 0) = f_addC y rs (X' 0)
    rw [h 0 (by decide)]
  · show f_addR y rs (X 0) (X 1) (X 2) = f_addR y rs (X' 0) (X' 1) (X' 2)
    rw [h 0 (by decide), h 1 (by decide), h 2 (by decide)]
  · show f_put y rs (X 0) (X 1) (X 2) = f_put y rs (X' 0) (X' 1) (X' 2)
    rw [h 0 (by decide), h 1 (by decide), h 2 (by decide)]
  · show f_off y rs (X 0) = f_off y rs (X' 0)
    rw [h 0 (by decide)]
  · show f_swap y rs (X 0) (X 1) (X 2) = f_swap y rs (X' 0) (X' 1) (X' 2)
    rw [h 0 (by decide), h 1 (by decide), h 2 (by decide)]
  · show f_go y rs (X 0) (X 1) = f_go y rs (X' 0) (X' 1)
    rw [h 0 (by decide), h 1 (by decide)]
  · show f_grease y rs (X 0) = f_grease y rs (X' 0)
    rw [h 0 (by decide)]
/-- what a text leaves as it is -/
def RO (f : Nat → Int32) (tx : List Nat) (sv lf : Int32) (s : MS) : Prop := m_in s = f ∧ m_ty s = 0 ∧ sv = m_sv s ∧ lf = m_fa s ∧ RelT tx s
def RunQ (f : Nat → Int32) (sy : YS) (tx : List Nat) (sv lf : Int32) (A : Int32 × YS × RS × IS × HS) (B : Int32 × MS) : Prop :=
  A.1 = B.1 ∧ RelJ A.2.1 (m_g B.2) (m_fl B.2) ∧ RelH A.2.2.2.2 (m_g B.2) (m_fl B.2) (m_ch B.2) ∧ (¬ m_sv B.2 = 0 → BJ sy (m_g B.2) (m_fl B.2) 9) ∧ RelR A.2.2.1 B.2 ∧ i_sg A.2.2.2.1 = f ∧ i_cm A.2.2.2.1 < 9 ∧ RO f tx sv lf B.2
theorem rdE_3 {s : MS} {n : Nat} : rdE (-3, n, s) = F_ends (mB3 s n) (-3) := by
  unfold rdE
  rw [if_pos (show (-3 : Int32) < 0 by decide), if_pos rfl]
theorem rdE_0 {t : Int32} {s : MS} {n : Nat} (h : t < 0) (h3 : ¬ t = -3) : rdE (t, n, s) = F_ends (mB0 s n) (-3) := by
  unfold rdE
  rw [if_pos h, if_neg h3]
theorem rdE_p {t : Int32} {s : MS} {n : Nat} (h : ¬ t < 0) : rdE (t, n, s) = F_ends s (nI (m_cz s)) := if_neg h
theorem run_all {f : Nat → Int32} {n : Nat} {cm : Nat → Int32} {h0 : HS} {y0 sy : YS} {tx : List Nat} {sv lf : Int32} : ∀ (k r pos i : Nat) (y : YS) (rs : RS) (v : IS) (s : MS) (t : Int32), k < r → i_sg v = f → i_n v = n → i_cm v < 9 → m_cm s = cm → CM f n cm k pos i → m_cz s = i + k → i + k ≤ 60 → ¬ t < 0 → RelJ y (m_g s) (m_fl s) → RQ y0 h0 sy s → RelR rs s → RO f tx sv lf s →
    RunQ f sy tx sv lf (runA (hB h0 y0) r pos i y rs v) (rdE (runM (fun j => cdI (cm (4 * j))) k i t y rs s))
  | 0, r, pos, i, y, rs, v, s, t, hr, v1, v2, v3, hcm, hC, hz, h60, ht, hJ, hQ, hR, hO => by
    have hC : pos = n + 1 := hC
    subst hC
    obtain ⟨t1, t2⟩ := tkQ_none (f := f) (n := n) (pos := n + 1) (v := v) v1 v2 (fun j hj q => by
      rw [sg_end (by omega)] at q
      exact n1_ne (by have := fl1_lt hj; omega) q.symm)
    obtain ⟨g1, g2, -, -, g5⟩ := tkQ_g v (pos := n + 1) (B := n + 1 + i_n v) (by omega) (by omega)
    have hi : ¬ nI i < 0 := nI_pos (by omega)
    have hz' : m_cz s = i := hz
    rw [runA_n (by omega) (by rw [t1]; decide), runM_z rfl, rdE_p ht, hz']
    obtain ⟨g, fl, ch, ee, k1, k2, k3⟩ := ends_ok hQ hJ hi
    rw [ee]
    exact ⟨by rw [set_pos hi], k1, k2, k3, hR, g1.trans v1, g5 v3, hO⟩
  | k + 1, r, pos, i, y, rs, v, s, t, hr, v1, v2, v3, hcm, hC, hz, h60, ht, hJ, hQ, hR, hO => by
    obtain ⟨c, hc, hy, hlow, e0, hnum, hk⟩ := hC
    obtain ⟨t1, t2, t3, t4⟩ := tkQ_yes (v := v) v1 v2 hc hy hlow
    obtain ⟨g1, g2, -, -, g5⟩ := tkQ_g v (pos := pos) (B := pos + i_n v) (by omega) (by omega)
    have hcs : (fun j => cdI (cm (4 * j))) i = c := by
      show cdI (cm (4 * i)) = c
      rw [e0]; exact cdI_L ⟨c, hc⟩
    have eq1 : rQ y rs v pos = yQ (fun j => cdI (cm (4 * j))) i y rs s := by
      show f_cmd (i_cm (tkQ v pos).2) y rs (i_nu (tkQ v pos).2 0) (i_nu (tkQ v pos).2 1) (i_nu (tkQ v pos).2 2) = f_cmd ((fun j => cdI (cm (4 * j))) i) y rs (m_cm s (4 * i + 1)) (m_cm s (4 * i + 2)) (m_cm s (4 * i + 3))
      rw [t2, hcs]
      exact f_cmd_cg hc (X := i_nu (tkQ v pos).2) (X' := fun j => m_cm s (4 * i + 1 + j)) (fun j hj => by rw [t4 j hj, hcm, hnum j hj]) y rs
    have hS : Spp y rs s (yQ (fun j => cdI (cm (4 * j))) i y rs s) (dQ (fun j => cdI (cm (4 * j))) i y s) := st_cmd (by rw [hcs]; exact hc) hJ
    rw [runM_s (by omega) ht, ← eq1]
    rw [← eq1] at hS
    obtain ⟨b, hb⟩ : ∃ b, b = dQ (fun j => cdI (cm (4 * j))) i y s := ⟨_, rfl⟩
    rw [← hb] at hS ⊢
    obtain ⟨a, ha⟩ : ∃ a, a = rQ y rs v pos := ⟨_, rfl⟩
    rw [← ha] at hS ⊢
    obtain ⟨b1, b2⟩ := b
    obtain ⟨e1, cs⟩ := hS
    have e1 : a.1 = b1 := e1
    have hup : (hB h0 y0).2.2 (hB h0 y0).1 = y0 := upS_same _ _ _
    show RunQ f sy tx sv lf (runA (hB h0 y0) r pos i y rs v) (rdE (runM (fun j => cdI (cm (4 * j))) (k + 1 - 1) (i + 1) b1 a.2.1 a.2.2 b2))
    rcases cs with ⟨e3, x, d, hx, ea, eb⟩ | ⟨e3, ea, eb⟩ | ⟨e3, ea, g, fl, eb, hg, hf, hj⟩
    · have hb1 : b1 = -3 := e1.symm.trans e3
      have eb : b2 = mRef s x d := eb
      subst hb1 eb
      rw [runM_e (show (-3 : Int32) < 0 by decide), rdE_3, runA_3 (by omega) t1 (by rw [← ha, e3]; decide) (by rw [← ha]; exact e3), ← ha, ea, hup]
      have hQ' : RQ y0 h0 sy (mB3 (mRef s x d) (i + 1)) := hQ
      obtain ⟨g, fl, ee, k1, k2, k3⟩ := ends_no hQ' (show (-3 : Int32) < 0 by decide)
      rw [ee]
      exact ⟨rfl, k1, k2, k3, ⟨Or.inr ⟨(show ¬ nI 12 = 0 by decide), rfl, rfl⟩, Or.inr ⟨hx, rfl, rfl⟩⟩, g1.trans v1, g5 v3, hO⟩
    · have eb : b2 = s := eb
      have hneg : a.1 < 0 := by
        rcases e3 with e3 | e3
        · rw [e3]; decide
        · rw [e3]; decide
      have hne : ¬ a.1 = -3 := by
        rcases e3 with e3 | e3
        · rw [e3]; decide
        · rw [e3]; decide
      subst eb
      rw [runM_e (by rw [← e1]; exact hneg), rdE_0 (by rw [← e1]; exact hneg) (by rw [← e1]; exact hne), runA_f (by omega) t1 (by rw [← ha]; exact hneg) (by rw [← ha]; exact hne), hup]
      have hQ' : RQ y0 h0 sy (mB0 b2 (i + 1)) := hQ
      obtain ⟨g, fl, ee, k1, k2, k3⟩ := ends_no hQ' (show (-3 : Int32) < 0 by decide)
      rw [ee]
      exact ⟨rfl, k1, k2, k3, ⟨Or.inr ⟨(show ¬ nI 13 = 0 by decide), rfl, rfl⟩, Or.inl ⟨rfl, rfl, rfl⟩⟩, g1.trans v1, g5 v3, hO⟩
    · have eb : b2 = mGF s g fl := eb
      have ea : a.2.2 = rs := ea
      subst eb
      rw [runA_s (by omega) t1 (by rw [← ha]; exact e3), ← ha, ea, t3]
      exact run_all k (r - 1) ((fm f n (fmL c) pos).2 + 1) (i + 1) a.2.1 rs (tkQ v pos).2 (mGF s g fl) b1 (by omega) (g1.trans v1) (g2.trans v2) (g5 v3) hcm hk (by show m_cz s = _; rw [hz]; omega) (by omega) (by rw [← (show a.1 = b1 from e1)]; exact e3) hj (RQ_hi hQ hg hf) hR hO
def csR (v : MS) : Nat → Nat := fun j => cdI (m_cm (F_prs v) (4 * j))
def zR (v : MS) : Nat := if m_wa (F_prs v) < 0 then m_cz (F_prs v) else 0
theorem KK_i {cs : Nat → Nat} {z : Nat} (y1 : YS) (s1 : MS) (h : KK cs z y1 s1) : yI y1 ∧ RelI y1 (m_g s1) ∧ (∀ j, j < 9 → nF (m_fl s1 j)) ∧ m_ch s1 ≤ 8 ∧ m_cz s1 = z ∧ ∀ i, i < z → cs i < 9 ∧ m_cm s1 (4 * i) = nI (cdL (cs i)) :=
  ⟨h.1.2.2.1, h.1.1, h.1.nf, h.2.1, h.2.2.1, h.2.2.2⟩
theorem csR_e {v e : MS} (h : e = F_prs v) : csR v = fun j => cdI (m_cm e (4 * j)) := by subst h; rfl
theorem zR_y {v e : MS} (h : e = F_prs v) (c : m_wa e < 0) : zR v = m_cz e := by subst h; exact if_pos c
theorem zR_n {v e : MS} (h : e = F_prs v) (c : ¬ m_wa e < 0) : zR v = 0 := by subst h; exact if_neg c
theorem rdM_e {cs : Nat → Nat} {z : Nat} {y : YS} {rs : RS} {v e : MS} (h : e = F_prs v) : F_rdM cs z y rs v = rdM cs z y rs (mTz e) := by subst h; rfl
theorem rdM_y {cs : Nat → Nat} {z : Nat} {y : YS} {rs : RS} {s : MS} (h : m_wa s < 0) : rdM cs z y rs s = rdE (runM cs z 0 (nI 0) y rs (F_beg s)) := if_pos h
theorem rdM_n {cs : Nat → Nat} {z : Nat} {y : YS} {rs : RS} {s : MS} (h : ¬ m_wa s < 0) : rdM cs z y rs s = (-2, mFa s (m_wa s)) := if_neg h
theorem rdC_y {y : YS} {rs : RS} {v : IS} {h : HS} {lf : Int32} (x : (fnF 60 0 v).1 = -1) : F_rdC y rs v h lf = ((rdQ y rs v h).1, (rdQ y rs v h).2.1, (rdQ y rs v h).2.2.1, i0 (rdQ y rs v h).2.2.2.1, (rdQ y rs v h).2.2.2.2, lf) := if_pos x
theorem rdC_n {y : YS} {rs : RS} {v : IS} {h : HS} {lf : Int32} (x : ¬ (fnF 60 0 v).1 = -1) : F_rdC y rs v h lf = (-2, y, rs, i0 (fnF 60 0 v).2, h, (fnF 60 0 v).1) := if_neg x
theorem tz_p {e : MS} : m_g (mTz e) = m_g e ∧ m_fl (mTz e) = m_fl e ∧ m_ch (mTz e) = m_ch e ∧ m_sv (mTz e) = m_sv e ∧ m_why (mTz e) = m_why e ∧ m_det (mTz e) = m_det e ∧ m_li (mTz e) = m_li e ∧ m_ld (mTz e) = m_ld e ∧ m_in (mTz e) = m_in e ∧ m_ty (mTz e) = 0 ∧ m_fa (mTz e) = m_fa e ∧ m_lz (mTz e) = m_lz e ∧ m_ln (mTz e) = m_ln e ∧ m_wa (mTz e) = m_wa e ∧ m_cm (mTz e) = m_cm e ∧ m_cz (mTz e) = m_cz e := by
  refine ⟨?_, ?_, ?_, ?_, ?_, ?_, ?_, ?_, ?_, ?_, ?_, ?_, ?_, ?_, ?_, ?_⟩ <;> simp only [mTz]
theorem ch_p {v : MS} {a : Nat} {w : Int32} {g : Nat → Int32} {z : Nat} : m_g (mCm (mHW v a w) g z) = m_g v ∧ m_fl (mCm (mHW v a w) g z) = m_fl v ∧ m_ch (mCm (mHW v a w) g z) = m_ch v ∧ m_sv (mCm (mHW v a w) g z) = m_sv v ∧ m_why (mCm (mHW v a w) g z) = m_why v ∧ m_det (mCm (mHW v a w) g z) = m_det v ∧ m_li (mCm (mHW v a w) g z) = m_li v ∧ m_ld (mCm (mHW v a w) g z) = m_ld v ∧ m_in (mCm (mHW v a w) g z) = m_in v ∧ m_fa (mCm (mHW v a w) g z) = m_fa v ∧ m_lz (mCm (mHW v a w) g z) = m_lz v ∧ m_ln (mCm (mHW v a w) g z) = m_ln v := by
  refine ⟨?_, ?_, ?_, ?_, ?_, ?_, ?_, ?_, ?_, ?_, ?_, ?_⟩ <;> simp only [mCm, mHW]
section RDL
variable {y : YS} {rs : RS} {iv : IS} {sy : YS} {xv : Int32 × Int32} {tx : List Nat} {h : HS} {v : MS}
theorem rd_z (hL : LQ y rs iv sy xv tx h v) : zR v ≤ 61 := by
  obtain ⟨-, -, -, -, hN, -⟩ := hL
  have h60 := hN.2.2.1
  obtain ⟨p1, -, -, -⟩ := prs_all hN
  obtain ⟨e, he⟩ : ∃ e, e = F_prs v := ⟨_, rfl⟩
  rw [← he] at p1
  by_cases c : m_wa e < 0
  · rw [zR_y he c]
    obtain ⟨-, k, ek, hk⟩ := p1 c
    have := CM_le _ _ _ hk
    rw [cz_cm] at ek
    omega
  · rw [zR_n he c]; omega
theorem prs_sh (hN : RelN iv v) : ∃ a w g z, F_prs v = mCm (mHW v a w) g z := by
  obtain ⟨-, -, -, a, w, g, z, e⟩ := prs_all hN
  refine ⟨a, w, g, z, ?_⟩
  rw [e, hw_cm, cm_cm]
/-- the text is parsed, and taken away: what is left as it was -/
theorem tz_L (hL : LQ y rs iv sy xv tx h v) {e : MS} {a : Nat} {w : Int32} {g : Nat → Int32} {z : Nat} (es : e = mCm (mHW v a w) g z) : RelJ y (m_g (mTz e)) (m_fl (mTz e)) ∧ RelH h (m_g (mTz e)) (m_fl (mTz e)) (m_ch (mTz e)) ∧ (¬ m_sv (mTz e) = 0 → BJ sy (m_g (mTz e)) (m_fl (mTz e)) 9) ∧ RelR rs (mTz e) ∧ RO (m_in v) tx xv.1 xv.2 (mTz e) := by
  obtain ⟨hJ, hH, hS, hR, hN, h1, h2, hT⟩ := hL
  obtain ⟨t1, t2, t3, t4, t5, t6, t7, t8, t9, t10, t11, t12, t13, -, -, -⟩ := tz_p (e := e)
  obtain ⟨c1, c2, c3, c4, c5, c6, c7, c8, c9, c11, c12, c13⟩ := ch_p (v := v) (a := a) (w := w) (g := g) (z := z)
  rw [← es] at c1 c2 c3 c4 c5 c6 c7 c8 c9 c11 c12 c13
  unfold RelR RO RelT at *
  rw [t1, t2, t3, t4, t5, t6, t7, t8, t9, t10, t11, t12, t13, c1, c2, c3, c4, c5, c6, c7, c8, c9, c11, c12, c13]
  exact ⟨hJ, hH, hS, hR, rfl, rfl, h1, h2, hT⟩
theorem rd_K (hL : LQ y rs iv sy xv tx h v) (hw : m_wa (mTz (F_prs v)) < 0) : KK (csR v) (zR v) y (F_beg (mTz (F_prs v))) := by
  have hN := hL.2.2.2.2.1
  obtain ⟨p1, -, -, -⟩ := prs_all hN
  obtain ⟨a, w, g, z, es⟩ := prs_sh hN
  obtain ⟨e, he⟩ : ∃ e, e = F_prs v := ⟨_, rfl⟩
  rw [← he] at p1 es hw ⊢
  obtain ⟨q1, q2, q3, -⟩ := tz_L hL es
  obtain ⟨-, -, -, -, -, -, -, -, -, -, -, -, -, t14, t15, t16⟩ := tz_p (e := e)
  rw [t14] at hw
  obtain ⟨-, k, ek, hk⟩ := p1 hw
  rw [cz_cm] at ek
  rw [csR_e he, zR_y he hw]
  obtain ⟨s, hs⟩ : ∃ s, s = mTz e := ⟨_, rfl⟩
  rw [← hs] at q1 q2 q3 t15 t16 ⊢
  refine ⟨(RQ_beg q1 q2 q3).2, q2.2.2.1, t16, fun i hi => ?_⟩
  have h2 := CM_cs k 0 _ hk i (by rw [cz_cm]; exact Nat.zero_le i) (by rw [cz_cm]; omega)
  rw [← t15] at h2 ⊢
  exact h2
theorem RL_rd1 {f : Nat → Int32} {A : Int32 × YS × RS × IS × HS} {B : Int32 × MS} (R : RunQ f sy tx xv.1 xv.2 A B) : A.1 = B.1 ∧ LQ A.2.1 A.2.2.1 (i0 A.2.2.2.1) sy (xv.1, xv.2) tx A.2.2.2.2 B.2 := by
  obtain ⟨r1, r2, r3, r4, r5, r6, r7, r8, r9, r10, r11, r12⟩ := R
  exact ⟨r1, r2, r3, r4, r5, ⟨r6.trans r8.symm, r9.symm, by rw [r9]; omega, r7⟩, r10, r11, r12⟩
theorem RL_rd0 {f : Nat → Int32} {s : MS} {N : IS} {x : Int32} (q1 : RelJ y (m_g s) (m_fl s)) (q2 : RelH h (m_g s) (m_fl s) (m_ch s)) (q3 : ¬ m_sv s = 0 → BJ sy (m_g s) (m_fl s) 9) (q4 : RelR rs s) (q5 : RO f tx xv.1 xv.2 s) (f1 : i_sg N = f) (f3 : i_cm N < 9) : LQ y rs (i0 N) sy (xv.1, x) tx h (mFa s x) := by
  obtain ⟨r8, r9, r10, r11, r12⟩ := q5
  exact ⟨q1, q2, q3, q4, ⟨f1.trans r8.symm, r9.symm, by show m_ty s ≤ 60; rw [r9]; omega, f3⟩, r10, rfl, r12⟩
theorem RL_read (hL : LQ y rs iv sy xv tx h v) : (F_rdC y rs iv h xv.2).1 = (F_rdM (csR v) (zR v) y rs v).1 ∧ LQ (F_rdC y rs iv h xv.2).2.1 (F_rdC y rs iv h xv.2).2.2.1 (F_rdC y rs iv h xv.2).2.2.2.1 sy (xv.1, (F_rdC y rs iv h xv.2).2.2.2.2.2) tx (F_rdC y rs iv h xv.2).2.2.2.2.1 (F_rdM (csR v) (zR v) y rs v).2 := by
  have hN := hL.2.2.2.2.1
  have h60 := hN.2.2.1
  obtain ⟨p1, p2, -, -⟩ := prs_all hN
  obtain ⟨a, w, g, z, es⟩ := prs_sh hN
  obtain ⟨f1, f2, f3⟩ := fnF_g 60 0 iv hN.2.2.2
  obtain ⟨e, he⟩ : ∃ e, e = F_prs v := ⟨_, rfl⟩
  rw [rdM_e he]
  rw [← he] at p1 p2 es
  obtain ⟨q1, q2, q3, q4, q5⟩ := tz_L hL es
  obtain ⟨-, -, -, -, -, -, -, -, -, -, -, -, -, t14, t15, t16⟩ := tz_p (e := e)
  obtain ⟨s, hs⟩ : ∃ s, s = mTz e := ⟨_, rfl⟩
  rw [← hs] at q1 q2 q3 q4 q5 t14 t15 t16 ⊢
  by_cases c : m_wa e < 0
  · obtain ⟨x1, k, ek, hk⟩ := p1 c
    rw [cz_cm] at ek hk
    have hle := CM_le _ _ _ hk
    obtain ⟨b1, b2⟩ := RQ_beg (v := s) q1 q2 q3
    have R := run_all (f := m_in v) (n := m_ty v) (cm := m_cm e) (h0 := h) (y0 := y) (sy := sy) (tx := tx) (sv := xv.1) (lf := xv.2) k 60 0 0 y rs (fnF 60 0 iv).2 (F_beg s) (nI 0) (by omega) (f1.trans hN.1) (f2.trans hN.2.1) f3 t15 hk (show m_cz s = 0 + k by rw [t16]; exact ek) (by omega) (by decide) b2 b1 q4 q5
    have R : RunQ (m_in v) sy tx xv.1 xv.2 (rdQ y rs iv h) (rdE (runM (fun j => cdI (m_cm e (4 * j))) k 0 (nI 0) y rs (F_beg s))) := R
    have ez : m_cz e = k := by rw [ek, Nat.zero_add]
    rw [rdC_y x1, rdM_y (by rw [t14]; exact c), csR_e he, zR_y he c, ez]
    obtain ⟨A, hA⟩ : ∃ A, A = rdQ y rs iv h := ⟨_, rfl⟩
    rw [← hA] at R ⊢
    obtain ⟨B, hB⟩ : ∃ B, B = rdE (runM (fun j => cdI (m_cm e (4 * j))) k 0 (nI 0) y rs (F_beg s)) := ⟨_, rfl⟩
    rw [← hB] at R ⊢
    exact RL_rd1 R
  · obtain ⟨x1, x2⟩ := p2 c
    rw [rdC_n x2, rdM_n (by rw [t14]; exact c)]
    obtain ⟨N, hN2⟩ : ∃ N, N = fnF 60 0 iv := ⟨_, rfl⟩
    rw [← hN2] at x1 f1 f3 ⊢
    have x3 : N.1 = m_wa s := by rw [t14]; exact x1
    rw [← x3]
    exact ⟨rfl, RL_rd0 q1 q2 q3 q4 q5 (f1.trans hN.1) f3⟩
end RDL
