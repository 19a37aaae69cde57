/-! CLASS AND REFERENCE SIDE BY SIDE: trips and grease -/
theorem i_cancel {a b c : Int32} (h : a + c = b + c) : a = b := by
  have := congrArg (fun x => x - c) h
  simpa only [Int32.add_sub_cancel] using this
theorem te_cg {y y' : YS} (h1 : y_n y' = y_n y) (h2 : y_kd y' = y_kd y) (h3 : y_w y' = y_w y) (h4 : y_cu y' = y_cu y) (h5 : y_pl y' = y_pl y) (x z : Int32) : t_te y' x z = t_te y x z := by
  unfold t_te
  rw [h1]
  refine sI_cg (fun k _ => ?_)
  unfold t_tt
  rw [h2, h3, h4, h5]
theorem ck_cg {y y' : YS} (h1 : y_n y' = y_n y) (h2 : y_kd y' = y_kd y) (h3 : y_w y' = y_w y) (h4 : y_cu y' = y_cu y) (h5 : y_pl y' = y_pl y) (h6 : y_st y' = y_st y) (c : Nat) (z : Int32) : p_creak y' c z = p_creak y c z := by
  show (¬ Op.cmpValue (FP.fcmp (FP.fdiv (FP.i2f (t_te y' (nI c) z)) 1092616192) (FP.i2f (y_st y' c))) CmpOp.l ≤ 0) = _
  rw [te_cg h1 h2 h3 h4 h5, h6]
theorem cr_cg {y y' : YS} (h1 : y_n y' = y_n y) (h2 : y_kd y' = y_kd y) (h3 : y_w y' = y_w y) (h4 : y_cu y' = y_cu y) (h5 : y_pl y' = y_pl y) (h6 : y_st y' = y_st y) (c : Nat) : t_cr y' c = t_cr y c := by
  unfold t_cr
  simp only [ck_cg h1 h2 h3 h4 h5 h6]
theorem wt_cg {y y' : YS} (h1 : y_n y' = y_n y) (h2 : y_kd y' = y_kd y) (h3 : y_w y' = y_w y) (h4 : y_cu y' = y_cu y) (h5 : y_pl y' = y_pl y) (h6 : y_st y' = y_st y) (h7 : y_mi y' = y_mi y) (c r : Nat) (z : Int32) : t_wt y' c r z = t_wt y c r z := by
  have e : t_wt0 y' c r z = t_wt0 y c r z := by
    show FP.fmul (FP.fmul (FP.fdiv (FP.i2f (t_te y' (nI c) z)) 1092616192) (FP.i2f (y_mi y' r))) 981668463 = _
    rw [te_cg h1 h2 h3 h4 h5, h7]
  unfold t_wt
  simp only [ck_cg h1 h2 h3 h4 h5 h6, e]
theorem oc_cn (y : YS) (x z : Int32) : t_oc y x z = nI (cN (fun k => decide (y_cu y k = x ∧ y_kd y k = z)) (y_n y)) := by
  unfold t_oc
  generalize y_n y = n
  induction n with
  | zero => rfl
  | succ n ih =>
    rw [sI, cN, ih]
    by_cases h : y_cu y n = x ∧ y_kd y n = z
    · rw [if_pos h, if_pos (decide_eq_true h), nI_add]
    · rw [if_neg h, if_neg (by rw [decide_eq_true_eq]; exact h)]
      exact Int32.add_zero _
theorem cN_mem {q : Nat → Bool} {k n : Nat} (hk : k < n) (h : q k = true) : 1 ≤ cN q n := by
  have a : cN q (k + 1) ≤ cN q n := cN_mono hk
  have b : cN q (k + 1) = cN q k + 1 := by
    show cN q k + (if q k = true then 1 else 0) = _
    rw [if_pos h]
  omega
theorem top_oc {y : YS} (hy : yI y) {c : Nat} (hc : c < y_cn y) : t_at y (nI c) (nI 6) = -4 ↔ t_oc y (nI c) (nI 1) = 0 := by
  have h4 := hy.2.1
  have hn := hy.1
  constructor
  · intro h
    unfold t_oc
    refine sI_0 (fun k hk => if_neg (fun q => ?_))
    obtain ⟨-, -, hh⟩ := hy.2.2.2.1 k hk
    rcases hh with ⟨e, -⟩ | ⟨c', q', hc', -, e, e2, e3⟩
    · rw [q.1] at e; exact nI_ne4 (by omega) e
    · have e4 := e3.mpr q.2
      subst e4
      exact at_no hn h k hk ⟨q.1, e2⟩
  · intro h
    rcases at_ex y (nI c) (nI 6) with e | ⟨k, hk, e⟩
    · exact e
    · have s := at_sp hn hk e
      obtain ⟨-, -, hh⟩ := hy.2.2.2.1 k hk
      rcases hh with ⟨e0, -⟩ | ⟨c', q', hc', hq', e1, e2, e3⟩
      · rw [s.1] at e0; exact absurd e0 (nI_ne4 (by omega))
      · have q6 : q' = 6 := (nI_eq (by omega) (by omega)).mp (e2.symm.trans s.2)
        have kd := e3.mp q6
        rw [oc_cn] at h
        have m := cN_mem (q := fun k => decide (y_cu y k = nI c ∧ y_kd y k = nI 1)) hk (decide_eq_true ⟨s.1, kd⟩)
        have l := cN_le (fun k => decide (y_cu y k = nI c ∧ y_kd y k = nI 1)) (y_n y)
        have := (nI_0eq (by omega)).mp h
        omega
theorem wi_iff {y : YS} (hy : yI y) (x : Int32) {r : Nat} (hr : r < y_rn y) : p_wi y x r ↔ t_all y x - y_li y r ≤ 0 := by
  obtain ⟨a, ha, ea⟩ := all_nat hy x
  obtain ⟨L, _, _, h1, h2, -, -, -, e, -⟩ := hy.2.2.2.2.1 r hr
  show ¬ y_li y r < t_all y x ↔ _
  rw [ea, e, nI_sub_le (by omega) (by omega), Int32.not_lt, nI_leI (by omega) (by omega)]
theorem wn_0 {y : YS} {c : Nat} : t_wn y c = 0 ↔ ¬ p_worn (y_wr y (wix c (nI 0))) ∧ ¬ p_worn (y_wr y (wix c (nI 1))) := by
  unfold t_wn
  by_cases a : p_worn (y_wr y (wix c (nI 0)))
  · rw [if_pos a]; exact ⟨fun q => by omega, fun q => absurd a q.1⟩
  · rw [if_neg a]
    by_cases b : p_worn (y_wr y (wix c (nI 1)))
    · rw [if_pos b]; exact ⟨fun q => by omega, fun q => absurd b q.2⟩
    · rw [if_neg b]; exact ⟨fun _ => ⟨a, b⟩, fun _ => rfl⟩
theorem markG_val {g : Nat → Int32} {c r : Nat} (hc : c < 4) (hr : r < 5) (j : Nat) : markG g c r j = if j = 4 then g 4 + g (61 + 4 * r + 1) else if j = 3 then g 3 + nI 1 else if j = 61 + 4 * r + 3 then g j + nI 1 else if j = 53 + 2 * c + 1 then g j + nI 1 else g j := by
  unfold markG
  rw [upd_ne (show 61 + 4 * r + 3 ≠ 53 + 2 * c + 1 by omega), upd_ne (show 3 ≠ 61 + 4 * r + 3 by omega), upd_ne (show 3 ≠ 53 + 2 * c + 1 by omega)]
  rw [upd_ne (show 4 ≠ 3 by omega), upd_ne (show 4 ≠ 61 + 4 * r + 3 by omega), upd_ne (show 4 ≠ 53 + 2 * c + 1 by omega)]
  rw [upd_ne (show 61 + 4 * r + 1 ≠ 3 by omega), upd_ne (show 61 + 4 * r + 1 ≠ 61 + 4 * r + 3 by omega), upd_ne (show 61 + 4 * r + 1 ≠ 53 + 2 * c + 1 by omega)]
  unfold upd
  by_cases h1 : j = 4
  · rw [if_pos h1, if_pos h1]
  rw [if_neg h1, if_neg h1]
  by_cases h2 : j = 3
  · rw [if_pos h2, if_pos h2]
  rw [if_neg h2, if_neg h2]
  by_cases h3 : j = 61 + 4 * r + 3
  · rw [if_pos h3, if_pos h3, h3]
  rw [if_neg h3, if_neg h3]
  by_cases h4 : j = 53 + 2 * c + 1
  · rw [if_pos h4, if_pos h4, h4]
  rw [if_neg h4, if_neg h4]
theorem gone_fl {y : YS} {v : MS} {c r : Nat} (hc : c < 4) (j : Nat) : m_fl (goneM y v c r) j = if j = 2 * c + 1 then FP.fadd (m_fl v (2 * c + 1)) (t_wt y c r (nI 1)) else if j = 2 * c then FP.fadd (m_fl v (2 * c)) (t_wt y c r (nI 0)) else if j = 8 then FP.fadd (m_fl v 8) (t_toll y c r) else m_fl v j := by
  generalize hT : t_toll y c r = T
  generalize h1 : t_wt y c r (nI 1) = W1
  generalize h0 : t_wt y c r (nI 0) = W0
  have e : m_fl (goneM y v c r) = vf_upd (vf_upd (vf_upd (m_fl v) 8 (FP.fadd (m_fl v 8) T)) (2 * c + 0) (FP.fadd (vf_upd (m_fl v) 8 (FP.fadd (m_fl v 8) T) (2 * c + 0)) W0)) (2 * c + 1) (FP.fadd (vf_upd (vf_upd (m_fl v) 8 (FP.fadd (m_fl v 8) T)) (2 * c + 0) (FP.fadd (vf_upd (m_fl v) 8 (FP.fadd (m_fl v 8) T) (2 * c + 0)) W0) (2 * c + 1)) W1) := by
    subst hT h1 h0; rfl
  rw [e, fupd_ne (show 2 * c + 0 ≠ 8 by omega), fupd_ne (show 2 * c + 1 ≠ 2 * c + 0 by omega), fupd_ne (show 2 * c + 1 ≠ 8 by omega)]
  unfold vf_upd
  rfl
theorem gone_wr {y : YS} {c r : Nat} (hc : c < 4) (j : Nat) : y_wr (yGone y c r) j = if j = 2 * c + 1 then FP.fadd (y_wr y (2 * c + 1)) (t_wt y c r (nI 1)) else if j = 2 * c then FP.fadd (y_wr y (2 * c)) (t_wt y c r (nI 0)) else y_wr y j := by
  have e0 : ∀ tl, t_wt (y_n y, y_kd y, y_w y, y_cu y, y_pl y, y_cn y, y_st y, y_wr y, y_tr y, y_rn y, y_li y, y_mi y, y_ra y, y_rt y, tl, y_mm y) c r (nI 0) = t_wt y c r (nI 0) := fun tl => wt_cg rfl rfl rfl rfl rfl rfl rfl c r _
  have e1 : ∀ wr tl, t_wt (y_n y, y_kd y, y_w y, y_cu y, y_pl y, y_cn y, y_st y, wr, y_tr y, y_rn y, y_li y, y_mi y, y_ra y, y_rt y, tl, y_mm y) c r (nI 1) = t_wt y c r (nI 1) := fun wr tl => wt_cg rfl rfl rfl rfl rfl rfl rfl c r _
  unfold yGone
  dsimp only [wrStep, wix_0, wix_1]
  rw [e0, e1]
  dsimp only [y_wr]
  rw [fupd_ne (show 2 * c + 1 ≠ 2 * c by omega)]
  unfold vf_upd
  rfl
theorem gone_rel {y : YS} {v : MS} {c r : Nat} (hc : c < y_cn y) (hr : r < y_rn y) (hJ : RelJ y (m_g v) (m_fl v)) : RelJ (yGone y c r) (markG (m_g v) c r) (m_fl (goneM y v c r)) := by
  obtain ⟨hI, hF, hy, hd, hw, hC, hf⟩ := hJ
  have h4 := hy.2.1
  have h5 := hy.2.2.1
  have M := fun j => markG_val (g := m_g v) (c := c) (r := r) (by omega) (by omega) j
  have RI := RelI_mark (c := c) (r := r) ⟨hy.1, h4, h5⟩ hI (by omega) (by omega)
  refine ⟨⟨RI.1, RI.2.1, RI.2.2.1, RI.2.2.2.1, RI.2.2.2.2.1, RI.2.2.2.2.2⟩, ?_, ⟨hy.1, hy.2.1, hy.2.2.1, hy.2.2.2.1, hy.2.2.2.2.1, hy.2.2.2.2.2⟩, hd, hw, ?_, ?_, ?_⟩
  · obtain ⟨b1, b2, b3, b4, b5, b6, b7⟩ := hF
    refine ⟨fun j (hj : j < 2 * y_cn y) => ?_, fun j (hj : 2 * y_cn y ≤ j) h8 => ?_, ?_, ?_, ?_, fun d (hd : d < y_cn y) => ?_, fun q (hq : q < y_rn y) => ?_⟩
    · rw [gone_fl (by omega), gone_wr (by omega), if_neg (show ¬ j = 8 by omega), b1 j hj, b1 (2 * c + 1) (by omega), b1 (2 * c) (by omega)]
    · rw [gone_fl (by omega), if_neg (by omega), if_neg (by omega), if_neg (by omega)]; exact b2 j hj h8
    · rw [gone_fl (by omega), if_neg (by omega), if_neg (by omega), if_pos rfl, b3]; rfl
    · rw [M, if_neg (by omega), if_pos rfl, b4]
      have e := sI_chg (f := fun k => y_tr y k) (f' := fun k => upd (y_tr y) c (y_tr y c + nI 1) k) (k := c) hc (fun j _ hj => upd_ne hj)
      show t_ts y + nI 1 = sI (fun k => upd (y_tr y) c (y_tr y c + nI 1) k) (y_cn y)
      have e2 : sI (fun k => y_tr y k) (y_cn y) = t_ts y := rfl
      rw [upd_same, e2] at e
      have e4 : t_ts y + (y_tr y c + nI 1) = t_ts y + nI 1 + y_tr y c := by rw [Int32.add_comm (y_tr y c), ← Int32.add_assoc]
      exact (i_cancel (e.trans e4)).symm
    · rw [M, if_pos rfl, b5, (hI.2.2.2.2.2 r hr).2.1]; rfl
    · rw [M, if_neg (by omega), if_neg (by omega), if_neg (by omega)]
      show _ = upd (y_tr y) c (y_tr y c + nI 1) d
      by_cases e : d = c
      · subst e; rw [if_pos rfl, upd_same, b6 d hd]
      · rw [if_neg (by omega), upd_ne e]; exact b6 d hd
    · rw [M, if_neg (by omega), if_neg (by omega)]
      show _ = upd (y_rt y) r (y_rt y r + nI 1) q
      by_cases e : q = r
      · subst e; rw [if_pos rfl, upd_same, b7 q hq]
      · rw [if_neg (by omega), if_neg (by omega), upd_ne e]; exact b7 q hq
  · intro d hd2
    exact hC d hd2
  · intro j hj
    rw [gone_wr (by omega)]
    split
    · exact nF_add (hf.1 _ (by omega)) (wt_nF hy hc hr)
    · split
      · exact nF_add (hf.1 _ (by omega)) (wt_nF hy hc hr)
      · exact hf.1 j hj
  · exact nF_add hf.2 (toll_nF hy hr)
theorem st_go {y : YS} {rs : RS} {v : MS} {x1 x2 : Int32} (hJ : RelJ y (m_g v) (m_fl v)) : Spp y rs v (f_go y rs x1 x2) (F_goes y v x1 x2) := by
  have hJ' := hJ
  obtain ⟨hI, hF, hy, hd, hw, hC, hf⟩ := hJ
  have h4 := hy.2.1
  have hn := hy.1
  have h5 := hy.2.2.1
  unfold f_go F_goes
  by_cases h1 : ¬ p_in x1 (y_cn y) ∨ ¬ p_in x2 (y_rn y)
  · rw [if_pos h1, if_pos h1]; exact Spp_bad (Or.inl rfl)
  rw [if_neg h1, if_neg h1]
  obtain ⟨c, hc, rfl⟩ := p_in_ex (n := y_cn y) (by omega) (Decidable.not_not.mp fun q => h1 (Or.inl q))
  obtain ⟨r, hr, rfl⟩ := p_in_ex (n := y_rn y) (by omega) (Decidable.not_not.mp fun q => h1 (Or.inr q))
  have e1 : (nI c).toNatClampNeg = c := nI_clamp (by omega)
  have e2 : (nI r).toNatClampNeg = r := nI_clamp (by omega)
  simp only [ixI, e1, e2]
  by_cases h2 : t_at y (nI c) (nI 6) = -4
  · rw [if_pos h2, if_pos ((top_oc hy hc).mp h2), oc_pn]; exact Spp_ref (by decide)
  rw [if_neg h2, if_neg (fun q => h2 ((top_oc hy hc).mpr q))]
  by_cases h3 : t_all y (nI c) - y_li y r ≤ 0
  · rw [if_neg (fun q => q ((wi_iff hy _ hr).mpr h3)), ite_nn h3]
    rw [hF.1 _ (wix_lt2 hc), hF.1 _ (wix_lt2 hc)]
    by_cases h6 : p_worn (y_wr y (wix c (nI 0)))
    · rw [if_pos (fun q => (wn_0.mp q).1 h6), if_pos h6, if_pos h6]; exact Spp_ref (by decide)
    · by_cases h7 : p_worn (y_wr y (wix c (nI 1)))
      · rw [if_pos (fun q => (wn_0.mp q).2 h7), if_neg h6, if_neg h6, if_pos h7]; exact Spp_ref (by decide)
      · rw [if_neg (fun q => q (wn_0.mpr ⟨h6, h7⟩)), if_neg h6, if_neg h7, cr_cg (y' := yGone y c r) (y := y) rfl rfl rfl rfl rfl rfl]
        have := t_cr_le y c
        refine Spp_ok (y' := yGone y c r) (g := markG (m_g v) c r) (fl := m_fl (goneM y v c r)) (nI_pos (by omega)) (fun j hj => markG_hi (by omega) (by omega) hj) (fun j hj => ?_) (gone_rel hc hr hJ')
        rw [gone_fl (by omega), if_neg (by omega), if_neg (by omega), if_neg (by omega)]
  · rw [if_pos (fun q => h3 ((wi_iff hy _ hr).mp q)), if_pos h3]; exact Spp_ref (by decide)
theorem st_grease {y : YS} {rs : RS} {v : MS} {x1 : Int32} (hJ : RelJ y (m_g v) (m_fl v)) : Spp y rs v (f_grease y rs x1) (F_grs y v x1) := by
  obtain ⟨hI, hF, hy, hd, hw, hC, hf⟩ := hJ
  have h4 := hy.2.1
  have hn := hy.1
  have h5 := hy.2.2.1
  unfold f_grease F_grs
  by_cases h1 : ¬ p_in x1 (y_cn y)
  · rw [if_pos h1, if_pos h1]; exact Spp_bad (Or.inl rfl)
  rw [if_neg h1, if_neg h1]
  obtain ⟨c, hc, rfl⟩ := p_in_ex (n := y_cn y) (by omega) (Decidable.not_not.mp h1)
  have e1 : (nI c).toNatClampNeg = c := nI_clamp (by omega)
  have ef : ∀ z, m_fl v (wix c z) = y_wr y (wix c z) := fun z => hF.1 _ (wix_lt2 hc)
  have el : ∀ z, (p_le0 (y_wr y (wix c z))) = (p_eq0 (y_wr y (wix c z))) := fun z => propext (le0_eq0 (hf.1 _ (wix_lt (by omega))))
  simp only [ixI, e1, ef, el]
  by_cases h2 : p_eq0 (y_wr y (wix c (nI 0))) ∧ p_eq0 (y_wr y (wix c (nI 1)))
  · rw [if_pos h2, if_pos h2]; exact Spp_ref (by decide)
  rw [if_neg h2, if_neg h2]
  have := t_wn_le y c
  refine Spp_ok (y' := yWr y (vf_upd (vf_upd (y_wr y) (wix c (nI 0)) FP.fconst0) (wix c (nI 1)) FP.fconst0)) (n := nI (t_wn y c)) (nI_pos (by omega)) (fun _ _ => rfl) (fun j hj => ?_) ⟨⟨hI.1, hI.2.1, hI.2.2.1, hI.2.2.2.1, hI.2.2.2.2.1, hI.2.2.2.2.2⟩, ?_, ⟨hy.1, hy.2.1, hy.2.2.1, hy.2.2.2.1, hy.2.2.2.2.1, hy.2.2.2.2.2⟩, hd, hw, fun d h => hC d h, ?_, hf.2⟩
  · rw [fupd_ne (by omega), fupd_ne (by omega)]
  · obtain ⟨b1, b2, b3, b4, b5, b6, b7⟩ := hF
    refine ⟨fun j (hj : j < 2 * y_cn y) => ?_, fun j (hj : 2 * y_cn y ≤ j) h8 => ?_, ?_, b4, b5, b6, b7⟩
    · show vf_upd (vf_upd (m_fl v) (2 * c) FP.fconst0) (2 * c + 1) FP.fconst0 j = vf_upd (vf_upd (y_wr y) (2 * c) FP.fconst0) (2 * c + 1) FP.fconst0 j
      unfold vf_upd
      rw [b1 j hj]
    · rw [fupd_ne (by omega), fupd_ne (by omega)]; exact b2 j hj h8
    · rw [fupd_ne (by omega), fupd_ne (by omega)]; exact b3
  · intro j hj
    show nF (vf_upd (vf_upd (y_wr y) _ FP.fconst0) _ FP.fconst0 j)
    unfold vf_upd
    split
    · exact nF_0
    · split
      · exact nF_0
      · exact hf.1 j hj
/-- how many trips a cart could make: the reference tries, the class adds up -/
theorem goM_trip {y : YS} {c r : Nat} (hy : yI y) (hc : c < y_cn y) (hr : r < y_rn y) (h2 : ¬ t_oc y (nI c) (nI 1) = 0) (h3 : t_all y (nI c) - y_li y r ≤ 0) : ∀ (n : Nat) (s : MS), nF (m_fl s (2 * c)) → nF (m_fl s (2 * c + 1)) → goM y (nI c) (nI r) n s = tripN (t_wt y c r (nI 0)) (t_wt y c r (nI 1)) n (m_fl s (2 * c)) (m_fl s (2 * c + 1))
  | 0, _, _, _ => rfl
  | n + 1, s, n0, n1 => by
    have h4 := hy.2.1
    have h5 := hy.2.2.1
    have e1 : (nI c).toNatClampNeg = c := nI_clamp (by omega)
    have e2 : (nI r).toNatClampNeg = r := nI_clamp (by omega)
    have hp1 : p_in (nI c) (y_cn y) := ⟨nI_pos (by omega), fun q => by rw [nI_leI (by omega) (by omega)] at q; omega⟩
    have hp2 : p_in (nI r) (y_rn y) := ⟨nI_pos (by omega), fun q => by rw [nI_leI (by omega) (by omega)] at q; omega⟩
    have E : F_goes y s (nI c) (nI r) = if p_worn (m_fl s (2 * c)) then (-3, mRef s (nI 10) (nI 0)) else if p_worn (m_fl s (2 * c + 1)) then (-3, mRef s (nI 10) (nI 1)) else (nI (t_cr y c), goneM y s c r) := by
      unfold F_goes
      rw [if_neg (fun q => q.elim (fun q => q hp1) (fun q => q hp2)), if_neg h2]
      simp only [ixI, e1, e2]
      rw [ite_nn h3]
      rfl
    rw [goM, tripN, E]
    by_cases a : p_worn (m_fl s (2 * c))
    · rw [if_pos a, if_neg (by show ¬ ¬ (-3 : Int32) < 0; decide), if_neg (fun q => (lt1_worn n0).mp q.1 a)]
    rw [if_neg a]
    by_cases b : p_worn (m_fl s (2 * c + 1))
    · rw [if_pos b, if_neg (by show ¬ ¬ (-3 : Int32) < 0; decide), if_neg (fun q => (lt1_worn n1).mp q.2 b)]
    rw [if_neg b, if_pos (by have := t_cr_le y c; exact nI_pos (by omega)), if_pos ⟨(lt1_worn n0).mpr a, (lt1_worn n1).mpr b⟩]
    have f0 : m_fl (goneM y s c r) (2 * c) = FP.fadd (m_fl s (2 * c)) (t_wt y c r (nI 0)) := by rw [gone_fl (by omega), if_neg (by omega), if_pos rfl]
    have f1 : m_fl (goneM y s c r) (2 * c + 1) = FP.fadd (m_fl s (2 * c + 1)) (t_wt y c r (nI 1)) := by rw [gone_fl (by omega), if_pos rfl]
    have ih := goM_trip hy hc hr h2 h3 n (goneM y s c r) (by rw [f0]; exact nF_add n0 (wt_nF hy hc hr)) (by rw [f1]; exact nF_add n1 (wt_nF hy hc hr))
    rw [f0, f1] at ih
    rw [ih]
theorem goM_eq {y : YS} {v : MS} {c r : Nat} (hJ : RelJ y (m_g v) (m_fl v)) (hc : c < y_cn y) (hr : r < y_rn y) : goM y (nI c) (nI r) 99 (mTry v) = t_trips y c r := by
  obtain ⟨hI, hF, hy, hd, hw, hC, hf⟩ := hJ
  have h4 := hy.2.1
  have h5 := hy.2.2.1
  have fe : ∀ j, j < 2 * y_cn y → m_fl (mTry v) j = y_wr y j := fun j hj => (cpf_lo (by decide) (by omega)).trans (hF.1 j hj)
  have hp1 : p_in (nI c) (y_cn y) := ⟨nI_pos (by omega), fun q => by rw [nI_leI (by omega) (by omega)] at q; omega⟩
  have hp2 : p_in (nI r) (y_rn y) := ⟨nI_pos (by omega), fun q => by rw [nI_leI (by omega) (by omega)] at q; omega⟩
  have nop : ∀ n : Int32 × MS, n.1 = -3 → n.1 < 0 := fun n e => by rw [e]; decide
  unfold t_trips
  by_cases h2 : t_oc y (nI c) (nI 1) = 0
  · rw [if_pos (Or.inl ((top_oc hy hc).mpr h2))]
    refine goM_e (nop _ ?_)
    unfold F_goes
    rw [if_neg (fun q => q.elim (fun q => q hp1) (fun q => q hp2)), if_pos h2]
  · by_cases h3 : t_all y (nI c) - y_li y r ≤ 0
    · rw [if_neg (fun q => q.elim (fun q => h2 ((top_oc hy hc).mp q)) (fun q => q ((wi_iff hy _ hr).mpr h3)))]
      rw [goM_trip hy hc hr h2 h3 99 (mTry v) (by rw [fe _ (by omega)]; exact hf.1 _ (by omega)) (by rw [fe _ (by omega)]; exact hf.1 _ (by omega)), fe _ (by omega), fe _ (by omega)]
      rfl
    · rw [if_pos (Or.inr (fun q => h3 ((wi_iff hy _ hr).mp q)))]
      refine goM_e (nop _ ?_)
      have e2 : (nI r).toNatClampNeg = r := nI_clamp (by omega)
      unfold F_goes
      rw [if_neg (fun q => q.elim (fun q => q hp1) (fun q => q hp2)), if_neg h2]
      simp only [ixI, e2]
      rw [if_pos h3]
