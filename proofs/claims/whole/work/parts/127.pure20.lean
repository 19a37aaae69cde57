/-! CLASS AND REFERENCE: undo, saving, clearing, the input, the line, the reasons -/
section RLS
variable {y : YS} {rs : RS} {iv : IS} {sy : YS} {xv : Int32 × Int32} {tx : List Nat} {h : HS} {v : MS}
theorem RL_J (hL : LQ y rs iv sy xv tx h v) : RelJ y (m_g v) (m_fl v) := hL.1
theorem RL_undo (hL : LQ y rs iv sy xv tx h v) : (F_back y h).1 = (F_undo v).1 ∧ LQ (F_back y h).2.1 rs iv sy xv tx (F_back y h).2.2 (F_undo v).2 := by
  have hL0 := hL
  obtain ⟨hJ, ⟨a1, a2, a3, a4⟩, hS, hR⟩ := hL
  by_cases c : m_ch v = 0
  · have e1 : F_back y h = (-4, y, h) := by unfold F_back; rw [if_pos (by rw [a2]; exact c)]
    have e2 : F_undo v = (-4, v) := by unfold F_undo; rw [if_pos c]
    rw [e1, e2]
    exact ⟨rfl, hL0⟩
  · have e1 : F_back y h = (nI (h.2.1 - 1), h.2.2 (bk h.1), (bk h.1, h.2.1 - 1, h.2.2)) := by unfold F_back; rw [if_neg (by rw [a2]; exact c)]
    have e2 : F_undo v = (nI (m_ch v - 1), mGFC v (cpb (m_g v) 81 (m_ch v) 0 81) (cpf (m_fl v) 9 (m_ch v) 0 9) (m_ch v - 1)) := by unfold F_undo; rw [if_neg c]
    have eb : bk h.1 = ri h.1 0 := by unfold bk ri; split <;> omega
    have hb0 := a4 0 (by omega)
    rw [Nat.sub_zero] at hb0
    rw [e1, e2]
    refine ⟨by rw [a2], ?_, ⟨?_, by show h.2.1 - 1 = _; rw [a2], by show m_ch v - 1 ≤ 8; omega, fun i (hi : i < m_ch v - 1) => ?_⟩, fun q => BJ_ne (by decide) (hS q), hR⟩
    · show RelJ (h.2.2 (bk h.1)) (cpb (m_g v) 81 (m_ch v) 0 81) (cpf (m_fl v) 9 (m_ch v) 0 9)
      rw [eb]
      exact BJ_0.mp (BJ_to hb0)
    · show bk h.1 ≤ 8
      unfold bk; split <;> omega
    · show BJ (h.2.2 (ri (bk h.1) i)) (cpb (m_g v) 81 (m_ch v) 0 81) (cpf (m_fl v) 9 (m_ch v) 0 9) (m_ch v - 1 - i)
      have e : ri (bk h.1) i = ri h.1 (i + 1) := by unfold bk ri; split <;> omega
      have hbi := a4 (i + 1) (by omega)
      rw [e, show m_ch v - 1 - i = m_ch v - (i + 1) by omega]
      exact BJ_ne (by omega) hbi
theorem RL_rest (hL : LQ y rs iv sy xv tx h v) : (F_resC y sy xv.1 h).1 = (F_rest v).1 ∧ LQ (F_resC y sy xv.1 h).2.1 rs iv sy xv tx (F_resC y sy xv.1 h).2.2 (F_rest v).2 := by
  have hL0 := hL
  obtain ⟨hJ, ⟨a1, a2, a3, a4⟩, hS, hR, hN, hx, hX⟩ := hL
  by_cases c : m_sv v = 0
  · have e1 : F_resC y sy xv.1 h = (-4, y, h) := by unfold F_resC; rw [hx, if_pos c]
    have e2 : F_rest v = (-4, v) := by unfold F_rest; rw [if_pos c]
    rw [e1, e2]
    exact ⟨rfl, hL0⟩
  · have e1 : F_resC y sy xv.1 h = (nI (y_n sy), sy, (h.1, 0, h.2.2)) := by unfold F_resC; rw [hx, if_neg c]
    have e2 : F_rest v = (cpb (m_g v) 81 9 0 81 0, mGFC v (cpb (m_g v) 81 9 0 81) (cpf (m_fl v) 9 9 0 9) 0) := by unfold F_rest; rw [if_neg c]
    have hb : RelJ sy (cpb (m_g v) 81 9 0 81) (cpf (m_fl v) 9 9 0 9) := BJ_0.mp (BJ_to (hS c))
    rw [e1, e2]
    exact ⟨hb.1.1.symm, hb, ⟨a1, rfl, Nat.zero_le _, fun i hi => absurd hi (Nat.not_lt_zero i)⟩, fun q => BJ_ne (by decide) (hS q), hR, hN, hx, hX⟩
abbrev mSav (v : MS) : MS := ((cpb (m_g v) 81 0 9 81), (cpf (m_fl v) 9 0 9 9), m_ch v, nI 1, m_why v, m_det v, m_li v, m_ld v, m_wt v, m_wm v, m_ln v, m_lz v, m_in v, m_ty v, m_he v, m_wa v, m_fa v, m_cm v, m_cz v)
theorem RL_save (hL : LQ y rs iv sy xv tx h v) : nI (y_n y) = cpb (m_g v) 81 0 9 81 0 ∧ LQ y rs iv y (nI 1, xv.2) tx h (mSav v) := by
  obtain ⟨hJ, hH, hS, hR, hN, hx, hX⟩ := hL
  have hb : RelJ y (cpb (m_g v) 81 0 9 81) (cpf (m_fl v) 9 0 9 9) := BJ_0.mp (BJ_ne (by decide) (BJ_0.mpr hJ))
  exact ⟨hb.1.1.symm, hb, RelH_cp (Or.inr (by decide)) hH, fun _ => BJ_to (BJ_0.mpr hJ), hR, hN, rfl, hX⟩
abbrev yClr (y : YS) : YS := (0, y_kd y, y_w y, y_cu y, y_pl y, 0, y_st y, y_wr y, y_tr y, 0, y_li y, y_mi y, y_ra y, y_rt y, FP.fconst0, nI 0)
abbrev mClr (v : MS) : MS := ((zrb (m_g v) 81), (zrf (m_fl v) 9), 0, m_sv v, m_why v, m_det v, m_li v, m_ld v, m_wt v, m_wm v, m_ln v, m_lz v, m_in v, m_ty v, m_he v, m_wa v, m_fa v, m_cm v, m_cz v)
theorem RL_clear (hL : LQ y rs iv sy xv tx h v) : nI (y_n y) = m_g v 0 ∧ LQ (yClr y) rs iv sy xv tx (h.1, 0, h.2.2) (mClr v) := by
  obtain ⟨hJ, ⟨a1, a2, a3, a4⟩, hS, hR, hN, hx, hX⟩ := hL
  have z : ∀ j, j < 81 → zrb (m_g v) 81 j = nI 0 := fun j hj => if_pos hj
  have zf : ∀ j, j < 9 → zrf (m_fl v) 9 j = FP.fconst0 := fun j hj => if_pos hj
  refine ⟨hJ.1.1.symm, ⟨⟨z 0 (by decide), z 1 (by decide), z 2 (by decide), fun k hk => absurd hk (Nat.not_lt_zero k), fun k hk => absurd hk (Nat.not_lt_zero k), fun k hk => absurd hk (Nat.not_lt_zero k)⟩, ⟨fun k hk => absurd hk (Nat.not_lt_zero k), fun j _ hj => zf j (by omega), zf 8 (by decide), z 3 (by decide), z 4 (by decide), fun k hk => absurd hk (Nat.not_lt_zero k), fun k hk => absurd hk (Nat.not_lt_zero k)⟩, ?_⟩, ⟨a1, rfl, Nat.zero_le _, fun i hi => absurd hi (Nat.not_lt_zero i)⟩, fun q => BJ_hi (by decide) (fun j hj => if_neg (by omega)) (fun j hj => if_neg (by omega)) (hS q), hR, hN, hx, hX⟩
  obtain ⟨-, -, -, -, -, -, hF⟩ := hJ
  exact ⟨⟨Nat.zero_le _, Nat.zero_le _, Nat.zero_le _, fun k hk => absurd hk (Nat.not_lt_zero k), fun k hk => absurd hk (Nat.not_lt_zero k), fun k hk => absurd hk (Nat.not_lt_zero k)⟩, fun j k _ hk => absurd hk (Nat.not_lt_zero k), fun k hk => absurd hk (Nat.not_lt_zero k), fun k hk => absurd hk (Nat.not_lt_zero k), ⟨hF.1, nF_0⟩⟩
theorem RL_app (hL : LQ y rs iv sy xv tx h v) (x : Int32) : (F_iadd iv x).1 = (F_app v x).1 ∧ LQ y rs (F_iadd iv x).2 sy xv tx h (F_app v x).2 := by
  have hL0 := hL
  obtain ⟨hJ, hH, hS, hR, ⟨n1, n2, n3, n4⟩, hX⟩ := hL
  by_cases c : ¬ p_rng x (nI 32) (nI 126) ∨ m_ty v = 60
  · have e2 : F_app v x = (-2, v) := by unfold F_app; rw [if_pos c]
    have e1 : F_iadd iv x = (-2, iv) := by
      unfold F_iadd
      rw [if_pos ?_]
      rw [n2]
      rcases c with c | c
      · by_cases q : x < nI 32
        · exact Or.inl q
        · by_cases q2 : nI 126 < x
          · exact Or.inr (Or.inl q2)
          · exact absurd ⟨q, q2⟩ c
      · exact Or.inr (Or.inr (by omega))
    rw [e1, e2]
    exact ⟨rfl, hL0⟩
  · have e2 : F_app v x = (nI (m_ty v + 1), mIn v (upd (m_in v) (m_ty v) x) (m_ty v + 1)) := by unfold F_app; rw [if_neg c]
    have cr : p_rng x (nI 32) (nI 126) := Decidable.not_not.mp (fun q => c (Or.inl q))
    have cn : ¬ m_ty v = 60 := fun q => c (Or.inr q)
    have e1 : F_iadd iv x = (nI (i_n iv + 1), (upd (i_sg iv) (i_n iv) x, i_n iv + 1, i_cm iv, i_nu iv, i_st iv)) := by
      unfold F_iadd
      rw [if_neg ?_]
      rw [n2]
      rintro (q | q | q)
      · exact cr.1 q
      · exact cr.2 q
      · omega
    rw [e1, e2]
    exact ⟨by rw [n2], hJ, hH, hS, hR, ⟨by show upd (i_sg iv) (i_n iv) x = upd (m_in v) (m_ty v) x; rw [n1, n2], by show i_n iv + 1 = m_ty v + 1; rw [n2], by show m_ty v + 1 ≤ 60; omega, n4⟩, hX⟩
theorem RL_rsn (hL : LQ y rs iv sy xv tx h v) (d z : Int32) : a_rsC rs d z = a_rsn (m_why v) (m_det v) (m_li v) (m_ld v) d z := by
  obtain ⟨-, -, -, ⟨r1, r2⟩, -⟩ := hL
  unfold a_rsC a_rsn
  by_cases d0 : d = 0
  · have hr : p_rng d (nI 0) (nI 1) := by rw [d0]; decide
    rw [if_pos d0, ite_nn hr, if_pos d0]
    rcases r1 with ⟨w, e1, e2⟩ | ⟨w, e1, e2⟩
    · rw [if_pos w, e1, e2]; split <;> rfl
    · rw [if_neg w, e1, e2]
  · rw [if_neg d0]
    by_cases d1 : d = nI 1
    · have hr : p_rng d (nI 0) (nI 1) := by rw [d1]; decide
      rw [if_pos d1, ite_nn hr, if_neg d0]
      rcases r2 with ⟨w, e1, e2⟩ | ⟨w, e1, e2⟩
      · rw [if_pos w, e1, e2]; split <;> rfl
      · rw [if_neg w, e1, e2]
    · rw [if_neg d1, if_pos (fun q => ?_)]
      obtain ⟨j, ⟨-, hj⟩, e⟩ := rng_ex (by decide) (by decide) q
      rcases (show j = 0 ∨ j = 1 by omega) with rfl | rfl
      · exact d0 (e.trans (by decide))
      · exact d1 e
theorem wrL_le (y : YS) (c : Nat) : (wrL y c).length ≤ 60 := by
  have h1 := wrT_le y c 6
  have h2 := thL_le (t_at y (nI c) (nI 6))
  unfold wrL
  rw [List.length_append, List.length_cons]
  split
  · rw [List.length_nil]; omega
  · rw [List.length_cons]; omega
theorem RelT_put {L : List Nat} (hl : L.length ≤ 60) : RelT L (apL (mLn v (m_ln v) 0) L) :=
  ⟨Nat.zero_add _, hl, fun j hj => by
    show apA (m_ln v) 0 L j = nI (L.getD j 0)
    unfold apA
    rw [if_pos ⟨Nat.zero_le _, by omega⟩, Nat.sub_zero]⟩
theorem LQ_put {L : List Nat} (hl : L.length ≤ 60) (hL : LQ y rs iv sy xv tx h v) : LQ y rs iv sy xv L h (apL (mLn v (m_ln v) 0) L) := by
  obtain ⟨hJ, hH, hS, hR, hN, h1, h2, hT⟩ := hL
  exact ⟨hJ, hH, hS, hR, hN, h1, h2, RelT_put hl⟩
theorem RL_wr (hL : LQ y rs iv sy xv tx h v) (x : Int32) : (if p_in x (y_cn y) then nI (wrL y (ixI x)).length else -1) = (F_write y v x).1 ∧ LQ y rs iv sy xv (if p_in x (y_cn y) then wrL y (ixI x) else tx) h (F_write y v x).2 := by
  by_cases c : p_in x (y_cn y)
  · have e : F_write y v x = (nI (wrL y (ixI x)).length, apL (mLn v (m_ln v) 0) (wrL y (ixI x))) := by unfold F_write; rw [if_neg (fun q => q c)]
    rw [e, if_pos c, if_pos c]
    exact ⟨rfl, LQ_put (wrL_le y _) hL⟩
  · have e : F_write y v x = (-1, v) := by unfold F_write; rw [if_pos c]
    rw [e, if_neg c, if_neg c]
    exact ⟨rfl, hL⟩
theorem RL_wrds (hL : LQ y rs iv sy xv tx h v) : nI (rdT y (y_rn y)).length = (F_wrds y v).1 ∧ LQ y rs iv sy xv (rdT y (y_rn y)) h (F_wrds y v).2 := by
  have h3 := rdT_le y (y_rn y)
  have h5 := hL.1.2.2.1.2.2.1
  exact ⟨rfl, LQ_put (by omega) hL⟩
theorem RL_wtn (hL : LQ y rs iv sy xv tx h v) (x : Int32) : a_wtC tx x = a_wtn (m_ln v) (m_lz v) x := by
  obtain ⟨-, -, -, -, -, -, -, t1, t2, t3⟩ := hL
  unfold a_wtC a_wtn
  rw [t1]
  by_cases c : p_in x tx.length
  · rw [if_pos c, if_pos c]
    obtain ⟨j, hj, rfl⟩ := p_in_ex (by omega) c
    rw [show ixI (nI j) = j from nI_clamp (by omega), t3 j hj]
  · rw [if_neg c, if_neg c]
theorem RL_cou (hL : LQ y rs iv sy xv tx h v) (x1 x2 : Int32) : a_couC y x1 x2 = (F_could y v x1 x2).1 ∧ LQ y rs iv sy xv tx h (F_could y v x1 x2).2 := by
  have hL0 := hL
  obtain ⟨hJ, hH, hS, hR⟩ := hL
  have h4 := hJ.2.2.1.2.1
  have h5 := hJ.2.2.1.2.2.1
  unfold a_couC F_could
  by_cases c : ¬ p_in x1 (y_cn y) ∨ ¬ p_in x2 (y_rn y)
  · rw [if_pos c, if_pos c]; exact ⟨rfl, hL0⟩
  · rw [if_neg c, if_neg c]
    obtain ⟨a, ha, rfl⟩ := p_in_ex (by omega) (Decidable.not_not.mp (fun q => c (Or.inl q)))
    obtain ⟨b, hb, rfl⟩ := p_in_ex (by omega) (Decidable.not_not.mp (fun q => c (Or.inr q)))
    refine ⟨?_, BJ_0.mp (BJ_ne (by decide) (BJ_0.mpr hJ)), RelH_cp (Or.inr (by decide)) hH, fun q => BJ_ne (by decide) (hS q), hR⟩
    show nI (t_trips y (ixI (nI a)) (ixI (nI b))) = nI (goM y (nI a) (nI b) 99 (mTry v))
    rw [show ixI (nI a) = a from nI_clamp (by omega), show ixI (nI b) = b from nI_clamp (by omega), goM_eq hJ ha hb]
theorem RL_chp (hL : LQ y rs iv sy xv tx h v) (x : Int32) : a_chC y x = a_chM y x := by
  have hy := hL.1.2.2.1
  have h4 := hy.2.1
  unfold a_chC a_chM
  by_cases c : p_in x (y_cn y)
  · rw [if_pos c, if_neg (fun q => q c)]
    obtain ⟨a, ha, rfl⟩ := p_in_ex (by omega) c
    rw [show ixI (nI a) = a from nI_clamp (by omega)]
    exact t_ch_eq hy ha
  · rw [if_neg c, if_pos c]
theorem cN_cg2 {P Q : Nat → Bool} : ∀ n, (∀ k, k < n → P k = Q k) → cN P n = cN Q n
  | 0, _ => rfl
  | n + 1, h => by
    show cN P n + (if P n = true then 1 else 0) = cN Q n + (if Q n = true then 1 else 0)
    rw [cN_cg2 n (fun k hk => h k (by omega)), h n (Nat.lt_succ_self n)]
theorem fst_cg2 {P Q : Nat → Bool} : ∀ n, (∀ k, k < n → P k = Q k) → fst P n = fst Q n
  | 0, _ => rfl
  | n + 1, h => by
    unfold fst
    rw [fst_cg2 n (fun k hk => h k (by omega)), h n (Nat.lt_succ_self n)]
theorem ordI_cg {P Q : Nat → Nat → Bool} {n : Nat} (x : Int32) (h : ∀ j k, j < n → k < n → P j k = Q j k) : ordI P n x = ordI Q n x := by
  have e : fst (fun k => decide (nI (cN (fun j => P j k) n) = x)) n = fst (fun k => decide (nI (cN (fun j => Q j k) n) = x)) n :=
    fst_cg2 n (fun k hk => by
      show decide (nI (cN (fun j => P j k) n) = x) = decide (nI (cN (fun j => Q j k) n) = x)
      rw [cN_cg2 (P := fun j => P j k) (Q := fun j => Q j k) n (fun j hj => h j k hj hk)])
  unfold ordI
  rw [e]
theorem RL_hea (hL : LQ y rs iv sy xv tx h v) (x : Int32) : ordI (fun j k => decide (pcT y j k)) (y_n y) x = ordI (fun j k => decide (pmT y j k)) (y_n y) x :=
  ordI_cg x (fun j k hj hk => decide_eq_decide.mpr (pcT_iff hL.1.2.2.1 hj hk))
theorem RL_ful (hL : LQ y rs iv sy xv tx h v) (x : Int32) : ordI (fun j k => decide (pcC y j k)) (y_cn y) x = ordI (fun j k => decide (pmC y j k)) (y_cn y) x :=
  ordI_cg x (fun j k hj hk => decide_eq_decide.mpr (pcC_iff hL.1.2.2.1 hj hk))
theorem RL_teg (hL : LQ y rs iv sy xv tx h v) (x z : Int32) (hz : z = nI 0 ∨ z = nI 1) : a_tenG y x z = a_ten y x z := by
  have hy := hL.1.2.2.1
  have h4 := hy.2.1
  unfold a_tenG a_ten
  by_cases c : p_in x (y_cn y)
  · rw [if_pos c, if_pos c]
    obtain ⟨a, ha, rfl⟩ := p_in_ex (by omega) c
    rcases hz with rfl | rfl
    · exact to_te0 hy ha
    · exact to_te1 hy ha
  · rw [if_neg c, if_neg c]
theorem RL_acc (hL : LQ y rs iv sy xv tx h v) (x : Int32) : a_acc y (i_n iv) h.2.1 x = a_acc y (m_ty v) (m_ch v) x := by
  obtain ⟨-, hH, -, -, hN, -⟩ := hL
  rw [hN.2.1, hH.2.1]
end RLS
