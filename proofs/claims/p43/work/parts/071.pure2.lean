/-! CLASS AND REFERENCE SIDE BY SIDE: carts and roads come -/
theorem nF_0 : nF FP.fconst0 := by unfold nF; decide
theorem rng_no {w a b : Int32} : ¬ p_rng w a b ↔ (w < a ∨ b < w) := by
  constructor
  · intro h
    by_cases h1 : w < a
    · exact Or.inl h1
    · by_cases h2 : b < w
      · exact Or.inr h2
      · exact absurd ⟨h1, h2⟩ h
  · rintro (h | h) ⟨h1, h2⟩
    · exact h1 h
    · exact h2 h
theorem wo_new {y : YS} (hy : yI y) {c : Nat} (hc : y_cn y ≤ c) (h4 : c ≤ 4) (z : Int32) : t_wo y (nI c) z = nI 0 := by
  unfold t_wo
  refine sI_0 (fun k hk => if_neg (fun q => ?_))
  obtain ⟨-, -, h⟩ := hy.2.2.2.1 k hk
  have := hy.2.1
  rcases h with ⟨e, -⟩ | ⟨c', q', hc', -, e, -⟩
  · rw [q.1] at e; exact nI_ne4 (by omega) e
  · rw [q.1, nI_eq (by omega) (by omega)] at e; omega
def yAddC (y : YS) (st : Int32) : YS := (y_n y, y_kd y, y_w y, y_cu y, y_pl y, y_cn y + 1, upd (y_st y) (y_cn y) st, vf_upd (vf_upd (y_wr y) (wix (y_cn y) (nI 0)) FP.fconst0) (wix (y_cn y) (nI 1)) FP.fconst0, upd (y_tr y) (y_cn y) (nI 0), y_rn y, y_li y, y_mi y, y_ra y, y_rt y, y_tl y, y_mm y)
theorem st_addC {y : YS} {rs : RS} {v : MS} {st : Int32} (hJ : RelJ y (m_g v) (m_fl v)) : Spp y rs v (f_addC y rs st) (F_addC y v st) := by
  obtain ⟨hI, hF, hy, hd, hw, hc, hf⟩ := hJ
  have h4 := hy.2.1
  have hn := hy.1
  have h5 := hy.2.2.1
  unfold f_addC F_addC
  by_cases h1 : p_rng st (nI 1) (nI 60)
  · rw [if_neg (fun q => rng_iff.mp q h1), ite_nn h1]
    by_cases h2 : y_cn y = 4
    · rw [if_neg (show ¬ y_cn y < 4 by omega), if_pos h2]; exact Spp_ref (by decide)
    · rw [if_pos (show y_cn y < 4 by omega), if_neg h2]
      obtain ⟨S, hS, eS⟩ := rng_ex (by decide) (by decide) h1
      have u : ∀ j, j ≠ 1 → j ≠ 53 + 2 * y_cn y → j ≠ 53 + 2 * y_cn y + 1 → upd (upd (upd (m_g v) 1 (nI (y_cn y + 1))) (53 + 2 * y_cn y) st) (53 + 2 * y_cn y + 1) (nI 0) j = m_g v j := fun j a b c => by rw [upd_ne c, upd_ne b, upd_ne a]
      refine Spp_ok (y' := yAddC y st) (nI_pos (by omega)) (fun j hj => u j (by omega) (by omega) (by omega)) (fun _ _ => rfl) ⟨?_, ?_, ?_, hd, hw, ?_, ?_⟩
      · obtain ⟨a1, a2, a3, a4, a5, a6⟩ := hI
        refine ⟨by rw [u 0 (by omega) (by omega) (by omega)]; exact a1, ?_, by rw [u 2 (by omega) (by omega) (by omega)]; exact a3, fun k hk => ?_, fun c (hc : c < y_cn y + 1) => ?_, fun r hr => ?_⟩
        · rw [upd_ne (by omega), upd_ne (by omega), upd_same]; rfl
        · have hk : k < y_n y := hk
          rw [u _ (by omega) (by omega) (by omega), u _ (by omega) (by omega) (by omega), u _ (by omega) (by omega) (by omega), u _ (by omega) (by omega) (by omega)]; exact a4 k hk
        · by_cases e : c = y_cn y
          · subst e; rw [upd_ne (by omega), upd_same]; exact (upd_same _ _ _).symm
          · rw [u _ (by omega) (by omega) (by omega)]
            show _ = upd (y_st y) (y_cn y) st c
            rw [upd_ne e]; exact a5 c (by omega)
        · have hr : r < y_rn y := hr
          rw [u _ (by omega) (by omega) (by omega), u _ (by omega) (by omega) (by omega), u _ (by omega) (by omega) (by omega)]; exact a6 r hr
      · obtain ⟨b1, b2, b3, b4, b5, b6, b7⟩ := hF
        refine ⟨fun j (hj : j < 2 * (y_cn y + 1)) => ?_, fun j (hj : 2 * (y_cn y + 1) ≤ j) h8 => b2 j (by omega) h8, b3, ?_, by rw [u 4 (by omega) (by omega) (by omega)]; exact b5, fun c (hc : c < y_cn y + 1) => ?_, fun r hr => ?_⟩
        · show _ = vf_upd (vf_upd (y_wr y) (2 * y_cn y) FP.fconst0) (2 * y_cn y + 1) FP.fconst0 j
          by_cases e1 : j = 2 * y_cn y + 1
          · rw [e1, fupd_same]; exact b2 _ (by omega) (by omega)
          · rw [fupd_ne e1]
            by_cases e2 : j = 2 * y_cn y
            · rw [e2, fupd_same]; exact b2 _ (by omega) (by omega)
            · rw [fupd_ne e2]; exact b1 j (by omega)
        · rw [u 3 (by omega) (by omega) (by omega), b4]
          show t_ts y = sI (upd (y_tr y) (y_cn y) (nI 0)) (y_cn y + 1)
          have e : sI (upd (y_tr y) (y_cn y) (nI 0)) (y_cn y) = t_ts y := sI_cg (fun k hk => upd_ne (by omega))
          rw [sI, upd_same, e]; exact (Int32.add_zero _).symm
        · show _ = upd (y_tr y) (y_cn y) (nI 0) c
          by_cases e : c = y_cn y
          · subst e; rw [upd_same, upd_same]
          · rw [u _ (by omega) (by omega) (by omega), upd_ne e]; exact b6 c (by omega)
        · have hr : r < y_rn y := hr
          rw [u _ (by omega) (by omega) (by omega)]; exact b7 r hr
      · obtain ⟨-, -, c3, c4, c5, c6⟩ := hy
        refine ⟨hn, by show y_cn y + 1 ≤ 4; omega, c3, fun k hk => ?_, c5, fun c (hc : c < y_cn y + 1) => ?_⟩
        · obtain ⟨d1, d2, d3⟩ := c4 k hk
          exact ⟨d1, d2, d3.imp id (fun ⟨c, q, h1, h⟩ => ⟨c, q, Nat.lt_succ_of_lt h1, h⟩)⟩
        · show ∃ s, 1 ≤ s ∧ s ≤ 60 ∧ upd (y_st y) (y_cn y) st c = nI s
          by_cases e : c = y_cn y
          · subst e; rw [upd_same]; exact ⟨S, hS.1, hS.2, eS⟩
          · rw [upd_ne e]; exact c6 c (by omega)
      · intro c (hcc : c < y_cn y + 1)
        by_cases e : c = y_cn y
        · show t_wo y (nI c) (nI 1) ≤ t_wo y (nI c) (nI 0)
          rw [wo_new hy (by omega) (by omega), wo_new hy (by omega) (by omega)]; exact Int32.le_refl _
        · exact hc c (by omega)
      · refine ⟨fun j hj => ?_, hf.2⟩
        show nF (vf_upd (vf_upd (y_wr y) _ FP.fconst0) _ FP.fconst0 j)
        unfold vf_upd
        split
        · exact nF_0
        · split
          · exact nF_0
          · exact hf.1 j hj
  · rw [if_pos (rng_iff.mpr h1), if_pos h1]; exact Spp_bad (Or.inr rfl)
def yAddR (y : YS) (li mi ra : Int32) : YS := (y_n y, y_kd y, y_w y, y_cu y, y_pl y, y_cn y, y_st y, y_wr y, y_tr y, y_rn y + 1, upd (y_li y) (y_rn y) li, upd (y_mi y) (y_rn y) mi, upd (y_ra y) (y_rn y) ra, upd (y_rt y) (y_rn y) (nI 0), y_tl y, y_mm y)
theorem rng3_iff {a b c : Int32} : (a < nI 1 ∨ nI 99 < a ∨ b < nI 1 ∨ nI 9 < b ∨ c < 0 ∨ ¬ c ≤ nI 9) ↔ (¬ p_rng a (nI 1) (nI 99) ∨ ¬ p_rng b (nI 1) (nI 9) ∨ ¬ p_rng c (nI 0) (nI 9)) := by
  have e : (c < 0 ∨ ¬ c ≤ nI 9) ↔ ¬ p_rng c (nI 0) (nI 9) := rng_iff (a := nI 0)
  rw [← e, rng_no, rng_no, or_assoc, or_assoc]
theorem st_addR {y : YS} {rs : RS} {v : MS} {li mi ra : Int32} (hJ : RelJ y (m_g v) (m_fl v)) : Spp y rs v (f_addR y rs li mi ra) (F_addR y v li mi ra) := by
  obtain ⟨hI, hF, hy, hd, hw, hc, hf⟩ := hJ
  have h4 := hy.2.1
  have hn := hy.1
  have h5 := hy.2.2.1
  unfold f_addR F_addR
  by_cases h1 : ¬ p_rng li (nI 1) (nI 99) ∨ ¬ p_rng mi (nI 1) (nI 9) ∨ ¬ p_rng ra (nI 0) (nI 9)
  · rw [if_pos (rng3_iff.mpr h1), if_pos h1]; exact Spp_bad (Or.inr rfl)
  · rw [if_neg (fun q => h1 (rng3_iff.mp q)), if_neg h1]
    by_cases h2 : y_rn y = 5
    · rw [if_neg (show ¬ y_rn y < 5 by omega), if_pos h2]; exact Spp_ref (by decide)
    · rw [if_pos (show y_rn y < 5 by omega), if_neg h2]
      obtain ⟨A, hA, eA⟩ := rng_ex (by decide) (by decide) (Decidable.not_not.mp fun q => h1 (Or.inl q))
      obtain ⟨B, hB, eB⟩ := rng_ex (by decide) (by decide) (Decidable.not_not.mp fun q => h1 (Or.inr (Or.inl q)))
      obtain ⟨E, hE, eE⟩ := rng_ex (by decide) (by decide) (Decidable.not_not.mp fun q => h1 (Or.inr (Or.inr q)))
      have u : ∀ j, j ≠ 2 → (j < 61 + 4 * y_rn y ∨ 61 + 4 * y_rn y + 4 ≤ j) → upd (upd (upd (upd (upd (m_g v) 2 (nI (y_rn y + 1))) (61 + 4 * y_rn y) li) (61 + 4 * y_rn y + 1) mi) (61 + 4 * y_rn y + 2) ra) (61 + 4 * y_rn y + 3) (nI 0) j = m_g v j := fun j a b => by rw [upd_ne (by omega), upd_ne (by omega), upd_ne (by omega), upd_ne (by omega), upd_ne a]
      refine Spp_ok (y' := yAddR y li mi ra) (nI_pos (by omega)) (fun j hj => u j (by omega) (by omega)) (fun _ _ => rfl) ⟨?_, ?_, ?_, hd, hw, hc, hf⟩
      · obtain ⟨a1, a2, a3, a4, a5, a6⟩ := hI
        refine ⟨by rw [u 0 (by omega) (by omega)]; exact a1, by rw [u 1 (by omega) (by omega)]; exact a2, ?_, fun k hk => ?_, fun c hc => ?_, fun r (hr : r < y_rn y + 1) => ?_⟩
        · rw [upd_ne (by omega), upd_ne (by omega), upd_ne (by omega), upd_ne (by omega), upd_same]; rfl
        · have hk : k < y_n y := hk
          rw [u _ (by omega) (by omega), u _ (by omega) (by omega), u _ (by omega) (by omega), u _ (by omega) (by omega)]; exact a4 k hk
        · have hc : c < y_cn y := hc
          rw [u _ (by omega) (by omega)]; exact a5 c hc
        · show _ = upd (y_li y) (y_rn y) li r ∧ _ = upd (y_mi y) (y_rn y) mi r ∧ _ = upd (y_ra y) (y_rn y) ra r
          by_cases e : r = y_rn y
          · subst e
            rw [upd_same, upd_same, upd_same]
            refine ⟨?_, ?_, ?_⟩
            · rw [upd_ne (by omega), upd_ne (by omega), upd_ne (by omega)]; exact upd_same _ _ _
            · rw [upd_ne (by omega), upd_ne (by omega), upd_same]
            · rw [upd_ne (by omega), upd_same]
          · rw [u _ (by omega) (by omega), u _ (by omega) (by omega), u _ (by omega) (by omega), upd_ne e, upd_ne e, upd_ne e]; exact a6 r (by omega)
      · obtain ⟨b1, b2, b3, b4, b5, b6, b7⟩ := hF
        refine ⟨b1, b2, b3, by rw [u 3 (by omega) (by omega)]; exact b4, by rw [u 4 (by omega) (by omega)]; exact b5, fun c hc => ?_, fun r (hr : r < y_rn y + 1) => ?_⟩
        · have hc : c < y_cn y := hc
          rw [u _ (by omega) (by omega)]; exact b6 c hc
        · show _ = upd (y_rt y) (y_rn y) (nI 0) r
          by_cases e : r = y_rn y
          · subst e; rw [upd_same, upd_same]
          · rw [u _ (by omega) (by omega), upd_ne e]; exact b7 r (by omega)
      · obtain ⟨c1, c2, -, c4, c5, c6⟩ := hy
        refine ⟨hn, c2, by show y_rn y + 1 ≤ 5; omega, c4, fun r (hr : r < y_rn y + 1) => ?_, c6⟩
        show ∃ li' mi' ra', 1 ≤ li' ∧ li' ≤ 99 ∧ 1 ≤ mi' ∧ mi' ≤ 9 ∧ ra' ≤ 9 ∧ upd (y_li y) (y_rn y) li r = nI li' ∧ upd (y_mi y) (y_rn y) mi r = nI mi' ∧ upd (y_ra y) (y_rn y) ra r = nI ra'
        by_cases e : r = y_rn y
        · subst e; rw [upd_same, upd_same, upd_same]; exact ⟨A, B, E, hA.1, hA.2, hB.1, hB.2, hE.2, eA, eB, eE⟩
        · rw [upd_ne e, upd_ne e, upd_ne e]; exact c5 r (by omega)
