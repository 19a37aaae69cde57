/-! CLASS AND REFERENCE SIDE BY SIDE: what floats, numbers and rows have to do with each other -/
theorem ite_nn {P : Prop} [Decidable P] {α : Type} (h : P) {a b : α} : (if ¬ P then a else b) = b := if_neg (fun q => q h)
theorem upd_same (f : Nat → Int32) (i : Nat) (x : Int32) : upd f i x i = x := by unfold upd; rw [if_pos rfl]
theorem upd_ne {f : Nat → Int32} {i j : Nat} {x : Int32} (h : j ≠ i) : upd f i x j = f j := by unfold upd; rw [if_neg h]
theorem fupd_same (f : Nat → UInt32) (i : Nat) (x : UInt32) : vf_upd f i x i = x := by unfold vf_upd; rw [if_pos rfl]
theorem fupd_ne {f : Nat → UInt32} {i j : Nat} {x : UInt32} (h : j ≠ i) : vf_upd f i x j = f j := by unfold vf_upd; rw [if_neg h]
theorem fcmp_ex {x y : UInt32} (hx : nF x) (hy : nF y) : ∃ o, FP.fcmp x y = some o := by
  have e : FP.fcmp x y = FP.Core.order (FP.Core.decode FP.Core.b32 x.toNat) (FP.Core.decode FP.Core.b32 y.toNat) := rfl
  rw [e]
  rcases dec32 hx with ⟨-, h⟩ | ⟨-, c, q, h, -⟩ <;> rcases dec32 hy with ⟨-, h2⟩ | ⟨-, c2, q2, h2, -⟩ <;> rw [h, h2] <;> exact ⟨_, rfl⟩
theorem cmpV_gl {o : Ordering} (a b : CmpOp) : Op.cmpValue (some o) a = Op.cmpValue (some o) b := by cases o <;> rfl
theorem lt1_worn {x : UInt32} (hx : nF x) : p_lt1 x ↔ ¬ p_worn x := by
  obtain ⟨o, e⟩ := fcmp_ex hx (show nF FP.fconst1 by unfold nF; decide)
  show ¬ 0 ≤ Op.cmpValue (FP.fcmp x FP.fconst1) CmpOp.g ↔ ¬ ¬ Op.cmpValue (FP.fcmp x FP.fconst1) CmpOp.l < 0
  rw [e]
  cases o <;> decide
theorem fcmp_ge0 {x : UInt32} (hx : nF x) : FP.fcmp x FP.fconst0 = some .gt ∨ FP.fcmp x FP.fconst0 = some .eq := by
  have e : FP.fcmp x FP.fconst0 = FP.Core.order (FP.Core.decode FP.Core.b32 x.toNat) (FP.Core.decode FP.Core.b32 0) := rfl
  have e0 : FP.Core.decode FP.Core.b32 0 = .fin false 0 (-149) := rfl
  rw [e, e0]
  rcases dec32 hx with ⟨-, h⟩ | ⟨-, c, q, h, -⟩
  · rw [h]; exact Or.inl rfl
  · rw [h]
    show some (compare ((FP.Core.inUnits c q (min q (-149)) : Nat) : Int) ((FP.Core.inUnits 0 (-149) (min q (-149)) : Nat) : Int)) = _ ∨ some (compare ((FP.Core.inUnits c q (min q (-149)) : Nat) : Int) ((FP.Core.inUnits 0 (-149) (min q (-149)) : Nat) : Int)) = _
    have z : FP.Core.inUnits 0 (-149) (min q (-149)) = 0 := by unfold FP.Core.inUnits; rw [Nat.zero_mul]
    rw [z]
    generalize FP.Core.inUnits c q (min q (-149)) = m
    by_cases hm : m = 0
    · subst hm; exact Or.inr rfl
    · left
      have : compare (m : Int) ((0 : Nat) : Int) = .gt := by
        unfold compare instOrdInt compareOfLessAndEq
        dsimp only
        rw [if_neg (by omega), if_neg (by omega)]
      rw [this]
theorem le0_eq0 {x : UInt32} (hx : nF x) : p_le0 x ↔ p_eq0 x := by
  show ¬ 0 < Op.cmpValue (FP.fcmp x FP.fconst0) CmpOp.g ↔ Op.cmpValue (FP.fcmp x FP.fconst0) CmpOp.l = 0
  rcases fcmp_ge0 hx with e | e <;> rw [e] <;> decide
theorem rng_iff {w a b : Int32} : (w < a ∨ ¬ w ≤ b) ↔ ¬ p_rng w a b := by
  constructor
  · rintro (h | h) ⟨h1, h2⟩
    · exact h1 h
    · exact h (Int32.not_lt.mp h2)
  · intro h
    by_cases h1 : w < a
    · exact Or.inl h1
    · exact Or.inr (fun q => h ⟨h1, Int32.not_lt.mpr q⟩)
theorem lt_gt {a b : Int32} : a < b ↔ ¬ b ≤ a := Int32.not_le.symm
/-- what always holds of how things lie: no two at a place; premises weigh 9 at most; no conclusion outweighs its premises -/
def yD (y : YS) : Prop := ∀ j k, j < k → k < y_n y → y_cu y j = y_cu y k → ¬ y_cu y k = -4 → ¬ y_pl y j = y_pl y k
def yW (y : YS) : Prop := ∀ k, k < y_n y → y_kd y k = nI 0 → ∃ w, w ≤ 9 ∧ y_w y k = nI w
def yC (y : YS) : Prop := ∀ c, c < y_cn y → t_wo y (nI c) (nI 1) ≤ t_wo y (nI c) (nI 0)
/-- the reference's row of floats -/
def RelF (y : YS) (g : Nat → Int32) (fl : Nat → UInt32) : Prop :=
  (∀ j, j < 2 * y_cn y → fl j = y_wr y j) ∧ (∀ j, 2 * y_cn y ≤ j → j < 8 → fl j = FP.fconst0) ∧ fl 8 = y_tl y ∧ g 3 = t_ts y ∧ g 4 = y_mm y ∧ (∀ c, c < y_cn y → g (53 + 2 * c + 1) = y_tr y c) ∧ (∀ r, r < y_rn y → g (61 + 4 * r + 3) = y_rt y r)
def yA (y : YS) : Prop := yI y ∧ yD y ∧ yW y ∧ yC y ∧ yF y
def RelJ (y : YS) (g : Nat → Int32) (fl : Nat → UInt32) : Prop := RelI y g ∧ RelF y g fl ∧ yA y
theorem RelJ.nf {y : YS} {g : Nat → Int32} {fl : Nat → UInt32} (h : RelJ y g fl) : ∀ j, j < 9 → nF (fl j) := by
  obtain ⟨-, ⟨h1, h2, h3, -⟩, -, -, -, -, hf, ht⟩ := h
  intro j hj
  by_cases a : j < 2 * y_cn y
  · rw [h1 j a]
    by_cases b : j < 8
    · exact hf j b
    · have e : j = 8 := by omega
      have := h1 j a
      subst e
      rw [← this, h3]; exact ht
  · by_cases b : j < 8
    · rw [h2 j (by omega) b]; unfold nF; decide
    · have e : j = 8 := by omega
      subst e; rw [h3]; exact ht
/-- one command: the class's answer and yard, and the reference's -/
def Spp (y : YS) (rs : RS) (v : MS) (a : Int32 × YS × RS) (b : Int32 × MS) : Prop :=
  a.1 = b.1 ∧ ((a.1 = -3 ∧ ∃ x d : Int32, ¬ x = 0 ∧ a.2 = (y, rsOf x d) ∧ b.2 = mRef v x d) ∨ ((a.1 = -1 ∨ a.1 = -2) ∧ a.2 = (y, rs) ∧ b.2 = v) ∨ (¬ a.1 < 0 ∧ a.2.2 = rs ∧ ∃ g fl, b.2 = mGF v g fl ∧ (∀ j, 81 ≤ j → g j = m_g v j) ∧ (∀ j, 9 ≤ j → fl j = m_fl v j) ∧ RelJ a.2.1 g fl))
theorem Spp_bad {y : YS} {rs : RS} {v : MS} {n : Int32} (h : n = -1 ∨ n = -2) : Spp y rs v (n, y, rs) (n, v) := ⟨rfl, Or.inr (Or.inl ⟨h, rfl, rfl⟩)⟩
theorem Spp_ref {y : YS} {rs : RS} {v : MS} {x d : Int32} (h : ¬ x = 0) : Spp y rs v (-3, y, rsOf x d) (-3, mRef v x d) := ⟨rfl, Or.inl ⟨rfl, x, d, h, rfl, rfl⟩⟩
theorem Spp_ok {y y' : YS} {rs : RS} {v : MS} {n : Int32} {g : Nat → Int32} {fl : Nat → UInt32} (hn : ¬ n < 0) (hg : ∀ j, 81 ≤ j → g j = m_g v j) (hf : ∀ j, 9 ≤ j → fl j = m_fl v j) (h : RelJ y' g fl) : Spp y rs v (n, y', rs) (n, mGF v g fl) := ⟨rfl, Or.inr (Or.inr ⟨hn, rfl, g, fl, rfl, hg, hf, h⟩)⟩
theorem wo_cg {y y' : YS} {x z : Int32} (hn : y_n y' = y_n y) (h : ∀ k, k < y_n y → y_cu y' k = y_cu y k ∧ y_kd y' k = y_kd y k ∧ y_w y' k = y_w y k) : t_wo y' x z = t_wo y x z := by
  unfold t_wo
  rw [hn]
  exact sI_cg (fun k hk => by obtain ⟨h1, h2, h3⟩ := h k hk; rw [h1, h2, h3])
theorem sI_0 {f : Nat → Int32} : ∀ {n : Nat}, (∀ k, k < n → f k = 0) → sI f n = nI 0
  | 0, _ => rfl
  | n + 1, h => by rw [sI, sI_0 (fun k hk => h k (by omega)), h n (Nat.lt_succ_self n)]; rfl
def yAddT (y : YS) (kd w : Int32) : YS := (y_n y + 1, upd (y_kd y) (y_n y) kd, upd (y_w y) (y_n y) w, upd (y_cu y) (y_n y) (-4), upd (y_pl y) (y_n y) (-4), y_cn y, y_st y, y_wr y, y_tr y, y_rn y, y_li y, y_mi y, y_ra y, y_rt y, y_tl y, y_mm y)
theorem st_addT {y : YS} {rs : RS} {v : MS} {kd mx w : Int32} (hk : (kd = nI 0 ∧ mx = nI 9) ∨ (kd = nI 1 ∧ mx = nI 54)) (hJ : RelJ y (m_g v) (m_fl v)) : Spp y rs v (f_addT y rs kd w mx) (F_adds y v kd w) := by
  have hm : (if kd = nI 1 then nI 54 else nI 9) = mx := by
    rcases hk with ⟨e1, e2⟩ | ⟨e1, e2⟩ <;> rw [e1, e2] <;> decide
  obtain ⟨hI, hF, hy, hd, hw, hc, hf⟩ := hJ
  have hn := hy.1
  unfold f_addT F_adds
  rw [hm]
  by_cases h1 : p_rng w (nI 1) mx
  · rw [if_neg (fun q => rng_iff.mp q h1), ite_nn h1]
    by_cases h2 : y_n y = 12
    · rw [if_neg (show ¬ y_n y < 12 by omega), if_pos h2]; exact Spp_ref (by decide)
    · rw [if_pos (show y_n y < 12 by omega), if_neg h2]
      have hn2 : y_n y ≤ 11 := by omega
      obtain ⟨W, hW, eW⟩ : ∃ W, (1 ≤ W ∧ W ≤ 54 ∧ (kd = nI 0 → W ≤ 9)) ∧ w = nI W := by
        rcases hk with ⟨e1, e2⟩ | ⟨e1, e2⟩
        · rw [e2] at h1; obtain ⟨j, hj, e⟩ := rng_ex (by decide) (by decide) h1; exact ⟨j, ⟨hj.1, by omega, fun _ => hj.2⟩, e⟩
        · rw [e2] at h1; obtain ⟨j, hj, e⟩ := rng_ex (by decide) (by decide) h1; exact ⟨j, ⟨hj.1, hj.2, fun q => absurd (e1.symm.trans q) (by decide)⟩, e⟩
      have hkd : kd = nI 0 ∨ kd = nI 1 := hk.imp And.left And.left
      have G : ∀ j, upd (upd (zr4 (upd (m_g v) 0 (nI (y_n y + 1))) (5 + 4 * y_n y) 4) (5 + 4 * y_n y + 0) kd) (5 + 4 * y_n y + 1) w j = if j = 5 + 4 * y_n y + 1 then w else if j = 5 + 4 * y_n y then kd else if 5 + 4 * y_n y ≤ j ∧ j < 5 + 4 * y_n y + 4 then nI 0 else if j = 0 then nI (y_n y + 1) else m_g v j := by
        intro j; unfold upd zr4; rfl
      have u : ∀ j, j ≠ 0 → (j < 5 + 4 * y_n y ∨ 5 + 4 * y_n y + 4 ≤ j) → upd (upd (zr4 (upd (m_g v) 0 (nI (y_n y + 1))) (5 + 4 * y_n y) 4) (5 + 4 * y_n y + 0) kd) (5 + 4 * y_n y + 1) w j = m_g v j := by
        intro j h0 hj; rw [G, if_neg (by omega), if_neg (by omega), if_neg (by omega), if_neg h0]
      refine Spp_ok (y' := yAddT y kd w) (nI_pos (by omega)) (fun j hj => u j (by omega) (by omega)) (fun _ _ => rfl) ⟨?_, ?_, ?_, ?_, ?_, ?_, ?_⟩
      · obtain ⟨a1, a2, a3, a4, a5, a6⟩ := hI
        refine ⟨?_, by rw [u 1 (by omega) (by omega)]; exact a2, by rw [u 2 (by omega) (by omega)]; exact a3, fun k (hk : k < y_n y + 1) => ?_, fun c hc => by rw [u _ (by omega) (by omega)]; exact a5 c hc, fun r hr => ?_⟩
        · rw [G, if_neg (by omega), if_neg (by omega), if_neg (by omega), if_pos rfl]; rfl
        · by_cases e : k = y_n y
          · subst e
            refine ⟨?_, ?_, Or.inl ⟨upd_same _ _ _, upd_same _ _ _, ?_, ?_⟩⟩
            · rw [G, if_neg (by omega)]; exact (if_pos rfl).trans (upd_same _ _ _).symm
            · rw [G]; exact (if_pos rfl).trans (upd_same _ _ _).symm
            · rw [G, if_neg (by omega), if_neg (by omega), if_pos (by omega)]
            · rw [G, if_neg (by omega), if_neg (by omega), if_pos (by omega)]
          · have q := a4 k (by omega)
            rw [u _ (by omega) (by omega), u _ (by omega) (by omega), u _ (by omega) (by omega), u _ (by omega) (by omega)]
            show _ = upd (y_kd y) (y_n y) kd k ∧ _ = upd (y_w y) (y_n y) w k ∧ ((upd (y_cu y) (y_n y) (-4) k = -4 ∧ upd (y_pl y) (y_n y) (-4) k = -4 ∧ _) ∨ ∃ c q, c < 4 ∧ q ≤ 6 ∧ upd (y_cu y) (y_n y) (-4) k = nI c ∧ upd (y_pl y) (y_n y) (-4) k = nI q ∧ _)
            rw [upd_ne e, upd_ne e, upd_ne e, upd_ne e]
            exact q
        · have hr : r < y_rn y := hr
          have := hy.2.2.1
          rw [u _ (by omega) (by omega), u _ (by omega) (by omega), u _ (by omega) (by omega)]; exact a6 r hr
      · obtain ⟨b1, b2, b3, b4, b5, b6, b7⟩ := hF
        exact ⟨b1, b2, b3, by rw [u 3 (by omega) (by omega)]; exact b4, by rw [u 4 (by omega) (by omega)]; exact b5, fun c hc => by rw [u _ (by omega) (by omega)]; exact b6 c hc, fun r hr => by rw [u _ (by omega) (by omega)]; exact b7 r hr⟩
      · obtain ⟨-, c2, c3, c4, c5, c6⟩ := hy
        refine ⟨by show y_n y + 1 ≤ 12; omega, c2, c3, fun k (hk : k < y_n y + 1) => ?_, c5, c6⟩
        show (upd (y_kd y) (y_n y) kd k = nI 0 ∨ upd (y_kd y) (y_n y) kd k = nI 1) ∧ (∃ w', 1 ≤ w' ∧ w' ≤ 54 ∧ upd (y_w y) (y_n y) w k = nI w') ∧ ((upd (y_cu y) (y_n y) (-4) k = -4 ∧ upd (y_pl y) (y_n y) (-4) k = -4) ∨ ∃ c q, c < y_cn y ∧ q ≤ 6 ∧ upd (y_cu y) (y_n y) (-4) k = nI c ∧ upd (y_pl y) (y_n y) (-4) k = nI q ∧ (q = 6 ↔ upd (y_kd y) (y_n y) kd k = nI 1))
        by_cases e : k = y_n y
        · subst e
          rw [upd_same, upd_same, upd_same, upd_same]
          exact ⟨hkd, ⟨W, hW.1, hW.2.1, eW⟩, Or.inl ⟨rfl, rfl⟩⟩
        · rw [upd_ne e, upd_ne e, upd_ne e, upd_ne e]
          exact c4 k (by omega)
      · intro j k hjk (hk : k < y_n y + 1) he hne
        have he : upd (y_cu y) (y_n y) (-4) j = upd (y_cu y) (y_n y) (-4) k := he
        have hne : ¬ upd (y_cu y) (y_n y) (-4) k = -4 := hne
        show ¬ upd (y_pl y) (y_n y) (-4) j = upd (y_pl y) (y_n y) (-4) k
        by_cases e : k = y_n y
        · subst e; exact absurd (upd_same _ _ _) hne
        · rw [upd_ne e] at he hne
          rw [upd_ne (show j ≠ y_n y by omega)] at he
          rw [upd_ne e, upd_ne (show j ≠ y_n y by omega)]
          exact hd j k hjk (by omega) he hne
      · intro k (hk : k < y_n y + 1) h0
        have h0 : upd (y_kd y) (y_n y) kd k = nI 0 := h0
        show ∃ w', w' ≤ 9 ∧ upd (y_w y) (y_n y) w k = nI w'
        by_cases e : k = y_n y
        · subst e
          rw [upd_same] at h0 ⊢
          exact ⟨W, hW.2.2 h0, eW⟩
        · rw [upd_ne e] at h0 ⊢
          exact hw k (by omega) h0
      · intro c hcc
        have hcc : c < y_cn y := hcc
        have e : ∀ z, t_wo (yAddT y kd w) (nI c) z = t_wo y (nI c) z := by
          intro z
          have h4 : y_cn y ≤ 4 := hy.2.1
          show sI (fun k => if upd (y_cu y) (y_n y) (-4) k = nI c ∧ upd (y_kd y) (y_n y) kd k = z then upd (y_w y) (y_n y) w k else 0) (y_n y + 1) = sI (fun k => if y_cu y k = nI c ∧ y_kd y k = z then y_w y k else 0) (y_n y)
          rw [sI, upd_same, if_neg (fun q => nI_m4 (by omega) q.1), Int32.add_zero]
          exact sI_cg (fun k hk => by rw [upd_ne (by omega), upd_ne (by omega), upd_ne (by omega)])
        rw [e, e]; exact hc c hcc
      · exact hf
  · rw [if_pos (rng_iff.mpr h1), if_pos h1]; exact Spp_bad (Or.inr rfl)
