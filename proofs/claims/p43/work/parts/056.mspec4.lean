/-! THE REFERENCE: changes -/
abbrev mRef (v : MS) (b d : Int32) : MS := (m_g v, m_fl v, m_ch v, m_sv v, b, d, nI 0, m_ld v, m_wt v, m_wm v, m_ln v, m_lz v, m_in v, m_ty v, m_he v, m_wa v, m_fa v, m_cm v, m_cz v)
abbrev mGF (v : MS) (g : Nat → Int32) (fl : Nat → UInt32) : MS := (g, fl, m_ch v, m_sv v, m_why v, m_det v, m_li v, m_ld v, m_wt v, m_wm v, m_ln v, m_lz v, m_in v, m_ty v, m_he v, m_wa v, m_fa v, m_cm v, m_cz v)
abbrev mG (v : MS) (g : Nat → Int32) : MS := mGF v g (m_fl v)
abbrev mGFC (v : MS) (g : Nat → Int32) (fl : Nat → UInt32) (ch : Nat) : MS := (g, fl, ch, m_sv v, m_why v, m_det v, m_li v, m_ld v, m_wt v, m_wm v, m_ln v, m_lz v, m_in v, m_ty v, m_he v, m_wa v, m_fa v, m_cm v, m_cz v)
def zr4 (g : Nat → Int32) (b k : Nat) : Nat → Int32 := fun j => if b ≤ j ∧ j < b + k then nI 0 else g j
theorem zr4_0 (g : Nat → Int32) (b : Nat) : zr4 g b 0 = g := by funext j; unfold zr4; rw [if_neg (by omega)]
theorem zr4_s {g : Nat → Int32} {b k : Nat} : upd (zr4 g b k) (b + k) (nI 0) = zr4 g b (k + 1) := by
  funext j
  unfold upd zr4
  by_cases hj : j = b + k
  · subst hj; rw [if_pos rfl, if_pos (by omega)]
  · rw [if_neg hj]
    by_cases h : b ≤ j ∧ j < b + k
    · rw [if_pos h, if_pos (by omega)]
    · rw [if_neg h, if_neg (by omega)]
def F_beg (v : MS) : MS := mGF v (cpb (m_g v) 81 0 10 81) (cpf (m_fl v) 9 0 10 9)
def F_ends (v : MS) (t : Int32) : Int32 × MS :=
  if ¬ 0 ≤ t then (t, mGF v (cpb (m_g v) 81 10 0 81) (cpf (m_fl v) 9 10 0 9))
  else if m_ch v = 8 then (t, mGFC v (cpb (shB (m_g v) 7) 81 10 8 81) (cpf (shF (m_fl v) 7) 9 10 8 9) 8)
  else (t, mGFC v (cpb (m_g v) 81 10 (m_ch v + 1) 81) (cpf (m_fl v) 9 10 (m_ch v + 1) 9) (m_ch v + 1))
abbrev F_ch (q : Int32 × MS) : Int32 × MS := F_ends q.2 q.1
def F_adds (y : YS) (v : MS) (kd w : Int32) : Int32 × MS :=
  if ¬ p_rng w (nI 1) (if kd = nI 1 then nI 54 else nI 9) then (-2, v)
  else if y_n y = 12 then (-3, mRef v (nI 1) (nI 12))
  else (nI (y_n y), mG v (upd (upd (zr4 (upd (m_g v) 0 (nI (y_n y + 1))) (5 + 4 * y_n y) 4) (5 + 4 * y_n y + 0) kd) (5 + 4 * y_n y + 1) w))
def F_addC (y : YS) (v : MS) (st : Int32) : Int32 × MS :=
  if ¬ p_rng st (nI 1) (nI 60) then (-2, v)
  else if y_cn y = 4 then (-3, mRef v (nI 1) (nI 4))
  else (nI (y_cn y), mG v (upd (upd (upd (m_g v) 1 (nI (y_cn y + 1))) (53 + 2 * y_cn y) st) (53 + 2 * y_cn y + 1) (nI 0)))
def F_addR (y : YS) (v : MS) (li mi ra : Int32) : Int32 × MS :=
  if ¬ p_rng li (nI 1) (nI 99) ∨ ¬ p_rng mi (nI 1) (nI 9) ∨ ¬ p_rng ra (nI 0) (nI 9) then (-2, v)
  else if y_rn y = 5 then (-3, mRef v (nI 1) (nI 5))
  else (nI (y_rn y), mG v (upd (upd (upd (upd (upd (m_g v) 2 (nI (y_rn y + 1))) (61 + 4 * y_rn y) li) (61 + 4 * y_rn y + 1) mi) (61 + 4 * y_rn y + 2) ra) (61 + 4 * y_rn y + 3) (nI 0)))
def F_put (y : YS) (v : MS) (x1 x2 x3 : Int32) : Int32 × MS :=
  if ¬ p_in x1 (y_n y) ∨ ¬ p_in x2 (y_cn y) then (-1, v)
  else if ¬ p_rng x3 (nI 0) (nI 6) then (-2, v)
  else if ¬ y_cu y (ixI x1) = -4 then (-3, mRef v (nI 2) (y_cu y (ixI x1)))
  else if ¬ (y_kd y (ixI x1) = nI 1 ↔ x3 = nI 6) then (-3, mRef v (nI 3) x3)
  else if ¬ t_at y x2 x3 = -4 then (-3, mRef v (nI 4) (t_at y x2 x3))
  else if y_kd y (ixI x1) = nI 1 ∧ ¬ y_w y (ixI x1) - t_wo y x2 (nI 0) ≤ 0 then (-3, mRef v (nI 5) (y_w y (ixI x1) - t_wo y x2 (nI 0)))
  else (t_all (yMove y (upd (y_cu y) (ixI x1) x2) (upd (y_pl y) (ixI x1) x3)) x2, mG v (upd (upd (m_g v) (5 + 4 * ixI x1 + 2) (x2 + nI 1)) (5 + 4 * ixI x1 + 3) x3))
def F_off (y : YS) (v : MS) (x1 : Int32) : Int32 × MS :=
  if ¬ p_in x1 (y_n y) then (-1, v)
  else if y_cu y (ixI x1) = -4 then (-3, mRef v (nI 6) x1)
  else if ¬ y_kd y (ixI x1) = nI 1 ∧ ¬ t_wo y (y_cu y (ixI x1)) (nI 1) - t_wo y (y_cu y (ixI x1)) (nI 0) + y_w y (ixI x1) ≤ 0 then (-3, mRef v (nI 5) (t_wo y (y_cu y (ixI x1)) (nI 1) - t_wo y (y_cu y (ixI x1)) (nI 0) + y_w y (ixI x1)))
  else (y_cu y (ixI x1), mG v (upd (upd (m_g v) (5 + 4 * ixI x1 + 2) (nI 0)) (5 + 4 * ixI x1 + 3) (nI 0)))
def setG (g : Nat → Int32) (i w : Int32) : Nat → Int32 := if i = -4 then g else upd g (5 + 4 * ixI i + 3) w
def F_swap (y : YS) (v : MS) (x1 x2 x3 : Int32) : Int32 × MS :=
  if ¬ p_in x1 (y_cn y) then (-1, v)
  else if ¬ p_rng x2 (nI 0) (nI 5) ∨ ¬ p_rng x3 (nI 0) (nI 5) then (-2, v)
  else if x2 = x3 then (-3, mRef v (nI 7) x2)
  else (t_im (yMove y (y_cu y) (setAt (setAt (y_pl y) (t_at y x1 x2) x3) (t_at y x1 x3) x2)) x1, mG v (setG (setG (m_g v) (t_at y x1 x2) x3) (t_at y x1 x3) x2))
def F_wearsf (y : YS) (v : MS) (x r : Nat) : MS := mGF v (m_g v) (vf_upd (m_fl v) (2 * x + 0) (FP.fadd (m_fl v (2 * x + 0)) (t_wt y x r (nI 0))))
def F_wearsr (y : YS) (v : MS) (x r : Nat) : MS := mGF v (m_g v) (vf_upd (m_fl v) (2 * x + 1) (FP.fadd (m_fl v (2 * x + 1)) (t_wt y x r (nI 1))))
def markG (g : Nat → Int32) (c r : Nat) : Nat → Int32 :=
  upd (upd (upd (upd g (53 + 2 * c + 1) (g (53 + 2 * c + 1) + nI 1)) (61 + 4 * r + 3) (upd g (53 + 2 * c + 1) (g (53 + 2 * c + 1) + nI 1) (61 + 4 * r + 3) + nI 1)) 3 (upd (upd g (53 + 2 * c + 1) (g (53 + 2 * c + 1) + nI 1)) (61 + 4 * r + 3) (upd g (53 + 2 * c + 1) (g (53 + 2 * c + 1) + nI 1) (61 + 4 * r + 3) + nI 1) 3 + nI 1)) 4 (upd (upd (upd g (53 + 2 * c + 1) (g (53 + 2 * c + 1) + nI 1)) (61 + 4 * r + 3) (upd g (53 + 2 * c + 1) (g (53 + 2 * c + 1) + nI 1) (61 + 4 * r + 3) + nI 1)) 3 (upd (upd g (53 + 2 * c + 1) (g (53 + 2 * c + 1) + nI 1)) (61 + 4 * r + 3) (upd g (53 + 2 * c + 1) (g (53 + 2 * c + 1) + nI 1) (61 + 4 * r + 3) + nI 1) 3 + nI 1) 4 + upd (upd (upd g (53 + 2 * c + 1) (g (53 + 2 * c + 1) + nI 1)) (61 + 4 * r + 3) (upd g (53 + 2 * c + 1) (g (53 + 2 * c + 1) + nI 1) (61 + 4 * r + 3) + nI 1)) 3 (upd (upd g (53 + 2 * c + 1) (g (53 + 2 * c + 1) + nI 1)) (61 + 4 * r + 3) (upd g (53 + 2 * c + 1) (g (53 + 2 * c + 1) + nI 1) (61 + 4 * r + 3) + nI 1) 3 + nI 1) (61 + 4 * r + 1))
theorem RelI_upd {y : YS} {g : Nat → Int32} (h : RelI y g) {i : Nat} {x : Int32} (h0 : 3 ≤ i) (hi : ∀ k w, k < y_n y → w < 4 → i ≠ 5 + 4 * k + w) (hc : ∀ c, c < y_cn y → i ≠ 53 + 2 * c) (hr : ∀ r w, r < y_rn y → w < 3 → i ≠ 61 + 4 * r + w) : RelI y (upd g i x) := by
  have u : ∀ j, j ≠ i → upd g i x j = g j := fun j hj => by unfold upd; rw [if_neg hj]
  obtain ⟨a1, a2, a3, a4, a5, a6⟩ := h
  refine ⟨by rw [u 0 (by omega)]; exact a1, by rw [u 1 (by omega)]; exact a2, by rw [u 2 (by omega)]; exact a3, fun k hk => ?_, fun c hk => by rw [u _ (fun q => hc c hk q.symm)]; exact a5 c hk, fun r hk => ?_⟩
  · rw [u _ (fun q => hi k 0 hk (by omega) q.symm), u _ (fun q => hi k 1 hk (by omega) q.symm), u _ (fun q => hi k 2 hk (by omega) q.symm), u _ (fun q => hi k 3 hk (by omega) q.symm)]
    exact a4 k hk
  · rw [u _ (fun q => hr r 0 hk (by omega) q.symm), u _ (fun q => hr r 1 hk (by omega) q.symm), u _ (fun q => hr r 2 hk (by omega) q.symm)]
    exact a6 r hk
theorem RelI_mark {y : YS} {g : Nat → Int32} (hB : y_n y ≤ 12 ∧ y_cn y ≤ 4 ∧ y_rn y ≤ 5) (h : RelI y g) {c r : Nat} (hc : c < 4) (hr : r < 5) : RelI y (markG g c r) := by
  unfold markG
  refine RelI_upd (RelI_upd (RelI_upd (RelI_upd h (by omega) ?_ ?_ ?_) (by omega) ?_ ?_ ?_) (by omega) ?_ ?_ ?_) (by omega) ?_ ?_ ?_ <;> intros <;> omega
theorem RelI_put {y : YS} {g : Nat → Int32} (hB : y_n y ≤ 12 ∧ y_cn y ≤ 4 ∧ y_rn y ≤ 5) (h : RelI y g) {k c q : Nat} (hk : k < y_n y) (hc : c < 4) (hq : q ≤ 6) : RelI (yMove y (upd (y_cu y) k (nI c)) (upd (y_pl y) k (nI q))) (upd (upd g (5 + 4 * k + 2) (nI (c + 1))) (5 + 4 * k + 3) (nI q)) := by
  have u : ∀ j, j ≠ 5 + 4 * k + 2 → j ≠ 5 + 4 * k + 3 → upd (upd g (5 + 4 * k + 2) (nI (c + 1))) (5 + 4 * k + 3) (nI q) j = g j := fun j h1 h2 => by unfold upd; rw [if_neg h2, if_neg h1]
  obtain ⟨a1, a2, a3, a4, a5, a6⟩ := h
  refine ⟨by rw [u 0 (by omega) (by omega)]; exact a1, by rw [u 1 (by omega) (by omega)]; exact a2, by rw [u 2 (by omega) (by omega)]; exact a3, fun j hj => ?_, fun d hd => by rw [u _ (by have := hB.2.1; have : d < y_cn y := hd; omega) (by have : d < y_cn y := hd; omega)]; exact a5 d hd, fun r hr => ?_⟩
  · have hj : j < y_n y := hj
    have hn := hB.1
    refine ⟨by rw [u _ (by omega) (by omega)]; exact (a4 j hj).1, by rw [u _ (by omega) (by omega)]; exact (a4 j hj).2.1, ?_⟩
    by_cases e : j = k
    · subst e
      refine Or.inr ⟨c, q, hc, hq, ?_, ?_, ?_, ?_⟩
      · show upd (y_cu y) j (nI c) j = nI c; unfold upd; rw [if_pos rfl]
      · show upd (y_pl y) j (nI q) j = nI q; unfold upd; rw [if_pos rfl]
      · unfold upd; rw [if_neg (by omega), if_pos rfl]
      · unfold upd; rw [if_pos rfl]
    · rw [u _ (by omega) (by omega), u _ (by omega) (by omega)]
      have e1 : y_cu (yMove y (upd (y_cu y) k (nI c)) (upd (y_pl y) k (nI q))) j = y_cu y j := by show upd (y_cu y) k (nI c) j = y_cu y j; unfold upd; rw [if_neg e]
      have e2 : y_pl (yMove y (upd (y_cu y) k (nI c)) (upd (y_pl y) k (nI q))) j = y_pl y j := by show upd (y_pl y) k (nI q) j = y_pl y j; unfold upd; rw [if_neg e]
      rw [e1, e2]
      exact (a4 j hj).2.2
  · have hr : r < y_rn y := hr
    have hn := hB.1
    have h0 : k < y_n y := hk
    rw [u _ (by omega) (by omega), u _ (by omega) (by omega), u _ (by omega) (by omega)]
    exact a6 r hr
theorem RelI_cpb {y : YS} {g : Nat → Int32} (hB : y_n y ≤ 12 ∧ y_cn y ≤ 4 ∧ y_rn y ≤ 5) (h : RelI y g) {fr to : Nat} (ht : 1 ≤ to) : RelI y (cpb g 81 fr to 81) := by
  have u : ∀ j, j < 81 → cpb g 81 fr to 81 j = g j := fun j hj => by unfold cpb; rw [if_neg (by omega)]
  obtain ⟨a1, a2, a3, a4, a5, a6⟩ := h
  obtain ⟨b1, b2, b3⟩ := hB
  refine ⟨by rw [u 0 (by omega)]; exact a1, by rw [u 1 (by omega)]; exact a2, by rw [u 2 (by omega)]; exact a3, fun k hk => ?_, fun c hk => by rw [u _ (by omega)]; exact a5 c hk, fun r hk => ?_⟩
  · rw [u _ (by omega), u _ (by omega), u _ (by omega), u _ (by omega)]; exact a4 k hk
  · rw [u _ (by omega), u _ (by omega), u _ (by omega)]; exact a6 r hk
/-- a swap's row: the place of a thing of a cart -/
theorem RelI_pl {y : YS} {g : Nat → Int32} (hB : y_n y ≤ 12 ∧ y_cn y ≤ 4 ∧ y_rn y ≤ 5) (h : RelI y g) {k q : Nat} (hk : k < y_n y) (hon : ¬ y_cu y k = -4) (hq : q ≤ 6) : RelI (yMove y (y_cu y) (upd (y_pl y) k (nI q))) (upd g (5 + 4 * k + 3) (nI q)) := by
  obtain ⟨-, -, e | ⟨c, q', hc, hq', e1, e2, e3, e4⟩⟩ := h.2.2.2.1 k hk
  · exact absurd e.1 hon
  · have r := RelI_put hB h hk hc hq
    have x1 : upd (y_cu y) k (nI c) = y_cu y := by
      funext j; unfold upd
      by_cases ej : j = k
      · rw [if_pos ej, ej, e1]
      · rw [if_neg ej]
    have x2 : upd g (5 + 4 * k + 2) (nI (c + 1)) = g := by
      funext j; unfold upd
      by_cases ej : j = 5 + 4 * k + 2
      · rw [if_pos ej, ej, e3]
      · rw [if_neg ej]
    rw [x1, x2] at r
    exact r
theorem at_on {y : YS} {x z : Int32} {k : Nat} (h : t_at y x z = nI k) (hk : k < y_n y) (hn : y_n y ≤ 12) : y_cu y k = x := by
  unfold t_at atI at h
  split at h
  · rename_i hl
    rw [nI_eq (by omega) (by omega)] at h
    have hs : ∀ (p : Nat → Bool) (n : Nat), fst p n < n → p (fst p n) = true := by
      intro p n
      induction n with
      | zero => intro h; exact absurd h (Nat.not_lt_zero _)
      | succ n ih =>
        intro h
        unfold fst at h ⊢
        by_cases h1 : fst p n < n
        · rw [if_pos h1]; exact ih h1
        · rw [if_neg h1] at h ⊢
          by_cases h2 : p n = true
          · rw [if_pos h2]; exact h2
          · rw [if_neg h2] at h; omega
    have := hs _ _ hl
    rw [h] at this
    exact (of_decide_eq_true this).1
  · exact absurd h (nI_m4 (by omega))
