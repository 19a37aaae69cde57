/-! THE REFERENCE: lines -/
def mLn (v : MS) (ln : Nat → Int32) (lz : Nat) : MS := (m_g v, m_fl v, m_ch v, m_sv v, m_why v, m_det v, m_li v, m_ld v, m_wt v, m_wm v, ln, lz, m_in v, m_ty v, m_he v, m_wa v, m_fa v, m_cm v, m_cz v)
/-- the codes of a list, laid down from a place on -/
def apA (f : Nat → Int32) (n : Nat) (L : List Nat) : Nat → Int32 := fun i => if n ≤ i ∧ i < n + L.length then nI (L.getD (i - n) 0) else f i
def apL (v : MS) (L : List Nat) : MS := mLn v (apA (m_ln v) (m_lz v) L) (m_lz v + L.length)
theorem apL_lz (v : MS) (L : List Nat) : m_lz (apL v L) = m_lz v + L.length := rfl
theorem mLn_lz (v : MS) (f : Nat → Int32) (n : Nat) : m_lz (mLn v f n) = n := rfl
theorem i2cN {c : Nat} (h : c < 65536) : ((nI c).toUInt32 % 65536).toInt32 = nI c :=
  lg_i2c_word (by rw [nI_toInt (by omega)]; omega) (by rw [nI_toInt (by omega)]; omega)
theorem narC {c : Nat} (h : c < 65536) : vp_nar .char (nI c) = nI c := by
  have := i2cN h
  rw [lg_i2c_nf] at this
  exact this
theorem apA_1 {f : Nat → Int32} {n c : Nat} : apA f n [c] = upd f n (nI c) := by
  funext i
  unfold apA upd
  by_cases h : i = n
  · subst h
    rw [if_pos (by constructor; exact Nat.le_refl _; show i < i + 1; omega), if_pos rfl, Nat.sub_self]; rfl
  · rw [if_neg (by show ¬ (n ≤ i ∧ i < n + 1); omega), if_neg h]
theorem apL_1 {v : MS} {c : Nat} (h : c < 65536) : apL v [c] = mLn v (upd (m_ln v) (m_lz v) (vp_nar .char (nI c))) (m_lz v + 1) := by
  unfold apL; rw [apA_1, narC h]; rfl
theorem apA_app (f : Nat → Int32) (n : Nat) (A B : List Nat) : apA (apA f n A) (n + A.length) B = apA f n (A ++ B) := by
  funext i
  unfold apA
  rw [List.length_append]
  by_cases h1 : n + A.length ≤ i ∧ i < n + A.length + B.length
  · rw [if_pos h1, if_pos (by omega), List.getD_eq_getElem?_getD, List.getD_eq_getElem?_getD, List.getElem?_append_right (by omega), Nat.sub_sub]
  · rw [if_neg h1]
    by_cases h2 : n ≤ i ∧ i < n + A.length
    · rw [if_pos h2, if_pos (by omega), List.getD_eq_getElem?_getD, List.getD_eq_getElem?_getD, List.getElem?_append_left (by omega)]
    · rw [if_neg h2, if_neg (by omega)]
theorem apL_app (v : MS) (A B : List Nat) : apL (apL v A) B = apL v (A ++ B) := by
  show mLn v (apA (apA (m_ln v) (m_lz v) A) (m_lz v + A.length) B) (m_lz v + A.length + B.length) = mLn v (apA (m_ln v) (m_lz v) (A ++ B)) (m_lz v + (A ++ B).length)
  rw [apA_app, List.length_append, Nat.add_assoc]
def dgL (n : Nat) : List Nat := if n ≤ 9 then [48 + n % 10] else [48 + n / 10 % 10, 48 + n % 10]
theorem dgL_le (n : Nat) : (dgL n).length ≤ 2 := by unfold dgL; split <;> simp
theorem div10 {c : Nat} (h : c < 2 ^ 31) : nI c / nI 10 = nI (c / 10) := by
  apply Int32.toInt_inj.mp
  rw [Int32.toInt_div, nI_toInt h, nI_toInt (by decide), nI_toInt (by omega)]
  rw [Int.tdiv_eq_ediv_of_nonneg (by omega)]
  rw [Int.bmod_eq_of_le (by omega) (by omega)]
  omega
theorem rem48 {c : Nat} (h : c < 2 ^ 31) : nI 48 + (nI c - nI c / nI 10 * nI 10) = nI (48 + c % 10) := by
  rw [div10 h, pk_mul, pk_sub (by omega), nI_add]
  congr 1; omega
def thL (x : Int32) : List Nat := if x = -4 then [46] else dgL (ixI x)
theorem thL_n : thL (-4) = [46] := rfl
theorem thL_k {k : Nat} (h : k < 2 ^ 31) : thL (nI k) = dgL k := by
  unfold thL; rw [if_neg (nI_ne4 h)]
  show dgL (nI k).toNatClampNeg = dgL k
  rw [nI_clamp h]
theorem thL_le (x : Int32) : (thL x).length ≤ 2 := by
  unfold thL; split
  · simp
  · exact dgL_le _
def wrT (y : YS) (c : Nat) : Nat → List Nat
  | 0 => dgL c ++ [91]
  | k + 1 => wrT y c k ++ ((if 0 < k then [44] else []) ++ thL (t_at y (nI c) (nI k)))
def wrL (y : YS) (c : Nat) : List Nat := wrT y c 6 ++ (93 :: (if t_at y (nI c) (nI 6) = -4 then [] else 94 :: thL (t_at y (nI c) (nI 6))))
theorem wrT_le (y : YS) (c : Nat) : ∀ k, (wrT y c k).length ≤ 3 + 3 * k
  | 0 => by
    have := dgL_le c
    show (dgL c ++ [91]).length ≤ 3
    rw [List.length_append]; show (dgL c).length + 1 ≤ 3; omega
  | k + 1 => by
    have h1 := wrT_le y c k
    have h2 := thL_le (t_at y (nI c) (nI k))
    rw [wrT, List.length_append, List.length_append]
    have h3 : (if 0 < k then [44] else []).length ≤ 1 := by split <;> simp
    omega
def F_write (y : YS) (v : MS) (x : Int32) : Int32 × MS :=
  if ¬ p_in x (y_cn y) then (-1, v) else (nI (wrL y (ixI x)).length, apL (mLn v (m_ln v) 0) (wrL y (ixI x)))
theorem at_cases (y : YS) (x z : Int32) : t_at y x z = -4 ∨ ∃ j, j < y_n y ∧ t_at y x z = nI j := by
  unfold t_at atI
  split
  · exact Or.inr ⟨_, by assumption, rfl⟩
  · exact Or.inl rfl
theorem at_99 {y : YS} (hn : y_n y ≤ 12) (x z : Int32) : t_at y x z = -4 ∨ ∃ j, j ≤ 99 ∧ t_at y x z = nI j :=
  (at_cases y x z).imp id (fun ⟨j, h, e⟩ => ⟨j, by omega, e⟩)
def rdT (y : YS) : Nat → List Nat
  | 0 => []
  | k + 1 => rdT y k ++ ((if 0 < k then [32] else []) ++ (dgL (ixI (y_li y k)) ++ (42 :: (dgL (ixI (y_mi y k)) ++ (58 :: dgL (ixI (y_ra y k)))))))
theorem rdT_le (y : YS) : ∀ k, (rdT y k).length ≤ 9 * k
  | 0 => by simp [rdT]
  | k + 1 => by
    have h1 := rdT_le y k
    have h2 := dgL_le (ixI (y_li y k))
    have h3 := dgL_le (ixI (y_mi y k))
    have h4 := dgL_le (ixI (y_ra y k))
    have h5 : (if 0 < k then [32] else []).length ≤ 1 := by split <;> simp
    rw [rdT]
    simp only [List.length_append, List.length_cons]
    omega
def F_wrds (y : YS) (v : MS) : Int32 × MS := (nI (rdT y (y_rn y)).length, apL (mLn v (m_ln v) 0) (rdT y (y_rn y)))
theorem nI_ix {x : Int32} {k : Nat} (h : k < 2 ^ 31) (e : x = nI k) : x = nI (ixI x) ∧ ixI x = k := by
  subst e
  have : ixI (nI k) = k := nI_clamp h
  rw [this]; exact ⟨rfl, rfl⟩
theorem rd_n {y : YS} (hy : yI y) {k : Nat} (hk : k < y_rn y) : (y_li y k = nI (ixI (y_li y k)) ∧ ixI (y_li y k) ≤ 99) ∧ (y_mi y k = nI (ixI (y_mi y k)) ∧ ixI (y_mi y k) ≤ 9) ∧ (y_ra y k = nI (ixI (y_ra y k)) ∧ ixI (y_ra y k) ≤ 9) := by
  obtain ⟨-, -, -, -, h, -⟩ := hy
  obtain ⟨li, mi, ra, h1, h2, h3, h4, h5, e1, e2, e3⟩ := h k hk
  have a := nI_ix (by omega) e1
  have b := nI_ix (by omega) e2
  have c := nI_ix (by omega) e3
  exact ⟨⟨a.1, by omega⟩, ⟨b.1, by omega⟩, ⟨c.1, by omega⟩⟩
def a_wtn (ln : Nat → Int32) (lz : Nat) (x : Int32) : Int32 := if p_in x lz then ln (ixI x) else -1
def mIn (v : MS) (f : Nat → Int32) (n : Nat) : MS := (m_g v, m_fl v, m_ch v, m_sv v, m_why v, m_det v, m_li v, m_ld v, m_wt v, m_wm v, m_ln v, m_lz v, f, n, m_he v, m_wa v, m_fa v, m_cm v, m_cz v)
def F_app (v : MS) (x : Int32) : Int32 × MS :=
  if ¬ p_rng x (nI 32) (nI 126) ∨ m_ty v = 60 then (-2, v) else (nI (m_ty v + 1), mIn v (upd (m_in v) (m_ty v) x) (m_ty v + 1))
