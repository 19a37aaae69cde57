/-! RANKS OF A STRICT ORDER OF ALL: each number below n is a rank -/
theorem cN_mo {A B : Nat → Bool} : ∀ n, (∀ j, j < n → A j = true → B j = true) → cN A n ≤ cN B n
  | 0, _ => Nat.le_refl 0
  | n + 1, h => by
    have ih := cN_mo (A := A) (B := B) n (fun j hj => h j (by omega))
    rw [cN, cN]
    by_cases a : A n = true
    · rw [if_pos a, if_pos (h n (Nat.lt_succ_self n) a)]; omega
    · rw [if_neg a]; split <;> omega
theorem cN_lt {A B : Nat → Bool} {k : Nat} : ∀ n, (∀ j, j < n → A j = true → B j = true) → k < n → B k = true → A k = false → cN A n < cN B n
  | 0, _, hk, _, _ => absurd hk (Nat.not_lt_zero k)
  | n + 1, h, hk, hb, ha => by
    rw [cN, cN]
    by_cases e : k = n
    · subst e
      have := cN_mo (A := A) (B := B) k (fun j hj => h j (by omega))
      rw [if_pos hb, if_neg (by rw [ha]; decide)]; omega
    · have ih := cN_lt (A := A) (B := B) n (fun j hj => h j (by omega)) (by omega) hb ha
      by_cases a : A n = true
      · rw [if_pos a, if_pos (h n (Nat.lt_succ_self n) a)]; omega
      · rw [if_neg a]; split <;> omega
theorem cN_all : ∀ n, cN (fun _ => true) n = n
  | 0 => rfl
  | n + 1 => by rw [cN, cN_all n]; rfl
/-- a strict order of all numbers below n -/
def sO (P : Nat → Nat → Bool) (n : Nat) : Prop := (∀ i, i < n → P i i = false) ∧ (∀ i j, i < n → j < n → i ≠ j → P i j = true ∨ P j i = true) ∧ ∀ i j k, i < n → j < n → k < n → P i j = true → P j k = true → P i k = true
abbrev rk (P : Nat → Nat → Bool) (n k : Nat) : Nat := cN (fun j => P j k) n
theorem rk_lt {P : Nat → Nat → Bool} {n k : Nat} (h : sO P n) (hk : k < n) : rk P n k < n := by
  have := cN_lt (A := fun j => P j k) (B := fun _ => true) (k := k) n (fun _ _ _ => rfl) hk rfl (h.1 k hk)
  rw [cN_all] at this
  exact this
theorem rk_ahead {P : Nat → Nat → Bool} {n a b : Nat} (h : sO P n) (ha : a < n) (hb : b < n) (hp : P b a = true) : rk P n b < rk P n a :=
  cN_lt (A := fun j => P j b) (B := fun j => P j a) (k := b) n (fun j hj e => h.2.2 j b a hj hb ha e hp) hb hp (h.1 b hb)
theorem rk_all {P : Nat → Nat → Bool} : ∀ n, sO P n → ∀ x, x < n → ∃ k, k < n ∧ rk P n k = x
  | 0, _, x, hx => absurd hx (Nat.not_lt_zero x)
  | n + 1, h, x, hx => by
    have h' : sO P n := ⟨fun i hi => h.1 i (by omega), fun i j hi hj => h.2.1 i j (by omega) (by omega), fun i j k hi hj hk => h.2.2 i j k (by omega) (by omega) (by omega)⟩
    have en : rk P (n + 1) n = rk P n n := by
      show cN _ (n + 1) = _
      rw [cN, if_neg (by rw [h.1 n (Nat.lt_succ_self n)]; decide)]; rfl
    have ek : ∀ k, k < n → rk P (n + 1) k = rk P n k + (if P n k = true then 1 else 0) := fun k _ => rfl
    have as : ∀ k, k < n → P k n = true → P n k = true → False := fun k hk a b => by
      have := h.2.2 k n k (by omega) (by omega) (by omega) a b
      rw [h.1 k (by omega)] at this; exact absurd this (by decide)
    have lo : ∀ k, k < n → P k n = true → rk P n k < rk P n n := fun k hk a =>
      cN_lt (A := fun j => P j k) (B := fun j => P j n) (k := k) n (fun j hj e => h.2.2 j k n (by omega) (by omega) (by omega) e a) hk a (h.1 k (by omega))
    have hi : ∀ k, k < n → ¬ P k n = true → rk P n n ≤ rk P n k := fun k hk a => by
      have b : P n k = true := (h.2.1 k n (by omega) (by omega) (by omega)).resolve_left a
      exact cN_mo n (fun j hj e => h.2.2 j n k (by omega) (by omega) (by omega) e b)
    have hr : rk P n n ≤ n := cN_le _ n
    rcases Nat.lt_trichotomy x (rk P n n) with hlt | heq | hgt
    · obtain ⟨k, hk, e⟩ := rk_all n h' x (by omega)
      have a : P k n = true := by
        by_cases a : P k n = true
        · exact a
        · have := hi k hk a; omega
      refine ⟨k, by omega, ?_⟩
      rw [ek k hk, if_neg (fun b => as k hk a b)]; omega
    · exact ⟨n, Nat.lt_succ_self n, by rw [en]; exact heq.symm⟩
    · obtain ⟨k, hk, e⟩ := rk_all n h' (x - 1) (by omega)
      have a : ¬ P k n = true := fun a => by have := lo k hk a; omega
      have b : P n k = true := (h.2.1 k n (by omega) (by omega) (by omega)).resolve_left a
      refine ⟨k, by omega, ?_⟩
      rw [ek k hk, if_pos b]; omega
theorem ordI_at {P : Nat → Nat → Bool} {n x : Nat} (h : sO P n) (hn : n ≤ 12) (hx : x < n) : ∃ k, k < n ∧ ordI P n (nI x) = nI k ∧ rk P n k = x := by
  obtain ⟨k, hk, e⟩ := rk_all n h x hx
  have hq : fst (fun k => decide (nI (cN (fun j => P j k) n) = nI x)) n < n := by
    apply Nat.lt_of_not_le
    intro q
    have := fst_no (q := fun k => decide (nI (cN (fun j => P j k) n) = nI x)) (n := n) (by omega) k hk
    have e2 : nI (cN (fun j => P j k) n) = nI x := congrArg nI e
    rw [decide_eq_true e2] at this
    exact absurd this (by decide)
  have hi := fst_is (q := fun k => decide (nI (cN (fun j => P j k) n) = nI x)) hq
  have hi := of_decide_eq_true hi
  refine ⟨_, hq, by unfold ordI; rw [if_pos hq], ?_⟩
  have hl := rk_lt h hq
  exact (nI_eq (by omega) (by omega)).mp hi
theorem ordI_out {P : Nat → Nat → Bool} {n : Nat} (h : sO P n) (hn : n ≤ 12) : ordI P n (nI n) = -1 :=
  ordI_none (fun j hj => decide_eq_false (fun e => by
    have hl : cN (fun j' => P j' j) n < n := rk_lt h hj
    have := (nI_eq (a := cN (fun j' => P j' j) n) (b := n) (by omega) (by omega)).mp e
    omega))
/-- things in order, as numbers -/
theorem pcT_n {y : YS} (hy : yI y) {j k a b : Nat} (ha : y_w y j = nI a) (hb : y_w y k = nI b) (ha' : a ≤ 54) (hb' : b ≤ 54) (hk : k < y_n y) (hj : j < y_n y) :
    pcT y j k ↔ b < a ∨ (a = b ∧ ((y_kd y j = 0 ∧ ¬ y_kd y k = 0) ∨ (y_kd y j = y_kd y k ∧ j < k))) := by
  unfold pcT
  rw [ha, hb, nI_eq (by omega) (by omega), nI_leI (by omega) (by omega)]
  constructor
  · rintro (⟨h1, h2⟩ | ⟨h1, (⟨h2, h3⟩ | ⟨h2, h3⟩)⟩)
    · exact Or.inl (by omega)
    · exact Or.inr ⟨h1, Or.inl ⟨h3, fun q => h2 (h3.trans q.symm)⟩⟩
    · exact Or.inr ⟨h1, Or.inr ⟨h2, by omega⟩⟩
  · rintro (h | ⟨h1, (⟨h2, h3⟩ | ⟨h2, h3⟩)⟩)
    · exact Or.inl ⟨by omega, by omega⟩
    · exact Or.inr ⟨h1, Or.inl ⟨fun q => h3 (q.symm.trans h2), h2⟩⟩
    · exact Or.inr ⟨h1, Or.inr ⟨h2, by omega⟩⟩
/-- the order by a number (the greater first), then by another (the less first), then by place -/
def lx (a κ : Nat → Nat) (j k : Nat) : Prop := a k < a j ∨ (a j = a k ∧ (κ j < κ k ∨ (κ j = κ k ∧ j < k)))
theorem sO_lx {P : Nat → Nat → Bool} {a κ : Nat → Nat} {n : Nat} (h : ∀ j k, j < n → k < n → (P j k = true ↔ lx a κ j k)) : sO P n := by
  refine ⟨fun i hi => ?_, fun i j hi hj ne => ?_, fun i j k hi hj hk h1 h2 => ?_⟩
  · by_cases q : P i i = true
    · have := (h i i hi hi).mp q
      unfold lx at this; omega
    · simpa using q
  · rw [h i j hi hj, h j i hj hi]
    unfold lx; omega
  · rw [h i j hi hj] at h1
    rw [h j k hj hk] at h2
    rw [h i k hi hk]
    unfold lx at h1 h2 ⊢; omega
abbrev kN (y : YS) (k : Nat) : Nat := if y_kd y k = 0 then 0 else 1
abbrev wN (y : YS) (k : Nat) : Nat := ixI (y_w y k)
theorem wN_is {y : YS} (hy : yI y) {k : Nat} (hk : k < y_n y) : y_w y k = nI (wN y k) ∧ 1 ≤ wN y k ∧ wN y k ≤ 54 := by
  obtain ⟨-, ⟨w, h1, h2, e⟩, -⟩ := hy.2.2.2.1 k hk
  obtain ⟨a, b⟩ := ixI_n (x := y_w y k) (v := w) (by omega) e
  exact ⟨a, by show 1 ≤ ixI (y_w y k); omega, by show ixI (y_w y k) ≤ 54; omega⟩
theorem pcT_lx {y : YS} (hy : yI y) {j k : Nat} (hj : j < y_n y) (hk : k < y_n y) : decide (pcT y j k) = true ↔ lx (wN y) (kN y) j k := by
  obtain ⟨a1, -, a3⟩ := wN_is hy hj
  obtain ⟨b1, -, b3⟩ := wN_is hy hk
  rw [decide_eq_true_eq, pcT_n hy a1 b1 a3 b3 hk hj]
  obtain ⟨hj1, -, -⟩ := hy.2.2.2.1 j hj
  obtain ⟨hk1, -, -⟩ := hy.2.2.2.1 k hk
  have z0 : nI 0 = 0 := by decide
  have z1 : ¬ nI 1 = 0 := by decide
  have z2 : ¬ nI 0 = nI 1 := by decide
  have hv : ∀ i, (y_kd y i = nI 0 → kN y i = 0) ∧ (y_kd y i = nI 1 → kN y i = 1) := fun i => ⟨fun e => if_pos (e.trans z0), fun e => if_neg (fun q => z1 (e.symm.trans q))⟩
  unfold lx
  rcases hj1 with e | e <;> rcases hk1 with f | f
  · rw [(hv j).1 e, (hv k).1 f, e, f]
    exact or_congr Iff.rfl (and_congr Iff.rfl ⟨fun q => q.elim (fun q => absurd z0 q.2) (fun q => Or.inr ⟨rfl, q.2⟩), fun q => q.elim (fun q => absurd q (Nat.lt_irrefl 0)) (fun q => Or.inr ⟨rfl, q.2⟩)⟩)
  · rw [(hv j).1 e, (hv k).2 f, e, f]
    exact or_congr Iff.rfl (and_congr Iff.rfl ⟨fun _ => Or.inl (by decide), fun _ => Or.inl ⟨z0, z1⟩⟩)
  · rw [(hv j).2 e, (hv k).1 f, e, f]
    exact or_congr Iff.rfl (and_congr Iff.rfl ⟨fun q => q.elim (fun q => absurd q.1 z1) (fun q => absurd q.1.symm z2), fun q => q.elim (fun q => absurd q (by decide)) (fun q => absurd q.1 (by decide))⟩)
  · rw [(hv j).2 e, (hv k).2 f, e, f]
    exact or_congr Iff.rfl (and_congr Iff.rfl ⟨fun q => q.elim (fun q => absurd q.1 z1) (fun q => Or.inr ⟨rfl, q.2⟩), fun q => q.elim (fun q => absurd q (Nat.lt_irrefl 1)) (fun q => Or.inr ⟨rfl, q.2⟩)⟩)
theorem sO_T {y : YS} (hy : yI y) : sO (fun j k => decide (pcT y j k)) (y_n y) := sO_lx (fun j k hj hk => pcT_lx hy hj hk)
theorem all_nt {y : YS} (hy : yI y) (x : Int32) : ∃ t, t ≤ 1296 ∧ t_all y x = nI t := by
  obtain ⟨a, ha, e⟩ := wo_nat hy x (nI 0)
  obtain ⟨b, hb, f⟩ := wo_nat hy x (nI 1)
  exact ⟨a + b, by omega, by show t_wo y x (nI 0) + t_wo y x (nI 1) = _; rw [e, f, nI_add]⟩
abbrev aN (y : YS) (c : Nat) : Nat := ixI (t_all y (nI c))
abbrev iN (y : YS) (c : Nat) : Nat := ixI (t_im y (nI c))
theorem aN_is {y : YS} (hy : yI y) (c : Nat) : t_all y (nI c) = nI (aN y c) ∧ aN y c ≤ 1296 := by
  obtain ⟨t, ht, e⟩ := all_nt hy (nI c)
  obtain ⟨a, b⟩ := ixI_n (by omega) e
  exact ⟨a, by show ixI (t_all y (nI c)) ≤ 1296; omega⟩
theorem iN_is {y : YS} (hy : yI y) {c : Nat} (hc : c < y_cn y) : t_im y (nI c) = nI (iN y c) ∧ iN y c ≤ 6480 := by
  obtain ⟨t, ht, e⟩ := im_nat hy hc
  obtain ⟨a, b⟩ := ixI_n (by omega) e
  exact ⟨a, by show ixI (t_im y (nI c)) ≤ 6480; omega⟩
theorem pcC_lx {y : YS} (hy : yI y) {j k : Nat} (hj : j < y_cn y) (hk : k < y_cn y) : decide (pcC y j k) = true ↔ lx (aN y) (iN y) j k := by
  obtain ⟨a1, a2⟩ := aN_is hy j
  obtain ⟨b1, b2⟩ := aN_is hy k
  obtain ⟨c1, c2⟩ := iN_is hy hj
  obtain ⟨d1, d2⟩ := iN_is hy hk
  rw [decide_eq_true_eq]
  unfold pcC lx
  rw [a1, b1, c1, d1]
  rw [nI_eq (by omega) (by omega), nI_leI (by omega) (by omega), nI_eq (by omega) (by omega), nI_leI (by omega) (by omega)]
  omega
theorem sO_C {y : YS} (hy : yI y) : sO (fun j k => decide (pcC y j k)) (y_cn y) := sO_lx (fun j k hj hk => pcC_lx hy hj hk)
theorem neg_sub {a b : Nat} (ha : a < 2 ^ 30) (hb : b < 2 ^ 30) : (nI a - nI b < 0) ↔ a < b := by
  rw [Int32.lt_iff_toInt_lt, pk_sub_toInt ha hb]
  show (a : Int) - b < 0 ↔ _
  omega
/-- two things in order stand so as the law wants them -/
theorem ord_T {y : YS} (hy : yI y) {a b x : Nat} (ha : a < y_n y) (hb : b < y_n y) (h1 : rk (fun j k => decide (pcT y j k)) (y_n y) a = x) (h2 : rk (fun j k => decide (pcT y j k)) (y_n y) b = x + 1) : ¬ lx (wN y) (kN y) b a := by
  intro q
  have := rk_ahead (sO_T hy) ha hb ((pcT_lx hy hb ha).mpr q)
  omega
theorem ord_C {y : YS} (hy : yI y) {a b x : Nat} (ha : a < y_cn y) (hb : b < y_cn y) (h1 : rk (fun j k => decide (pcC y j k)) (y_cn y) a = x) (h2 : rk (fun j k => decide (pcC y j k)) (y_cn y) b = x + 1) : ¬ lx (aN y) (iN y) b a := by
  intro q
  have := rk_ahead (sO_C hy) ha hb ((pcC_lx hy hb ha).mpr q)
  omega
