/-! THINGS ON A CART AS LISTS: by number, by place; the best balance over a list -/
def lS (g : Nat → Int) : List Nat → Int
  | [] => 0
  | k :: L => g k + lS g L
theorem lS_perm {g : Nat → Int} {L M : List Nat} (h : L.Perm M) : lS g L = lS g M := by
  induction h with
  | nil => rfl
  | cons x _ ih => rw [lS, lS, ih]
  | swap x y l => simp only [lS]; omega
  | trans _ _ a b => exact a.trans b
theorem gd_mem {L : List Nat} {j : Nat} (h : j < L.length) : L.getD j 0 ∈ L := by
  rw [List.getD_eq_getElem?_getD, List.getElem?_eq_getElem h]
  exact List.getElem_mem h
theorem mem_gd {L : List Nat} {k : Nat} (h : k ∈ L) : ∃ j, j < L.length ∧ L.getD j 0 = k := by
  obtain ⟨j, hj, e⟩ := List.getElem_of_mem h
  exact ⟨j, hj, by rw [List.getD_eq_getElem?_getD, List.getElem?_eq_getElem hj]; exact e⟩
/-- lists without repetition that hold the same are in another order -/
theorem perm_nd : ∀ (L M : List Nat), L.Nodup → M.Nodup → (∀ k, k ∈ L ↔ k ∈ M) → L.Perm M
  | [], M, _, _, h => by
    cases M with
    | nil => exact List.Perm.refl _
    | cons a M => exact absurd ((h a).mpr List.mem_cons_self) List.not_mem_nil
  | a :: L, M, hL, hM, h => by
    have hL' := List.nodup_cons.mp hL
    have ha : a ∈ M := (h a).mp List.mem_cons_self
    have hp : M.Perm (a :: M.erase a) := List.perm_cons_erase ha
    refine (List.Perm.cons a (perm_nd L (M.erase a) hL'.2 (hM.erase a) (fun k => ?_))).trans hp.symm
    rw [hM.mem_erase_iff]
    constructor
    · intro hk
      exact ⟨fun e => hL'.1 (e ▸ hk), (h k).mp (List.mem_cons_of_mem _ hk)⟩
    · intro ⟨hne, hk⟩
      rcases List.mem_cons.mp ((h k).mpr hk) with e | hk
      · exact absurd e hne
      · exact hk
/-- a setting of places to things, on a list -/
def inJ (L : List Nat) (F : Nat → Nat) : Prop := (∀ k ∈ L, F k < 6) ∧ ∀ j ∈ L, ∀ k ∈ L, F j = F k → j = k
theorem inJ_perm {L M : List Nat} {F : Nat → Nat} (h : L.Perm M) (hF : inJ L F) : inJ M F :=
  ⟨fun k hk => hF.1 k (h.mem_iff.mpr hk), fun j hj k hk e => hF.2 j (h.mem_iff.mpr hj) k (h.mem_iff.mpr hk) e⟩
theorem F_of : ∀ (L : List Nat) (f : Nat → Nat), L.Nodup → ∃ F : Nat → Nat, ∀ j, j < L.length → F (L.getD j 0) = f j
  | [], f, _ => ⟨f, fun j h => absurd h (Nat.not_lt_zero j)⟩
  | a :: L, f, h => by
    have h1 := List.nodup_cons.mp h
    obtain ⟨F, hF⟩ := F_of L (fun j => f (j + 1)) h1.2
    refine ⟨fun k => if k = a then f 0 else F k, fun j hj => ?_⟩
    cases j with
    | zero => exact if_pos rfl
    | succ j =>
      have hj' : j < L.length := Nat.lt_of_succ_lt_succ hj
      show (if L.getD j 0 = a then f 0 else F (L.getD j 0)) = f (j + 1)
      rw [if_neg (fun q => h1.1 (by rw [← q]; exact gd_mem hj')), hF j hj']
theorem nd_inj : ∀ {L : List Nat}, L.Nodup → ∀ i j, i < L.length → j < L.length → L.getD i 0 = L.getD j 0 → i = j
  | [], _, i, _, hi, _, _ => absurd hi (Nat.not_lt_zero i)
  | a :: L, h, i, j, hi, hj, e => by
    have h1 := List.nodup_cons.mp h
    cases i with
    | zero =>
      cases j with
      | zero => rfl
      | succ j =>
        have hj' : j < L.length := Nat.lt_of_succ_lt_succ hj
        exact absurd (show a ∈ L from (show a = L.getD j 0 from e) ▸ gd_mem hj') h1.1
    | succ i =>
      have hi' : i < L.length := Nat.lt_of_succ_lt_succ hi
      cases j with
      | zero => exact absurd (show a ∈ L from (show L.getD i 0 = a from e) ▸ gd_mem hi') h1.1
      | succ j => exact congrArg Nat.succ (nd_inj h1.2 i j hi' (Nat.lt_of_succ_lt_succ hj) e)
/-- what a thing leans at a place -/
abbrev gS (w F : Nat → Nat) (k : Nat) : Int := (w k : Int) * 2 * (5 - ((2 * F k : Nat) : Int))
theorem vS_lS {w F W f : Nat → Nat} : ∀ (L : List Nat) (m : Nat), (∀ j, j < L.length → W (m + j) = w (L.getD j 0) ∧ f (m + j) = F (L.getD j 0)) → vS W f L.length m = lS (gS w F) L
  | [], _, _ => rfl
  | a :: L, m, h => by
    have h0 := h 0 (Nat.succ_pos _)
    have e1 : W m = w a := h0.1
    have e2 : f m = F a := h0.2
    have ih := vS_lS (w := w) (F := F) (W := W) (f := f) L (m + 1) (fun j hj => by
      have q := h (j + 1) (Nat.succ_lt_succ hj)
      rw [show m + 1 + j = m + (j + 1) by omega]
      exact q)
    show (W m : Int) * 2 * (5 - ((2 * f m : Nat) : Int)) + vS W f L.length (m + 1) = gS w F a + lS (gS w F) L
    rw [ih, e1, e2]
theorem lsC_list {W : Nat → Int32} {w : Nat → Nat} {L : List Nat} (hn : L.Nodup) (hW : ∀ j, j < L.length → W j = nI (w (L.getD j 0))) :
    (lsC W L.length 0 (nI 0) (nI 0) = nI 1000000 ∨ ∃ F, inJ L F ∧ lsC W L.length 0 (nI 0) (nI 0) = q_ab (Int32.ofInt (lS (gS w F) L))) ∧
    (1 ≤ L.length → lsC W L.length 0 (nI 0) (nI 0) ≤ nI 1000000) ∧
    ∀ F, inJ L F → lsC W L.length 0 (nI 0) (nI 0) ≤ q_ab (Int32.ofInt (lS (gS w F) L)) := by
  have h := lsC_spec (w := W) (W := fun j => w (L.getD j 0)) (n := L.length) hW L.length 0 0 0 (Nat.zero_add _) (by decide)
  have e0 : Int32.ofInt 0 = nI 0 := by decide
  rw [e0] at h
  obtain ⟨h1, h2, h3⟩ := h
  refine ⟨?_, h2, fun F hF => ?_⟩
  · rcases h1 with h1 | ⟨f, ⟨v1, v2⟩, h1⟩
    · exact Or.inl h1
    · obtain ⟨F, hF⟩ := F_of L f hn
      refine Or.inr ⟨F, ⟨fun k hk => ?_, fun j hj k hk e => ?_⟩, ?_⟩
      · obtain ⟨i, hi, rfl⟩ := mem_gd hk
        rw [hF i hi]; exact (v1 i (Nat.zero_le _) hi).1
      · obtain ⟨i, hi, rfl⟩ := mem_gd hj
        obtain ⟨i', hi', rfl⟩ := mem_gd hk
        rw [hF i hi, hF i' hi'] at e
        rw [v2 i i' (Nat.zero_le _) hi (Nat.zero_le _) hi' e]
      · rw [h1, Int.zero_add, vS_lS (w := w) (F := F) L 0 (fun j hj => ⟨by rw [Nat.zero_add], by rw [Nat.zero_add]; exact (hF j hj).symm⟩)]
  · have hv : wV L.length 0 0 (fun j => F (L.getD j 0)) :=
      ⟨fun p _ hp => ⟨hF.1 _ (gd_mem hp), Nat.zero_testBit _⟩, fun p q _ hp _ hq e => nd_inj hn p q hp hq (hF.2 _ (gd_mem hp) _ (gd_mem hq) e)⟩
    have := h3 (fun j => F (L.getD j 0)) hv
    rw [Int.zero_add, vS_lS (w := w) (F := F) L 0 (fun j hj => ⟨by rw [Nat.zero_add], by rw [Nat.zero_add]⟩)] at this
    exact this
theorem lsC_le {W W' : Nat → Int32} {w : Nat → Nat} {L M : List Nat} (hL : L.Nodup) (hM : M.Nodup) (h : L.Perm M) (hW : ∀ j, j < L.length → W j = nI (w (L.getD j 0))) (hW' : ∀ j, j < M.length → W' j = nI (w (M.getD j 0))) :
    lsC W L.length 0 (nI 0) (nI 0) ≤ lsC W' M.length 0 (nI 0) (nI 0) := by
  obtain ⟨-, a2, a3⟩ := lsC_list hL hW
  obtain ⟨b1, -, -⟩ := lsC_list hM hW'
  rcases b1 with b1 | ⟨F, hF, b1⟩
  · by_cases hl : 1 ≤ L.length
    · rw [b1]; exact a2 hl
    · have e1 : L.length = 0 := by omega
      have e2 : M.length = 0 := by rw [← h.length_eq]; exact e1
      rw [e1, e2]
      exact Int32.le_refl _
  · rw [b1, ← lS_perm h]
    exact a3 F (inJ_perm h.symm hF)
theorem lsC_perm {W W' : Nat → Int32} {w : Nat → Nat} {L M : List Nat} (hL : L.Nodup) (hM : M.Nodup) (h : L.Perm M) (hW : ∀ j, j < L.length → W j = nI (w (L.getD j 0))) (hW' : ∀ j, j < M.length → W' j = nI (w (M.getD j 0))) :
    lsC W L.length 0 (nI 0) (nI 0) = lsC W' M.length 0 (nI 0) (nI 0) :=
  Int32.le_antisymm (lsC_le hL hM h hW hW') (lsC_le hM hL h.symm hW' hW)
/-- the premises on a cart, by number -/
def ixs (y : YS) (x : Int32) : Nat → List Nat
  | 0 => []
  | k + 1 => if y_cu y k = x ∧ y_kd y k = 0 then ixs y x k ++ [k] else ixs y x k
/-- and by place -/
def ixp (y : YS) (x : Int32) : Nat → List Nat
  | 0 => []
  | p + 1 => if t_at y x (nI p) = -4 then ixp y x p else ixp y x p ++ [(t_at y x (nI p)).toNatClampNeg]
theorem ixs_mem {y : YS} {x : Int32} : ∀ n k, k ∈ ixs y x n ↔ k < n ∧ y_cu y k = x ∧ y_kd y k = 0
  | 0, k => ⟨fun h => absurd h List.not_mem_nil, fun h => absurd h.1 (Nat.not_lt_zero k)⟩
  | n + 1, k => by
    have ih := ixs_mem (y := y) (x := x) n k
    rw [ixs]
    by_cases c : y_cu y n = x ∧ y_kd y n = 0
    · rw [if_pos c, List.mem_append, ih, List.mem_singleton]
      constructor
      · rintro (h | rfl)
        · exact ⟨by omega, h.2⟩
        · exact ⟨Nat.lt_succ_self _, c⟩
      · intro ⟨h1, h2⟩
        by_cases e : k = n
        · exact Or.inr e
        · exact Or.inl ⟨by omega, h2⟩
    · rw [if_neg c, ih]
      constructor
      · intro h; exact ⟨by omega, h.2⟩
      · intro ⟨h1, h2⟩
        by_cases e : k = n
        · subst e; exact absurd h2 c
        · exact ⟨by omega, h2⟩
theorem nd_snoc {L : List Nat} {a : Nat} (h : L.Nodup) (ha : a ∉ L) : (L ++ [a]).Nodup := by
  rw [List.nodup_append]
  refine ⟨h, List.nodup_cons.mpr ⟨List.not_mem_nil, List.nodup_nil⟩, fun b hb c hc e => ?_⟩
  rw [List.mem_singleton] at hc
  exact ha (hc ▸ e ▸ hb)
theorem ixs_nd {y : YS} {x : Int32} : ∀ n, (ixs y x n).Nodup
  | 0 => List.nodup_nil
  | n + 1 => by
    have ih := ixs_nd (y := y) (x := x) n
    rw [ixs]; split
    · exact nd_snoc ih (fun h => absurd ((ixs_mem n n).mp h).1 (Nat.lt_irrefl n))
    · exact ih
/-- the place tells the thing -/
theorem at_is {y : YS} (hD : yD y) {c k : Nat} {z : Int32} (hc : c < 2 ^ 31) (hk : k < y_n y) (h1 : y_cu y k = nI c) (h2 : y_pl y k = z) : t_at y (nI c) z = nI k := by
  refine atI_some (q := fun k => decide (y_cu y k = nI c ∧ y_pl y k = z)) (decide_eq_true ⟨h1, h2⟩) (fun j hj => decide_eq_false (fun q => ?_)) hk
  exact hD j k hj hk (q.1.trans h1.symm) (fun e => nI_ne4 hc (h1.symm.trans e)) (q.2.trans h2.symm)
theorem ixp_mem {y : YS} (hn : y_n y ≤ 12) {x : Int32} : ∀ p k, k ∈ ixp y x p ↔ ∃ q, q < p ∧ t_at y x (nI q) = nI k ∧ k < y_n y
  | 0, k => ⟨fun h => absurd h List.not_mem_nil, fun ⟨q, h, _⟩ => absurd h (Nat.not_lt_zero q)⟩
  | p + 1, k => by
    have ih := ixp_mem (y := y) hn (x := x) p k
    rw [ixp]
    rcases at_ex y x (nI p) with e | ⟨j, hj, e⟩
    · rw [if_pos e, ih]
      constructor
      · intro ⟨q, hq, h⟩; exact ⟨q, by omega, h⟩
      · intro ⟨q, hq, h, h'⟩
        by_cases eq : q = p
        · subst eq; rw [e] at h; exact absurd h.symm (nI_ne4 (by omega))
        · exact ⟨q, by omega, h, h'⟩
    · rw [if_neg (by rw [e]; exact nI_ne4 (by omega)), e, nI_clamp (by omega), List.mem_append, ih, List.mem_singleton]
      constructor
      · rintro (⟨q, hq, h⟩ | rfl)
        · exact ⟨q, by omega, h⟩
        · exact ⟨p, Nat.lt_succ_self p, e, hj⟩
      · intro ⟨q, hq, h, h'⟩
        by_cases eq : q = p
        · subst eq; rw [e] at h; exact Or.inr ((nI_eq (by omega) (by omega)).mp h).symm
        · exact Or.inl ⟨q, by omega, h, h'⟩
theorem ixp_nd {y : YS} (hn : y_n y ≤ 12) {x : Int32} : ∀ p, p ≤ 7 → (ixp y x p).Nodup
  | 0, _ => List.nodup_nil
  | p + 1, hp => by
    have ih := ixp_nd hn (x := x) p (by omega)
    rw [ixp]
    rcases at_ex y x (nI p) with e | ⟨j, hj, e⟩
    · rw [if_pos e]; exact ih
    · rw [if_neg (by rw [e]; exact nI_ne4 (by omega)), e, nI_clamp (by omega)]
      refine nd_snoc ih (fun h => ?_)
      obtain ⟨q, hq, h1, -⟩ := (ixp_mem hn p j).mp h
      have a := (at_sp hn hj e).2
      have b := (at_sp hn hj h1).2
      have := (nI_eq (a := p) (b := q) (by omega) (by omega)).mp (a.symm.trans b)
      omega
theorem ix_mem {y : YS} (hy : yI y) (hD : yD y) {c : Nat} (hc : c < y_cn y) (k : Nat) : k ∈ ixp y (nI c) 6 ↔ k ∈ ixs y (nI c) (y_n y) := by
  have hn := hy.1
  have hcn := hy.2.1
  rw [ixp_mem hn, ixs_mem]
  constructor
  · intro ⟨q, hq, h, hk⟩
    obtain ⟨h1, h2⟩ := at_sp hn hk h
    obtain ⟨hkd, -, hcu⟩ := hy.2.2.2.1 k hk
    refine ⟨hk, h1, ?_⟩
    rcases hcu with ⟨e, -⟩ | ⟨c', q', hc', hq', e1, e2, hiff⟩
    · exact absurd (h1.symm.trans e) (nI_ne4 (by omega))
    · rcases hkd with e | e
      · rw [e]; decide
      · have h6 := hiff.mpr e
        have := (nI_eq (a := q) (b := q') (by omega) (by omega)).mp (h2.symm.trans e2)
        omega
  · intro ⟨hk, h1, h2⟩
    obtain ⟨hkd, -, hcu⟩ := hy.2.2.2.1 k hk
    rcases hcu with ⟨e, -⟩ | ⟨c', q', hc', hq', e1, e2, hiff⟩
    · exact absurd (h1.symm.trans e) (nI_ne4 (by omega))
    · have h6 : q' ≠ 6 := fun e => by
        have := hiff.mp e
        rw [h2] at this
        exact absurd this (by decide)
      exact ⟨q', by omega, at_is hD (by omega) hk h1 e2, hk⟩
theorem ix_perm {y : YS} (hy : yI y) (hD : yD y) {c : Nat} (hc : c < y_cn y) : (ixp y (nI c) 6).Perm (ixs y (nI c) (y_n y)) :=
  perm_nd _ _ (ixp_nd hy.1 6 (by omega)) (ixs_nd _) (ix_mem hy hD hc)
theorem ixp_len {y : YS} {x : Int32} : ∀ p, (ixp y x p).length ≤ p
  | 0 => Nat.le_refl 0
  | p + 1 => by
    have ih := ixp_len (y := y) (x := x) p
    rw [ixp]; split
    · omega
    · rw [List.length_append]; show _ + 1 ≤ _; omega
theorem ixs_len6 {y : YS} (hy : yI y) (hD : yD y) {c : Nat} (hc : c < y_cn y) : (ixs y (nI c) (y_n y)).length ≤ 6 := by
  rw [← (ix_perm hy hD hc).length_eq]; exact ixp_len 6
theorem ixs_pn {y : YS} {x : Int32} : ∀ n, (ixs y x n).length = cN (fun k => decide (y_cu y k = x ∧ y_kd y k = 0)) n
  | 0 => rfl
  | n + 1 => by
    rw [ixs, cN, ← ixs_pn n]
    by_cases h : y_cu y n = x ∧ y_kd y n = 0
    · rw [if_pos h, if_pos (decide_eq_true h), List.length_append]; rfl
    · rw [if_neg h, if_neg (by rw [decide_eq_false h]; decide)]; rfl
/-- a sum of ints over a list -/
def lI (f : Nat → Int32) : List Nat → Int32
  | [] => 0
  | k :: L => f k + lI f L
theorem lI_snoc {f : Nat → Int32} {a : Nat} : ∀ L, lI f (L ++ [a]) = lI f L + f a
  | [] => by show f a + 0 = 0 + f a; rw [Int32.add_comm]
  | b :: L => by
    show f b + lI f (L ++ [a]) = f b + lI f L + f a
    rw [lI_snoc L, Int32.add_assoc]
theorem lI_perm {f : Nat → Int32} {L M : List Nat} (h : L.Perm M) : lI f L = lI f M := by
  induction h with
  | nil => rfl
  | cons x _ ih => rw [lI, lI, ih]
  | swap x y l => show f y + (f x + lI f l) = f x + (f y + lI f l); rw [← Int32.add_assoc, Int32.add_comm (f y), Int32.add_assoc]
  | trans _ _ a b => exact a.trans b
theorem ixs_wo {y : YS} {x : Int32} : ∀ n, lI (y_w y) (ixs y x n) = sI (fun k => if y_cu y k = x ∧ y_kd y k = nI 0 then y_w y k else 0) n
  | 0 => rfl
  | n + 1 => by
    rw [ixs, sI, ← ixs_wo n]
    by_cases h : y_cu y n = x ∧ y_kd y n = 0
    · rw [if_pos h, if_pos (show y_cu y n = x ∧ y_kd y n = nI 0 from ⟨h.1, h.2.trans (by decide)⟩), lI_snoc]
    · rw [if_neg h, if_neg (show ¬ (y_cu y n = x ∧ y_kd y n = nI 0) from fun q => h ⟨q.1, q.2.trans (by decide)⟩), Int32.add_zero]
theorem ixs_mono {y : YS} {x : Int32} {k : Nat} : ∀ n, k ≤ n → (ixs y x k).length ≤ (ixs y x n).length
  | 0, h => by rw [Nat.le_zero.mp h]; exact Nat.le_refl _
  | n + 1, h => by
    by_cases e : k = n + 1
    · subst e; exact Nat.le_refl _
    · have ih := ixs_mono (y := y) (x := x) (k := k) n (by omega)
      rw [ixs]; split
      · rw [List.length_append]; omega
      · exact ih
/-- what the class gathers -/
theorem cG_ixs {y : YS} {x : Int32} {w : Nat → Int32} (h6 : (ixs y x (y_n y)).length ≤ 6) : ∀ k, k ≤ y_n y → cGn y x k = (ixs y x k).length ∧ ∀ j, j < (ixs y x k).length → cGw y x w k j = y_w y ((ixs y x k).getD j 0)
  | 0, _ => ⟨rfl, fun j h => absurd h (Nat.not_lt_zero j)⟩
  | k + 1, hk => by
    obtain ⟨h1, h2⟩ := cG_ixs (w := w) h6 k (by omega)
    have hm := ixs_mono (y := y) (x := x) (k := k + 1) (y_n y) hk
    by_cases h : y_cu y k = x ∧ y_kd y k = 0
    · have e : ixs y x (k + 1) = ixs y x k ++ [k] := by rw [ixs, if_pos h]
      rw [e, List.length_append] at hm
      have hm' : (ixs y x k).length + 1 ≤ 6 := Nat.le_trans hm h6
      have h6' : cG y x k ∧ cGn y x k < 6 := ⟨h, by rw [h1]; omega⟩
      rw [cGn, cGw, if_pos h6', if_pos h6', e, List.length_append]
      refine ⟨by rw [h1]; rfl, fun j hj => ?_⟩
      have hj' : j < (ixs y x k).length + 1 := hj
      by_cases ej : j < (ixs y x k).length
      · rw [pk_un (by rw [h1]; omega), h2 j ej, gd_l _ _ ej]
      · obtain rfl : j = (ixs y x k).length := by omega
        rw [gd_r _ _ (Nat.le_refl _), Nat.sub_self, h1, pk_us]
        rfl
    · have e : ixs y x (k + 1) = ixs y x k := by rw [ixs, if_neg h]
      rw [cGn, cGw, if_neg (fun q => h q.1), if_neg (fun q => h q.1), e]
      exact ⟨h1, h2⟩
/-- the least of all settings, over the things by number or by place -/
theorem best_ix {y : YS} (hA : yA y) {c : Nat} (hc : c < y_cn y) {b : BS} {Wp : Nat → Int32} (hWp : ∀ j, j < (ixp y (nI c) 6).length → Wp j = y_w y ((ixp y (nI c) 6).getD j 0)) :
    lsC (b_w (gatB y (nI c) b)) (b_n (gatB y (nI c) b)) 0 (nI 0) (nI 0) = lsC Wp (ixp y (nI c) 6).length 0 (nI 0) (nI 0) := by
  obtain ⟨hy, hD, hW, -, -⟩ := hA
  have hn := hy.1
  have h6 := ixs_len6 hy hD hc
  obtain ⟨e1, e2⟩ := cG_ixs (w := b_w b) h6 (y_n y) (Nat.le_refl _)
  have hw : ∀ k, k ∈ ixs y (nI c) (y_n y) → y_w y k = nI (ixI (y_w y k)) := fun k hk => by
    obtain ⟨h1, -, h2⟩ := (ixs_mem _ k).mp hk
    obtain ⟨v, hv, e⟩ := hW k h1 h2
    exact (ixI_n (by omega) e).1
  show lsC (cGw y (nI c) (b_w b) (y_n y)) (cGn y (nI c) (y_n y)) 0 (nI 0) (nI 0) = _
  rw [e1]
  refine lsC_perm (w := fun k => ixI (y_w y k)) (ixs_nd _) (ixp_nd hn 6 (by omega)) (ix_perm hy hD hc).symm (fun j hj => ?_) (fun j hj => ?_)
  · rw [e2 j hj]; exact hw _ (gd_mem hj)
  · rw [hWp j hj]; exact hw _ ((ix_mem hy hD hc _).mp (gd_mem hj))
theorem gS_int {w q : Nat} (hq : q ≤ 5) : nI w * nI 2 * (nI 5 - nI q) - nI w * nI 2 * nI q = Int32.ofInt ((w : Int) * 2 * (5 - ((2 * q : Nat) : Int))) := by
  rw [nI_oi w, nI_oi 2, nI_oi 5, nI_oi q, ← Int32.ofInt_mul, ← Int32.ofInt_sub, ← Int32.ofInt_mul, ← Int32.ofInt_mul, ← Int32.ofInt_sub]
  congr 1
  have e2 : ((2 : Nat) : Int) = 2 := rfl
  have e5 : ((5 : Nat) : Int) = 5 := rfl
  have e : ((2 * q : Nat) : Int) = (q : Int) + q := by omega
  rw [e, e2, e5, Int.mul_sub, Int.mul_sub, Int.mul_add]
  omega
theorem lS_snoc {g : Nat → Int} {a : Nat} : ∀ L, lS g (L ++ [a]) = lS g L + g a
  | [] => by show g a + 0 = 0 + g a; omega
  | b :: L => by
    show g b + lS g (L ++ [a]) = g b + lS g L + g a
    rw [lS_snoc L]; omega
theorem i_ab (a b p r : Int32) : a + p - (b + r) = (a - b) + (p - r) := by
  rw [Int32.sub_eq_add_neg, Int32.sub_eq_add_neg a b, Int32.sub_eq_add_neg p r, Int32.neg_add, Int32.sub_eq_add_neg, Int32.add_assoc, Int32.add_assoc a (-b)]
  congr 1
  rw [← Int32.add_assoc, ← Int32.add_assoc, Int32.add_comm p]
/-- the imbalance is that of the setting as it stands -/
theorem te_lS {y : YS} (hy : yI y) {c : Nat} (hc : c < y_cn y) : ∀ k, k ≤ y_n y →
    sI (fun k => if y_cu y k = nI c then t_tt y k (nI 0) else 0) k - sI (fun k => if y_cu y k = nI c then t_tt y k (nI 1) else 0) k = Int32.ofInt (lS (gS (fun k => ixI (y_w y k)) (fun k => ixI (y_pl y k))) (ixs y (nI c) k))
  | 0, _ => by show (0 : Int32) - 0 = Int32.ofInt 0; decide
  | k + 1, hk => by
    have ih := te_lS hy hc k (by omega)
    have hcn := hy.2.1
    obtain ⟨hkd, ⟨v, hv1, hv2, hv⟩, hcu⟩ := hy.2.2.2.1 k (by omega)
    rw [sI, sI, ixs]
    by_cases h1 : y_cu y k = nI c
    · rw [if_pos h1, if_pos h1]
      rcases hcu with ⟨e, -⟩ | ⟨c', q, hc', hq, e1, e2, hiff⟩
      · exact absurd (h1.symm.trans e) (nI_ne4 (by omega))
      · by_cases h2 : y_kd y k = 0
        · have h6 : q ≠ 6 := fun e => by
            have := hiff.mp e
            rw [h2] at this
            exact absurd this (by decide)
          have ek : ¬ y_kd y k = nI 1 := by rw [h2]; decide
          have et : t_tt y k (nI 0) - t_tt y k (nI 1) = Int32.ofInt (gS (fun k => ixI (y_w y k)) (fun k => ixI (y_pl y k)) k) := by
            unfold t_tt
            rw [if_neg ek, if_neg ek, if_pos (show nI 0 = 0 by decide), if_neg (show ¬ nI 1 = 0 by decide)]
            show _ = Int32.ofInt ((ixI (y_w y k) : Int) * 2 * (5 - ((2 * ixI (y_pl y k) : Nat) : Int)))
            rw [(ixI_n (by omega) hv).2, (ixI_n (by omega) e2).2, hv, e2]
            exact gS_int (by omega)
          rw [if_pos ⟨h1, h2⟩, lS_snoc, Int32.ofInt_add, ← ih, ← et]
          exact i_ab _ _ _ _
        · have ek : y_kd y k = nI 1 := hkd.resolve_left (fun e => h2 (e.trans (by decide)))
          have e1 : t_tt y k (nI 0) = y_w y k * nI 5 := by unfold t_tt; rw [if_pos ek]
          have e2' : t_tt y k (nI 1) = y_w y k * nI 5 := by unfold t_tt; rw [if_pos ek]
          rw [if_neg (fun q => h2 q.2), e1, e2', ← ih, i_ab, Int32.sub_self, Int32.add_zero]
    · rw [if_neg h1, if_neg h1, if_neg (fun q => h1 q.1), Int32.add_zero, Int32.add_zero]
      exact ih
/-- the best can't be better than as it stands -/
theorem best_le {y : YS} (hA : yA y) {c : Nat} (hc : c < y_cn y) {Wp : Nat → Int32} (hWp : ∀ j, j < (ixp y (nI c) 6).length → Wp j = y_w y ((ixp y (nI c) 6).getD j 0)) :
    lsC Wp (ixp y (nI c) 6).length 0 (nI 0) (nI 0) ≤ t_im y (nI c) := by
  obtain ⟨hy, hD, hW, -, -⟩ := hA
  have hn := hy.1
  have hcn := hy.2.1
  have hp := ix_perm hy hD hc
  have hm := fun k hk => (ixs_mem (y := y) (x := nI c) (y_n y) k).mp ((ix_mem hy hD hc k).mp hk)
  have pl : ∀ k, k ∈ ixp y (nI c) 6 → y_pl y k = nI (ixI (y_pl y k)) ∧ ixI (y_pl y k) < 6 := fun k hk => by
    obtain ⟨h1, h2, h3⟩ := hm k hk
    obtain ⟨-, -, hcu⟩ := hy.2.2.2.1 k h1
    rcases hcu with ⟨e, -⟩ | ⟨c', q, hc', hq, e1, e2, hiff⟩
    · exact absurd (h2.symm.trans e) (nI_ne4 (by omega))
    · have h6 : q ≠ 6 := fun e => by
        have := hiff.mp e
        rw [h3] at this
        exact absurd this (by decide)
      obtain ⟨a, b⟩ := ixI_n (x := y_pl y k) (v := q) (by omega) e2
      exact ⟨a, by omega⟩
  have hF : inJ (ixp y (nI c) 6) (fun k => ixI (y_pl y k)) := by
    refine ⟨fun k hk => (pl k hk).2, fun j hj k hk e => ?_⟩
    obtain ⟨h1, h2, -⟩ := hm j hj
    obtain ⟨h1', h2', -⟩ := hm k hk
    have e' : y_pl y j = y_pl y k := (pl j hj).1.trans ((congrArg nI e).trans (pl k hk).1.symm)
    have a := at_is hD (c := c) (by omega) h1 h2 rfl
    have b := at_is hD (c := c) (by omega) h1' h2' rfl
    rw [e'] at a
    exact (nI_eq (by omega) (by omega)).mp (a.symm.trans b)
  have hw : ∀ j, j < (ixp y (nI c) 6).length → Wp j = nI (ixI (y_w y ((ixp y (nI c) 6).getD j 0))) := fun j hj => by
    obtain ⟨h1, -, h3⟩ := hm _ (gd_mem hj)
    obtain ⟨v, hv, e⟩ := hW _ h1 (h3.trans (by decide))
    rw [hWp j hj]; exact (ixI_n (by omega) e).1
  have h3 := (lsC_list (w := fun k => ixI (y_w y k)) (ixp_nd hn 6 (by omega)) hw).2.2 _ hF
  rw [lS_perm hp, ← te_lS hy hc (y_n y) (Nat.le_refl _)] at h3
  exact h3
