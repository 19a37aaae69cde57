/-! THE REFERENCE: a text read and carried out -/
def mTz (v : MS) : MS := (m_g v, m_fl v, m_ch v, m_sv v, m_why v, m_det v, m_li v, m_ld v, m_wt v, m_wm v, m_ln v, m_lz v, m_in v, 0, m_he v, m_wa v, m_fa v, m_cm v, m_cz v)
def mFa (v : MS) (x : Int32) : MS := (m_g v, m_fl v, m_ch v, m_sv v, m_why v, m_det v, m_li v, m_ld v, m_wt v, m_wm v, m_ln v, m_lz v, m_in v, m_ty v, m_he v, m_wa v, x, m_cm v, m_cz v)
def mB3 (v : MS) (n : Nat) : MS := (m_g v, m_fl v, m_ch v, m_sv v, nI 12, nI (n - 1), m_why v, m_det v, m_wt v, m_wm v, m_ln v, m_lz v, m_in v, m_ty v, m_he v, m_wa v, m_fa v, m_cm v, m_cz v)
def mB0 (v : MS) (n : Nat) : MS := (m_g v, m_fl v, m_ch v, m_sv v, nI 13, nI (n - 1), nI 0, m_det v, m_wt v, m_wm v, m_ln v, m_lz v, m_in v, m_ty v, m_he v, m_wa v, m_fa v, m_cm v, m_cz v)
abbrev dQ (cs : Nat → Nat) (n : Nat) (y : YS) (v : MS) : Int32 × MS := F_doC (cs n) y v (m_cm v (4 * n + 1)) (m_cm v (4 * n + 2)) (m_cm v (4 * n + 3))
abbrev yQ (cs : Nat → Nat) (n : Nat) (y : YS) (rs : RS) (v : MS) : Int32 × YS × RS := f_cmd (cs n) y rs (m_cm v (4 * n + 1)) (m_cm v (4 * n + 2)) (m_cm v (4 * n + 3))
def runM (cs : Nat → Nat) : Nat → Nat → Int32 → YS → RS → MS → Int32 × Nat × MS
  | 0, n, t, _, _, v => (t, n, v)
  | r + 1, n, t, y, rs, v => if t < 0 then (t, n, v) else runM cs r (n + 1) (dQ cs n y v).1 (yQ cs n y rs v).2.1 (yQ cs n y rs v).2.2 (dQ cs n y v).2
theorem runM_z {cs : Nat → Nat} {r n : Nat} {t : Int32} {y : YS} {rs : RS} {v : MS} (h : r = 0) : runM cs r n t y rs v = (t, n, v) := by subst h; rfl
theorem runM_e {cs : Nat → Nat} {r n : Nat} {t : Int32} {y : YS} {rs : RS} {v : MS} (h : t < 0) : runM cs r n t y rs v = (t, n, v) := by
  cases r with
  | zero => rfl
  | succ r => exact if_pos h
theorem runM_s {cs : Nat → Nat} {r n : Nat} {t : Int32} {y : YS} {rs : RS} {v : MS} (hr : 1 ≤ r) (h : ¬ t < 0) : runM cs r n t y rs v = runM cs (r - 1) (n + 1) (dQ cs n y v).1 (yQ cs n y rs v).2.1 (yQ cs n y rs v).2.2 (dQ cs n y v).2 := by
  obtain ⟨k, rfl⟩ : ∃ k, r = k + 1 := ⟨r - 1, by omega⟩
  exact if_neg h
def rdE (q : Int32 × Nat × MS) : Int32 × MS := if q.1 < 0 then (if q.1 = -3 then F_ends (mB3 q.2.2 q.2.1) (-3) else F_ends (mB0 q.2.2 q.2.1) (-3)) else F_ends q.2.2 (nI (m_cz q.2.2))
def rdM (cs : Nat → Nat) (z : Nat) (y : YS) (rs : RS) (s : MS) : Int32 × MS := if m_wa s < 0 then rdE (runM cs z 0 (nI 0) y rs (F_beg s)) else (-2, mFa s (m_wa s))
def F_rdM (cs : Nat → Nat) (z : Nat) (y : YS) (rs : RS) (v : MS) : Int32 × MS := rdM cs z y rs (mTz (F_prs v))
abbrev rmX11_read : Room := { frames := 8, cells := 0, slots := 0, locals := 186 }
theorem in_X11_read_X11 : ∀ w ∈ u_ws RX11 TX11 19, w ∈ wsX11_read := by decide +kernel
set_option maxHeartbeats 4000000 in
set_option maxRecDepth 100000 in
theorem kX11_read {D : va_G} {ct : Nat → ClassId} {l : Launch} (o : Nat → Nat) (v : MS) (R : va_W) (cs : Nat → Nat) (z : Nat) (K : YS → MS → Prop) (y : YS) (rs : RS) (ht : m_ty v ≤ 60) (hz : z ≤ 61) (hK0 : m_wa (mTz (F_prs v)) < 0 → K y (F_beg (mTz (F_prs v)))) (hKi : ∀ y1 s1, K y1 s1 → yI y1 ∧ RelI y1 (m_g s1) ∧ (∀ j, j < 9 → nF (m_fl s1 j)) ∧ m_ch s1 ≤ 8 ∧ m_cz s1 = z ∧ ∀ i, i < z → cs i < 9 ∧ m_cm s1 (4 * i) = nI (cdL (cs i))) (hKc : ∀ y1 rs1 s1 n, n < z → K y1 s1 → K (yQ cs n y1 rs1 s1).2.1 (dQ cs n y1 s1).2) : MI D ct l yX11_read wsX11_read rmX11_read (MW ct o v R) [.ref (o 0)] (fun r0 (_ : Unit) => r0 = (F_rdM cs z y rs v).1) (fun _ : Unit => MW ct o (F_rdM cs z y rs v).2 R) := by
  refine MIof (cc := cX11_read) (maxL := 3) (ret := (some .int)) (by decide) rfl (Nat.le_of_ble_eq_true rfl) ?_
  intro p e s m args below meth c A H locs F hP hK hD hS hA ls hl
  obtain ⟨hx, hb, hr, hlocks, hml, hown, hts, hin⟩ := F
  have hl : lv_has ls 3 [(0, .ref (o 0))] := hl
  have h_X11 := in_X11_read_X11
  have f27 := hts (.fieldLink RX11 27 "CartArgumentsModel" "faultAt" "I") (by decide +kernel)
  have f41 := hts (.fieldLink RX11 41 "CartArgumentsModel" "why" "I") (by decide +kernel)
  have f44 := hts (.fieldLink RX11 44 "CartArgumentsModel" "detail" "I") (by decide +kernel)
  have f47 := hts (.fieldLink RX11 47 "CartArgumentsModel" "lies" "I") (by decide +kernel)
  have f54 := hts (.fieldLink RX11 54 "CartArgumentsModel" "liesDetail" "I") (by decide +kernel)
  have f192 := hts (.fieldLink RX11 192 "CartArgumentsModel" "typed" "I") (by decide +kernel)
  have f198 := hts (.fieldLink RX11 198 "CartArgumentsModel" "wrongAt" "I") (by decide +kernel)
  have f215 := hts (.fieldLink RX11 215 "CartArgumentsModel" "commandMany" "I") (by decide +kernel)
  refine lv_aload_n hx hb dX11_read_0 rfl (lv_at hl 0 rfl) ?_
  refine zVV [] [] (kX11_parse (o) (v) (R) (show m_ty v ≤ 60 from ht)) hx hb hml hown hts (cwV 0 hts gX11_read_X11_parse rfl rfl rfl (by decide +kernel) ⟨(Nat.le_of_ble_eq_true rfl), (Nat.le_of_ble_eq_true rfl)⟩) hK hP hD hS hA (va_recv hK hP (ci := 10) (q0 := 0) rfl rfl) rfl hl.1 rfl (Nat.le_of_ble_eq_true rfl) dX11_read_1 ⟨(Nat.le_of_ble_eq_true rfl), (Nat.le_of_ble_eq_true rfl)⟩ (fun _ H locs hr_1 hP hD hS => ?_)
  have hP : va_P D vwCl (MW ct o (F_prs v) R) H := hP
  have hD : va_D A (MW ct o (F_prs v) R) := hD
  obtain ⟨p0, hp0⟩ : ∃ s9 : MS, s9 = F_prs v := ⟨_, rfl⟩
  have hP : va_P D vwCl (MW ct o p0 R) H := by rw [hp0]; exact hP
  have hD : va_D A (MW ct o p0 R) := by rw [hp0]; exact hD
  refine lv_aload_n hx hb dX11_read_4 rfl (lv_at hl 0 rfl) ?_
  refine lv_iconst (v := nI (0)) hx hb dX11_read_5 (by decide) ?_
  refine va_put (ci := 10) (v := .int (nI (0))) (ty := .int) hx hb hts h_X11 tyX11 tyX11_ok nmX11 hown hK hP hD hS 0 rfl rfl 13 (by decide) f192 (fun _ h9 => h9) rfl (by decide +kernel) rfl rfl (Nat.le_of_ble_eq_true rfl) dX11_read_6 (fun H locs hP hD hS => ?_)
  have hP : va_P D vwCl (MW ct o (m_g p0, m_fl p0, m_ch p0, m_sv p0, m_why p0, m_det p0, m_li p0, m_ld p0, m_wt p0, m_wm p0, m_ln p0, m_lz p0, m_in p0, 0, m_he p0, m_wa p0, m_fa p0, m_cm p0, m_cz p0) R) H := hP
  have hD : va_D A (MW ct o (m_g p0, m_fl p0, m_ch p0, m_sv p0, m_why p0, m_det p0, m_li p0, m_ld p0, m_wt p0, m_wm p0, m_ln p0, m_lz p0, m_in p0, 0, m_he p0, m_wa p0, m_fa p0, m_cm p0, m_cz p0) R) := hD
  obtain ⟨s0, hs0⟩ : ∃ s9 : MS, s9 = mTz p0 := ⟨_, rfl⟩
  have hP : va_P D vwCl (MW ct o s0 R) H := by rw [hs0]; exact hP
  have hD : va_D A (MW ct o s0 R) := by rw [hs0]; exact hD
  refine lv_aload_n hx hb dX11_read_9 rfl (lv_at hl 0 rfl) ?_
  refine va_get (ci := 10) (v := .int (m_wa s0)) hx hb hts h_X11 hown hK hP 0 rfl rfl 15 (by decide) f198 (fun _ h9 => h9) rfl dX11_read_10 ?_
  refine lv_if_lt (tgt := 27) hx hb dX11_read_13 (by decide) (fun c13_1 => ?_) (fun c13_1 => ?_)
  · skip
    refine lv_aload_n hx hb dX11_read_27 rfl (lv_at hl 0 rfl) ?_
    refine zVV [] [] (kX11_begins (o) (s0) (R)) hx hb hml hown hts (cwV 0 hts gX11_read_X11_begins rfl rfl rfl (by decide +kernel) ⟨(Nat.le_of_ble_eq_true rfl), (Nat.le_of_ble_eq_true rfl)⟩) hK hP hD hS hA (va_recv hK hP (ci := 10) (q0 := 0) rfl rfl) rfl hl.1 rfl (Nat.le_of_ble_eq_true rfl) dX11_read_28 ⟨(Nat.le_of_ble_eq_true rfl), (Nat.le_of_ble_eq_true rfl)⟩ (fun _ H locs hr_28 hP hD hS => ?_)
    have hP : va_P D vwCl (MW ct o ((cpb (m_g s0) 81 0 10 81), (cpf (m_fl s0) 9 0 10 9), (m_ch s0), (m_sv s0), (m_why s0), (m_det s0), (m_li s0), (m_ld s0), (m_wt s0), (m_wm s0), (m_ln s0), (m_lz s0), (m_in s0), (m_ty s0), (m_he s0), (m_wa s0), (m_fa s0), (m_cm s0), (m_cz s0)) R) H := hP
    have hD : va_D A (MW ct o ((cpb (m_g s0) 81 0 10 81), (cpf (m_fl s0) 9 0 10 9), (m_ch s0), (m_sv s0), (m_why s0), (m_det s0), (m_li s0), (m_ld s0), (m_wt s0), (m_wm s0), (m_ln s0), (m_lz s0), (m_in s0), (m_ty s0), (m_he s0), (m_wa s0), (m_fa s0), (m_cm s0), (m_cz s0)) R) := hD
    obtain ⟨b0, hb0⟩ : ∃ s9 : MS, s9 = F_beg s0 := ⟨_, rfl⟩
    have hP : va_P D vwCl (MW ct o b0 R) H := by rw [hb0]; exact hP
    have hD : va_D A (MW ct o b0 R) := by rw [hb0]; exact hD
    refine lv_iconst (v := nI (0)) hx hb dX11_read_31 (by decide) ?_
    refine lv_istore_n (lv' := [(1, .int (nI (0))), (0, .ref (o 0))]) hx hb dX11_read_32 rfl hl (by decide) rfl (fun ls hl => ?_)
    refine lv_iconst (v := nI (0)) hx hb dX11_read_33 (by decide) ?_
    refine lv_istore_n (lv' := [(2, .int (nI (0))), (1, .int (nI (0))), (0, .ref (o 0))]) hx hb dX11_read_34 rfl hl (by decide) rfl (fun ls hl => ?_)
    have lp35 : ∀ (fu : Nat) (n : Nat) (t : Int32) (y1 : YS) (rs1 : RS) (v1 : MS) (H : Heap) (locs : List Loc) (ls : Array Slot), (n ≤ z) → (K y1 v1) → (t < 0 → 1 ≤ n) → (runM cs (z - n) n t y1 rs1 v1 = runM cs z 0 (nI 0) y rs b0) → z - n < fu → va_P D vwCl (MW ct o v1 R) H → va_D A (MW ct o v1 R) → va_S A s.heap H locs → lv_has ls 3 [(0, .ref (o 0)), (1, .int (t)), (2, .int (nI (n)))] → W p l e rmX11_read s m args below meth c H locs 0 0 (MQ below (va_Qi (fun r0 (_ : Unit) => r0 = (F_rdM cs z y rs v).1) (zB D ct A (fun _ : Unit => MW ct o (F_rdM cs z y rs v).2 R)) A) args s rmX11_read.cells rmX11_read.slots A) (F0 m 35 ls []) := by
      intro fu
      induction fu with
      | zero => intro n t y1 rs1 v1 H locs ls hn hK1 ht1 htot hfu; exact absurd hfu (Nat.not_lt_zero _)
      | succ fu ih35 =>
        intro n t y1 rs1 v1 H locs ls hn hK1 ht1 htot hfu hP hD hS hl
        refine lv_iload_n hx hb dX11_read_35 rfl (lv_at hl 2 rfl) ?_
        have hki := hKi y1 v1 hK1
        have hz1 := hki.2.2.2.2.1
        refine lv_aload_n hx hb dX11_read_36 rfl (lv_at hl 0 rfl) ?_
        refine va_get (ci := 10) (v := .int (nI (m_cz v1))) hx hb hts h_X11 hown hK hP 0 rfl rfl 18 (by decide) f215 (fun _ h9 => h9) rfl dX11_read_37 ?_
        refine zN_icmp_ge (tgt := 61) hx hb (by omega) (by omega) dX11_read_40 (by decide) (fun c40_2 => ?_) (fun c40_2 => ?_)
        · skip
          refine lv_iload_n hx hb dX11_read_61 rfl (lv_at hl 1 rfl) ?_
          refine lv_if_ge (tgt := 122) hx hb dX11_read_62 (by decide) (fun c62_3 => ?_) (fun c62_3 => ?_)
          · skip
            refine lv_aload_n hx hb dX11_read_122 rfl (lv_at hl 0 rfl) ?_
            refine lv_aload_n hx hb dX11_read_123 rfl (lv_at hl 0 rfl) ?_
            refine va_get (ci := 10) (v := .int (nI (m_cz v1))) hx hb hts h_X11 hown hK hP 0 rfl rfl 18 (by decide) f215 (fun _ h9 => h9) rfl dX11_read_124 ?_
            refine zVI [.int (nI (m_cz v1))] [] (kX11_ends (o) (v1) (R) (nI (m_cz v1)) (show m_ch v1 ≤ 8 from hki.2.2.2.1)) hx hb hml hown hts (cwV 1 hts gX11_read_X11_ends rfl rfl rfl (by decide +kernel) ⟨(Nat.le_of_ble_eq_true rfl), (Nat.le_of_ble_eq_true rfl)⟩) hK hP hD hS hA (va_recv hK hP (ci := 10) (q0 := 0) rfl rfl) rfl hl.1 rfl (Nat.le_of_ble_eq_true rfl) dX11_read_127 ⟨(Nat.le_of_ble_eq_true rfl), (Nat.le_of_ble_eq_true rfl)⟩ (fun r_127 _ H locs hr_127 hP hD hS => ?_)
            subst hr_127
            have hP : va_P D vwCl (MW ct o (F_ends v1 (nI (m_cz v1))).2 R) H := hP
            have hD : va_D A (MW ct o (F_ends v1 (nI (m_cz v1))).2 R) := hD
            have e9 : F_rdM cs z y rs v = (((F_ends v1 (nI (m_cz v1))).1), (F_ends v1 (nI (m_cz v1))).2) := (by rw [F_rdM, ← hp0, ← hs0, rdM, if_pos c13_1, ← hb0, ← htot, runM_z (by omega)]; unfold rdE; exact if_neg (Int32.not_lt.mpr c62_3))
            exact zIret () hx hb hr hlocks hK (by show va_P D vwCl (MW ct o (F_rdM cs z y rs v).2 R) H; rw [e9]; exact hP) (by show va_D A (MW ct o (F_rdM cs z y rs v).2 R); rw [e9]; exact hD) hS dX11_read_130 (show ((F_ends v1 (nI (m_cz v1))).1) = (F_rdM cs z y rs v).1 from (by rw [e9]))
          · skip
            have hlt : t < 0 := Int32.not_le.mp c62_3
            have hn1 := ht1 hlt
            refine lv_aload_n hx hb dX11_read_65 rfl (lv_at hl 0 rfl) ?_
            refine lv_iload_n hx hb dX11_read_66 rfl (lv_at hl 1 rfl) ?_
            refine lv_bipush (v := (-3)) hx hb dX11_read_67 (by decide) ?_
            refine lv_icmp_ne (tgt := 79) hx hb dX11_read_69 (by decide) (fun c69_4 => ?_) (fun c69_4 => ?_)
            · skip
              refine lv_iconst (v := nI (0)) hx hb dX11_read_79 (by decide) ?_
              refine va_put (ci := 10) (v := .int (nI (0))) (ty := .int) hx hb hts h_X11 tyX11 tyX11_ok nmX11 hown hK hP hD hS 0 rfl rfl 6 (by decide) f47 (fun _ h9 => h9) rfl (by decide +kernel) rfl rfl (Nat.le_of_ble_eq_true rfl) dX11_read_80 (fun H locs hP hD hS => ?_)
              have hP : va_P D vwCl (MW ct o (m_g v1, m_fl v1, m_ch v1, m_sv v1, m_why v1, m_det v1, nI (0), m_ld v1, m_wt v1, m_wm v1, m_ln v1, m_lz v1, m_in v1, m_ty v1, m_he v1, m_wa v1, m_fa v1, m_cm v1, m_cz v1) R) H := hP
              have hD : va_D A (MW ct o (m_g v1, m_fl v1, m_ch v1, m_sv v1, m_why v1, m_det v1, nI (0), m_ld v1, m_wt v1, m_wm v1, m_ln v1, m_lz v1, m_in v1, m_ty v1, m_he v1, m_wa v1, m_fa v1, m_cm v1, m_cz v1) R) := hD
              refine lv_aload_n hx hb dX11_read_83 rfl (lv_at hl 0 rfl) ?_
              refine lv_aload_n hx hb dX11_read_84 rfl (lv_at hl 0 rfl) ?_
              refine va_get (ci := 10) (v := .int (m_det v1)) hx hb hts h_X11 hown hK hP 0 rfl rfl 5 (by decide) f44 (fun _ h9 => h9) rfl dX11_read_85 ?_
              refine va_put (ci := 10) (v := .int (m_det v1)) (ty := .int) hx hb hts h_X11 tyX11 tyX11_ok nmX11 hown hK hP hD hS 0 rfl rfl 7 (by decide) f54 (fun _ h9 => h9) rfl (by decide +kernel) rfl rfl (Nat.le_of_ble_eq_true rfl) dX11_read_88 (fun H locs hP hD hS => ?_)
              have hP : va_P D vwCl (MW ct o (m_g v1, m_fl v1, m_ch v1, m_sv v1, m_why v1, m_det v1, nI (0), m_det v1, m_wt v1, m_wm v1, m_ln v1, m_lz v1, m_in v1, m_ty v1, m_he v1, m_wa v1, m_fa v1, m_cm v1, m_cz v1) R) H := hP
              have hD : va_D A (MW ct o (m_g v1, m_fl v1, m_ch v1, m_sv v1, m_why v1, m_det v1, nI (0), m_det v1, m_wt v1, m_wm v1, m_ln v1, m_lz v1, m_in v1, m_ty v1, m_he v1, m_wa v1, m_fa v1, m_cm v1, m_cz v1) R) := hD
              refine lv_aload_n hx hb dX11_read_91 rfl (lv_at hl 0 rfl) ?_
              refine lv_iload_n hx hb dX11_read_92 rfl (lv_at hl 1 rfl) ?_
              refine lv_bipush (v := (-3)) hx hb dX11_read_93 (by decide) ?_
              refine lv_icmp_ne (tgt := 103) hx hb dX11_read_95 (by decide) (fun c95_5 => ?_) (fun c95_5 => ?_)
              · skip
                refine lv_bipush (v := nI (13)) hx hb dX11_read_103 (by decide) ?_
                refine va_put (ci := 10) (v := .int (nI (13))) (ty := .int) hx hb hts h_X11 tyX11 tyX11_ok nmX11 hown hK hP hD hS 0 rfl rfl 4 (by decide) f41 (fun _ h9 => h9) rfl (by decide +kernel) rfl rfl (Nat.le_of_ble_eq_true rfl) dX11_read_105 (fun H locs hP hD hS => ?_)
                have hP : va_P D vwCl (MW ct o (m_g v1, m_fl v1, m_ch v1, m_sv v1, nI (13), m_det v1, nI (0), m_det v1, m_wt v1, m_wm v1, m_ln v1, m_lz v1, m_in v1, m_ty v1, m_he v1, m_wa v1, m_fa v1, m_cm v1, m_cz v1) R) H := hP
                have hD : va_D A (MW ct o (m_g v1, m_fl v1, m_ch v1, m_sv v1, nI (13), m_det v1, nI (0), m_det v1, m_wt v1, m_wm v1, m_ln v1, m_lz v1, m_in v1, m_ty v1, m_he v1, m_wa v1, m_fa v1, m_cm v1, m_cz v1) R) := hD
                refine lv_aload_n hx hb dX11_read_108 rfl (lv_at hl 0 rfl) ?_
                refine lv_iload_n hx hb dX11_read_109 rfl (lv_at hl 2 rfl) ?_
                refine lv_iconst (v := nI (1)) hx hb dX11_read_110 (by decide) ?_
                refine zNsub hx hb (by omega) dX11_read_111 ?_
                refine va_put (ci := 10) (v := .int (nI ((n - 1)))) (ty := .int) hx hb hts h_X11 tyX11 tyX11_ok nmX11 hown hK hP hD hS 0 rfl rfl 5 (by decide) f44 (fun _ h9 => h9) rfl (by decide +kernel) rfl rfl (Nat.le_of_ble_eq_true rfl) dX11_read_112 (fun H locs hP hD hS => ?_)
                have hP : va_P D vwCl (MW ct o (m_g v1, m_fl v1, m_ch v1, m_sv v1, nI (13), nI ((n - 1)), nI (0), m_det v1, m_wt v1, m_wm v1, m_ln v1, m_lz v1, m_in v1, m_ty v1, m_he v1, m_wa v1, m_fa v1, m_cm v1, m_cz v1) R) H := hP
                have hD : va_D A (MW ct o (m_g v1, m_fl v1, m_ch v1, m_sv v1, nI (13), nI ((n - 1)), nI (0), m_det v1, m_wt v1, m_wm v1, m_ln v1, m_lz v1, m_in v1, m_ty v1, m_he v1, m_wa v1, m_fa v1, m_cm v1, m_cz v1) R) := hD
                obtain ⟨w4, hw4⟩ : ∃ s9 : MS, s9 = mB0 v1 n := ⟨_, rfl⟩
                have hP : va_P D vwCl (MW ct o w4 R) H := by rw [hw4]; exact hP
                have hD : va_D A (MW ct o w4 R) := by rw [hw4]; exact hD
                refine lv_aload_n hx hb dX11_read_115 rfl (lv_at hl 0 rfl) ?_
                refine lv_bipush (v := (-3)) hx hb dX11_read_116 (by decide) ?_
                refine zVI [.int ((-3))] [] (kX11_ends (o) (w4) (R) ((-3)) (show m_ch w4 ≤ 8 from (by rw [hw4]; exact hki.2.2.2.1))) hx hb hml hown hts (cwV 1 hts gX11_read_X11_ends rfl rfl rfl (by decide +kernel) ⟨(Nat.le_of_ble_eq_true rfl), (Nat.le_of_ble_eq_true rfl)⟩) hK hP hD hS hA (va_recv hK hP (ci := 10) (q0 := 0) rfl rfl) rfl hl.1 rfl (Nat.le_of_ble_eq_true rfl) dX11_read_118 ⟨(Nat.le_of_ble_eq_true rfl), (Nat.le_of_ble_eq_true rfl)⟩ (fun r_118 _ H locs hr_118 hP hD hS => ?_)
                subst hr_118
                have hP : va_P D vwCl (MW ct o (F_ends w4 ((-3))).2 R) H := hP
                have hD : va_D A (MW ct o (F_ends w4 ((-3))).2 R) := hD
                have e9 : F_rdM cs z y rs v = (((F_ends w4 ((-3))).1), (F_ends w4 ((-3))).2) := (by rw [F_rdM, ← hp0, ← hs0, rdM, if_pos c13_1, ← hb0, ← htot, runM_z (by omega)]; unfold rdE; exact ((if_pos hlt).trans (if_neg c69_4)).trans (by rw [hw4]; first | done | rfl))
                exact zIret () hx hb hr hlocks hK (by show va_P D vwCl (MW ct o (F_rdM cs z y rs v).2 R) H; rw [e9]; exact hP) (by show va_D A (MW ct o (F_rdM cs z y rs v).2 R); rw [e9]; exact hD) hS dX11_read_121 (show ((F_ends w4 ((-3))).1) = (F_rdM cs z y rs v).1 from (by rw [e9]))
              · skip
                exact absurd c95_5 c69_4
            · skip
              refine lv_aload_n hx hb dX11_read_72 rfl (lv_at hl 0 rfl) ?_
              refine va_get (ci := 10) (v := .int (m_why v1)) hx hb hts h_X11 hown hK hP 0 rfl rfl 4 (by decide) f41 (fun _ h9 => h9) rfl dX11_read_73 ?_
              refine lv_goto (tgt := 80) hx hb dX11_read_76 (by decide) ?_
              refine va_put (ci := 10) (v := .int (m_why v1)) (ty := .int) hx hb hts h_X11 tyX11 tyX11_ok nmX11 hown hK hP hD hS 0 rfl rfl 6 (by decide) f47 (fun _ h9 => h9) rfl (by decide +kernel) rfl rfl (Nat.le_of_ble_eq_true rfl) dX11_read_80 (fun H locs hP hD hS => ?_)
              have hP : va_P D vwCl (MW ct o (m_g v1, m_fl v1, m_ch v1, m_sv v1, m_why v1, m_det v1, m_why v1, m_ld v1, m_wt v1, m_wm v1, m_ln v1, m_lz v1, m_in v1, m_ty v1, m_he v1, m_wa v1, m_fa v1, m_cm v1, m_cz v1) R) H := hP
              have hD : va_D A (MW ct o (m_g v1, m_fl v1, m_ch v1, m_sv v1, m_why v1, m_det v1, m_why v1, m_ld v1, m_wt v1, m_wm v1, m_ln v1, m_lz v1, m_in v1, m_ty v1, m_he v1, m_wa v1, m_fa v1, m_cm v1, m_cz v1) R) := hD
              refine lv_aload_n hx hb dX11_read_83 rfl (lv_at hl 0 rfl) ?_
              refine lv_aload_n hx hb dX11_read_84 rfl (lv_at hl 0 rfl) ?_
              refine va_get (ci := 10) (v := .int (m_det v1)) hx hb hts h_X11 hown hK hP 0 rfl rfl 5 (by decide) f44 (fun _ h9 => h9) rfl dX11_read_85 ?_
              refine va_put (ci := 10) (v := .int (m_det v1)) (ty := .int) hx hb hts h_X11 tyX11 tyX11_ok nmX11 hown hK hP hD hS 0 rfl rfl 7 (by decide) f54 (fun _ h9 => h9) rfl (by decide +kernel) rfl rfl (Nat.le_of_ble_eq_true rfl) dX11_read_88 (fun H locs hP hD hS => ?_)
              have hP : va_P D vwCl (MW ct o (m_g v1, m_fl v1, m_ch v1, m_sv v1, m_why v1, m_det v1, m_why v1, m_det v1, m_wt v1, m_wm v1, m_ln v1, m_lz v1, m_in v1, m_ty v1, m_he v1, m_wa v1, m_fa v1, m_cm v1, m_cz v1) R) H := hP
              have hD : va_D A (MW ct o (m_g v1, m_fl v1, m_ch v1, m_sv v1, m_why v1, m_det v1, m_why v1, m_det v1, m_wt v1, m_wm v1, m_ln v1, m_lz v1, m_in v1, m_ty v1, m_he v1, m_wa v1, m_fa v1, m_cm v1, m_cz v1) R) := hD
              refine lv_aload_n hx hb dX11_read_91 rfl (lv_at hl 0 rfl) ?_
              refine lv_iload_n hx hb dX11_read_92 rfl (lv_at hl 1 rfl) ?_
              refine lv_bipush (v := (-3)) hx hb dX11_read_93 (by decide) ?_
              refine lv_icmp_ne (tgt := 103) hx hb dX11_read_95 (by decide) (fun c95_6 => ?_) (fun c95_6 => ?_)
              · skip
                exact absurd c69_4 c95_6
              · skip
                refine lv_bipush (v := nI (12)) hx hb dX11_read_98 (by decide) ?_
                refine lv_goto (tgt := 105) hx hb dX11_read_100 (by decide) ?_
                refine va_put (ci := 10) (v := .int (nI (12))) (ty := .int) hx hb hts h_X11 tyX11 tyX11_ok nmX11 hown hK hP hD hS 0 rfl rfl 4 (by decide) f41 (fun _ h9 => h9) rfl (by decide +kernel) rfl rfl (Nat.le_of_ble_eq_true rfl) dX11_read_105 (fun H locs hP hD hS => ?_)
                have hP : va_P D vwCl (MW ct o (m_g v1, m_fl v1, m_ch v1, m_sv v1, nI (12), m_det v1, m_why v1, m_det v1, m_wt v1, m_wm v1, m_ln v1, m_lz v1, m_in v1, m_ty v1, m_he v1, m_wa v1, m_fa v1, m_cm v1, m_cz v1) R) H := hP
                have hD : va_D A (MW ct o (m_g v1, m_fl v1, m_ch v1, m_sv v1, nI (12), m_det v1, m_why v1, m_det v1, m_wt v1, m_wm v1, m_ln v1, m_lz v1, m_in v1, m_ty v1, m_he v1, m_wa v1, m_fa v1, m_cm v1, m_cz v1) R) := hD
                refine lv_aload_n hx hb dX11_read_108 rfl (lv_at hl 0 rfl) ?_
                refine lv_iload_n hx hb dX11_read_109 rfl (lv_at hl 2 rfl) ?_
                refine lv_iconst (v := nI (1)) hx hb dX11_read_110 (by decide) ?_
                refine zNsub hx hb (by omega) dX11_read_111 ?_
                refine va_put (ci := 10) (v := .int (nI ((n - 1)))) (ty := .int) hx hb hts h_X11 tyX11 tyX11_ok nmX11 hown hK hP hD hS 0 rfl rfl 5 (by decide) f44 (fun _ h9 => h9) rfl (by decide +kernel) rfl rfl (Nat.le_of_ble_eq_true rfl) dX11_read_112 (fun H locs hP hD hS => ?_)
                have hP : va_P D vwCl (MW ct o (m_g v1, m_fl v1, m_ch v1, m_sv v1, nI (12), nI ((n - 1)), m_why v1, m_det v1, m_wt v1, m_wm v1, m_ln v1, m_lz v1, m_in v1, m_ty v1, m_he v1, m_wa v1, m_fa v1, m_cm v1, m_cz v1) R) H := hP
                have hD : va_D A (MW ct o (m_g v1, m_fl v1, m_ch v1, m_sv v1, nI (12), nI ((n - 1)), m_why v1, m_det v1, m_wt v1, m_wm v1, m_ln v1, m_lz v1, m_in v1, m_ty v1, m_he v1, m_wa v1, m_fa v1, m_cm v1, m_cz v1) R) := hD
                obtain ⟨w4, hw4⟩ : ∃ s9 : MS, s9 = mB3 v1 n := ⟨_, rfl⟩
                have hP : va_P D vwCl (MW ct o w4 R) H := by rw [hw4]; exact hP
                have hD : va_D A (MW ct o w4 R) := by rw [hw4]; exact hD
                refine lv_aload_n hx hb dX11_read_115 rfl (lv_at hl 0 rfl) ?_
                refine lv_bipush (v := (-3)) hx hb dX11_read_116 (by decide) ?_
                refine zVI [.int ((-3))] [] (kX11_ends (o) (w4) (R) ((-3)) (show m_ch w4 ≤ 8 from (by rw [hw4]; exact hki.2.2.2.1))) hx hb hml hown hts (cwV 1 hts gX11_read_X11_ends rfl rfl rfl (by decide +kernel) ⟨(Nat.le_of_ble_eq_true rfl), (Nat.le_of_ble_eq_true rfl)⟩) hK hP hD hS hA (va_recv hK hP (ci := 10) (q0 := 0) rfl rfl) rfl hl.1 rfl (Nat.le_of_ble_eq_true rfl) dX11_read_118 ⟨(Nat.le_of_ble_eq_true rfl), (Nat.le_of_ble_eq_true rfl)⟩ (fun r_118 _ H locs hr_118 hP hD hS => ?_)
                subst hr_118
                have hP : va_P D vwCl (MW ct o (F_ends w4 ((-3))).2 R) H := hP
                have hD : va_D A (MW ct o (F_ends w4 ((-3))).2 R) := hD
                have e9 : F_rdM cs z y rs v = (((F_ends w4 ((-3))).1), (F_ends w4 ((-3))).2) := (by rw [F_rdM, ← hp0, ← hs0, rdM, if_pos c13_1, ← hb0, ← htot, runM_z (by omega)]; unfold rdE; exact ((if_pos hlt).trans (if_pos c69_4)).trans (by rw [hw4]; first | done | rfl))
                exact zIret () hx hb hr hlocks hK (by show va_P D vwCl (MW ct o (F_rdM cs z y rs v).2 R) H; rw [e9]; exact hP) (by show va_D A (MW ct o (F_rdM cs z y rs v).2 R); rw [e9]; exact hD) hS dX11_read_121 (show ((F_ends w4 ((-3))).1) = (F_rdM cs z y rs v).1 from (by rw [e9]))
        · skip
          have hnz : n < z := by omega
          refine lv_iload_n hx hb dX11_read_43 rfl (lv_at hl 1 rfl) ?_
          refine lv_if_lt (tgt := 61) hx hb dX11_read_44 (by decide) (fun c44_7 => ?_) (fun c44_7 => ?_)
          · skip
            refine lv_iload_n hx hb dX11_read_61 rfl (lv_at hl 1 rfl) ?_
            refine lv_if_ge (tgt := 122) hx hb dX11_read_62 (by decide) (fun c62_8 => ?_) (fun c62_8 => ?_)
            · skip
              exact absurd c44_7 (Int32.not_lt.mpr c62_8)
            · skip
              have hlt : t < 0 := Int32.not_le.mp c62_8
              have hn1 := ht1 hlt
              refine lv_aload_n hx hb dX11_read_65 rfl (lv_at hl 0 rfl) ?_
              refine lv_iload_n hx hb dX11_read_66 rfl (lv_at hl 1 rfl) ?_
              refine lv_bipush (v := (-3)) hx hb dX11_read_67 (by decide) ?_
              refine lv_icmp_ne (tgt := 79) hx hb dX11_read_69 (by decide) (fun c69_9 => ?_) (fun c69_9 => ?_)
              · skip
                refine lv_iconst (v := nI (0)) hx hb dX11_read_79 (by decide) ?_
                refine va_put (ci := 10) (v := .int (nI (0))) (ty := .int) hx hb hts h_X11 tyX11 tyX11_ok nmX11 hown hK hP hD hS 0 rfl rfl 6 (by decide) f47 (fun _ h9 => h9) rfl (by decide +kernel) rfl rfl (Nat.le_of_ble_eq_true rfl) dX11_read_80 (fun H locs hP hD hS => ?_)
                have hP : va_P D vwCl (MW ct o (m_g v1, m_fl v1, m_ch v1, m_sv v1, m_why v1, m_det v1, nI (0), m_ld v1, m_wt v1, m_wm v1, m_ln v1, m_lz v1, m_in v1, m_ty v1, m_he v1, m_wa v1, m_fa v1, m_cm v1, m_cz v1) R) H := hP
                have hD : va_D A (MW ct o (m_g v1, m_fl v1, m_ch v1, m_sv v1, m_why v1, m_det v1, nI (0), m_ld v1, m_wt v1, m_wm v1, m_ln v1, m_lz v1, m_in v1, m_ty v1, m_he v1, m_wa v1, m_fa v1, m_cm v1, m_cz v1) R) := hD
                refine lv_aload_n hx hb dX11_read_83 rfl (lv_at hl 0 rfl) ?_
                refine lv_aload_n hx hb dX11_read_84 rfl (lv_at hl 0 rfl) ?_
                refine va_get (ci := 10) (v := .int (m_det v1)) hx hb hts h_X11 hown hK hP 0 rfl rfl 5 (by decide) f44 (fun _ h9 => h9) rfl dX11_read_85 ?_
                refine va_put (ci := 10) (v := .int (m_det v1)) (ty := .int) hx hb hts h_X11 tyX11 tyX11_ok nmX11 hown hK hP hD hS 0 rfl rfl 7 (by decide) f54 (fun _ h9 => h9) rfl (by decide +kernel) rfl rfl (Nat.le_of_ble_eq_true rfl) dX11_read_88 (fun H locs hP hD hS => ?_)
                have hP : va_P D vwCl (MW ct o (m_g v1, m_fl v1, m_ch v1, m_sv v1, m_why v1, m_det v1, nI (0), m_det v1, m_wt v1, m_wm v1, m_ln v1, m_lz v1, m_in v1, m_ty v1, m_he v1, m_wa v1, m_fa v1, m_cm v1, m_cz v1) R) H := hP
                have hD : va_D A (MW ct o (m_g v1, m_fl v1, m_ch v1, m_sv v1, m_why v1, m_det v1, nI (0), m_det v1, m_wt v1, m_wm v1, m_ln v1, m_lz v1, m_in v1, m_ty v1, m_he v1, m_wa v1, m_fa v1, m_cm v1, m_cz v1) R) := hD
                refine lv_aload_n hx hb dX11_read_91 rfl (lv_at hl 0 rfl) ?_
                refine lv_iload_n hx hb dX11_read_92 rfl (lv_at hl 1 rfl) ?_
                refine lv_bipush (v := (-3)) hx hb dX11_read_93 (by decide) ?_
                refine lv_icmp_ne (tgt := 103) hx hb dX11_read_95 (by decide) (fun c95_10 => ?_) (fun c95_10 => ?_)
                · skip
                  refine lv_bipush (v := nI (13)) hx hb dX11_read_103 (by decide) ?_
                  refine va_put (ci := 10) (v := .int (nI (13))) (ty := .int) hx hb hts h_X11 tyX11 tyX11_ok nmX11 hown hK hP hD hS 0 rfl rfl 4 (by decide) f41 (fun _ h9 => h9) rfl (by decide +kernel) rfl rfl (Nat.le_of_ble_eq_true rfl) dX11_read_105 (fun H locs hP hD hS => ?_)
                  have hP : va_P D vwCl (MW ct o (m_g v1, m_fl v1, m_ch v1, m_sv v1, nI (13), m_det v1, nI (0), m_det v1, m_wt v1, m_wm v1, m_ln v1, m_lz v1, m_in v1, m_ty v1, m_he v1, m_wa v1, m_fa v1, m_cm v1, m_cz v1) R) H := hP
                  have hD : va_D A (MW ct o (m_g v1, m_fl v1, m_ch v1, m_sv v1, nI (13), m_det v1, nI (0), m_det v1, m_wt v1, m_wm v1, m_ln v1, m_lz v1, m_in v1, m_ty v1, m_he v1, m_wa v1, m_fa v1, m_cm v1, m_cz v1) R) := hD
                  refine lv_aload_n hx hb dX11_read_108 rfl (lv_at hl 0 rfl) ?_
                  refine lv_iload_n hx hb dX11_read_109 rfl (lv_at hl 2 rfl) ?_
                  refine lv_iconst (v := nI (1)) hx hb dX11_read_110 (by decide) ?_
                  refine zNsub hx hb (by omega) dX11_read_111 ?_
                  refine va_put (ci := 10) (v := .int (nI ((n - 1)))) (ty := .int) hx hb hts h_X11 tyX11 tyX11_ok nmX11 hown hK hP hD hS 0 rfl rfl 5 (by decide) f44 (fun _ h9 => h9) rfl (by decide +kernel) rfl rfl (Nat.le_of_ble_eq_true rfl) dX11_read_112 (fun H locs hP hD hS => ?_)
                  have hP : va_P D vwCl (MW ct o (m_g v1, m_fl v1, m_ch v1, m_sv v1, nI (13), nI ((n - 1)), nI (0), m_det v1, m_wt v1, m_wm v1, m_ln v1, m_lz v1, m_in v1, m_ty v1, m_he v1, m_wa v1, m_fa v1, m_cm v1, m_cz v1) R) H := hP
                  have hD : va_D A (MW ct o (m_g v1, m_fl v1, m_ch v1, m_sv v1, nI (13), nI ((n - 1)), nI (0), m_det v1, m_wt v1, m_wm v1, m_ln v1, m_lz v1, m_in v1, m_ty v1, m_he v1, m_wa v1, m_fa v1, m_cm v1, m_cz v1) R) := hD
                  obtain ⟨w4, hw4⟩ : ∃ s9 : MS, s9 = mB0 v1 n := ⟨_, rfl⟩
                  have hP : va_P D vwCl (MW ct o w4 R) H := by rw [hw4]; exact hP
                  have hD : va_D A (MW ct o w4 R) := by rw [hw4]; exact hD
                  refine lv_aload_n hx hb dX11_read_115 rfl (lv_at hl 0 rfl) ?_
                  refine lv_bipush (v := (-3)) hx hb dX11_read_116 (by decide) ?_
                  refine zVI [.int ((-3))] [] (kX11_ends (o) (w4) (R) ((-3)) (show m_ch w4 ≤ 8 from (by rw [hw4]; exact hki.2.2.2.1))) hx hb hml hown hts (cwV 1 hts gX11_read_X11_ends rfl rfl rfl (by decide +kernel) ⟨(Nat.le_of_ble_eq_true rfl), (Nat.le_of_ble_eq_true rfl)⟩) hK hP hD hS hA (va_recv hK hP (ci := 10) (q0 := 0) rfl rfl) rfl hl.1 rfl (Nat.le_of_ble_eq_true rfl) dX11_read_118 ⟨(Nat.le_of_ble_eq_true rfl), (Nat.le_of_ble_eq_true rfl)⟩ (fun r_118 _ H locs hr_118 hP hD hS => ?_)
                  subst hr_118
                  have hP : va_P D vwCl (MW ct o (F_ends w4 ((-3))).2 R) H := hP
                  have hD : va_D A (MW ct o (F_ends w4 ((-3))).2 R) := hD
                  have e9 : F_rdM cs z y rs v = (((F_ends w4 ((-3))).1), (F_ends w4 ((-3))).2) := (by rw [F_rdM, ← hp0, ← hs0, rdM, if_pos c13_1, ← hb0, ← htot, runM_e c44_7]; unfold rdE; exact ((if_pos hlt).trans (if_neg c69_9)).trans (by rw [hw4]; first | done | rfl))
                  exact zIret () hx hb hr hlocks hK (by show va_P D vwCl (MW ct o (F_rdM cs z y rs v).2 R) H; rw [e9]; exact hP) (by show va_D A (MW ct o (F_rdM cs z y rs v).2 R); rw [e9]; exact hD) hS dX11_read_121 (show ((F_ends w4 ((-3))).1) = (F_rdM cs z y rs v).1 from (by rw [e9]))
                · skip
                  exact absurd c95_10 c69_9
              · skip
                refine lv_aload_n hx hb dX11_read_72 rfl (lv_at hl 0 rfl) ?_
                refine va_get (ci := 10) (v := .int (m_why v1)) hx hb hts h_X11 hown hK hP 0 rfl rfl 4 (by decide) f41 (fun _ h9 => h9) rfl dX11_read_73 ?_
                refine lv_goto (tgt := 80) hx hb dX11_read_76 (by decide) ?_
                refine va_put (ci := 10) (v := .int (m_why v1)) (ty := .int) hx hb hts h_X11 tyX11 tyX11_ok nmX11 hown hK hP hD hS 0 rfl rfl 6 (by decide) f47 (fun _ h9 => h9) rfl (by decide +kernel) rfl rfl (Nat.le_of_ble_eq_true rfl) dX11_read_80 (fun H locs hP hD hS => ?_)
                have hP : va_P D vwCl (MW ct o (m_g v1, m_fl v1, m_ch v1, m_sv v1, m_why v1, m_det v1, m_why v1, m_ld v1, m_wt v1, m_wm v1, m_ln v1, m_lz v1, m_in v1, m_ty v1, m_he v1, m_wa v1, m_fa v1, m_cm v1, m_cz v1) R) H := hP
                have hD : va_D A (MW ct o (m_g v1, m_fl v1, m_ch v1, m_sv v1, m_why v1, m_det v1, m_why v1, m_ld v1, m_wt v1, m_wm v1, m_ln v1, m_lz v1, m_in v1, m_ty v1, m_he v1, m_wa v1, m_fa v1, m_cm v1, m_cz v1) R) := hD
                refine lv_aload_n hx hb dX11_read_83 rfl (lv_at hl 0 rfl) ?_
                refine lv_aload_n hx hb dX11_read_84 rfl (lv_at hl 0 rfl) ?_
                refine va_get (ci := 10) (v := .int (m_det v1)) hx hb hts h_X11 hown hK hP 0 rfl rfl 5 (by decide) f44 (fun _ h9 => h9) rfl dX11_read_85 ?_
                refine va_put (ci := 10) (v := .int (m_det v1)) (ty := .int) hx hb hts h_X11 tyX11 tyX11_ok nmX11 hown hK hP hD hS 0 rfl rfl 7 (by decide) f54 (fun _ h9 => h9) rfl (by decide +kernel) rfl rfl (Nat.le_of_ble_eq_true rfl) dX11_read_88 (fun H locs hP hD hS => ?_)
                have hP : va_P D vwCl (MW ct o (m_g v1, m_fl v1, m_ch v1, m_sv v1, m_why v1, m_det v1, m_why v1, m_det v1, m_wt v1, m_wm v1, m_ln v1, m_lz v1, m_in v1, m_ty v1, m_he v1, m_wa v1, m_fa v1, m_cm v1, m_cz v1) R) H := hP
                have hD : va_D A (MW ct o (m_g v1, m_fl v1, m_ch v1, m_sv v1, m_why v1, m_det v1, m_why v1, m_det v1, m_wt v1, m_wm v1, m_ln v1, m_lz v1, m_in v1, m_ty v1, m_he v1, m_wa v1, m_fa v1, m_cm v1, m_cz v1) R) := hD
                refine lv_aload_n hx hb dX11_read_91 rfl (lv_at hl 0 rfl) ?_
                refine lv_iload_n hx hb dX11_read_92 rfl (lv_at hl 1 rfl) ?_
                refine lv_bipush (v := (-3)) hx hb dX11_read_93 (by decide) ?_
                refine lv_icmp_ne (tgt := 103) hx hb dX11_read_95 (by decide) (fun c95_11 => ?_) (fun c95_11 => ?_)
                · skip
                  exact absurd c69_9 c95_11
                · skip
                  refine lv_bipush (v := nI (12)) hx hb dX11_read_98 (by decide) ?_
                  refine lv_goto (tgt := 105) hx hb dX11_read_100 (by decide) ?_
                  refine va_put (ci := 10) (v := .int (nI (12))) (ty := .int) hx hb hts h_X11 tyX11 tyX11_ok nmX11 hown hK hP hD hS 0 rfl rfl 4 (by decide) f41 (fun _ h9 => h9) rfl (by decide +kernel) rfl rfl (Nat.le_of_ble_eq_true rfl) dX11_read_105 (fun H locs hP hD hS => ?_)
                  have hP : va_P D vwCl (MW ct o (m_g v1, m_fl v1, m_ch v1, m_sv v1, nI (12), m_det v1, m_why v1, m_det v1, m_wt v1, m_wm v1, m_ln v1, m_lz v1, m_in v1, m_ty v1, m_he v1, m_wa v1, m_fa v1, m_cm v1, m_cz v1) R) H := hP
                  have hD : va_D A (MW ct o (m_g v1, m_fl v1, m_ch v1, m_sv v1, nI (12), m_det v1, m_why v1, m_det v1, m_wt v1, m_wm v1, m_ln v1, m_lz v1, m_in v1, m_ty v1, m_he v1, m_wa v1, m_fa v1, m_cm v1, m_cz v1) R) := hD
                  refine lv_aload_n hx hb dX11_read_108 rfl (lv_at hl 0 rfl) ?_
                  refine lv_iload_n hx hb dX11_read_109 rfl (lv_at hl 2 rfl) ?_
                  refine lv_iconst (v := nI (1)) hx hb dX11_read_110 (by decide) ?_
                  refine zNsub hx hb (by omega) dX11_read_111 ?_
                  refine va_put (ci := 10) (v := .int (nI ((n - 1)))) (ty := .int) hx hb hts h_X11 tyX11 tyX11_ok nmX11 hown hK hP hD hS 0 rfl rfl 5 (by decide) f44 (fun _ h9 => h9) rfl (by decide +kernel) rfl rfl (Nat.le_of_ble_eq_true rfl) dX11_read_112 (fun H locs hP hD hS => ?_)
                  have hP : va_P D vwCl (MW ct o (m_g v1, m_fl v1, m_ch v1, m_sv v1, nI (12), nI ((n - 1)), m_why v1, m_det v1, m_wt v1, m_wm v1, m_ln v1, m_lz v1, m_in v1, m_ty v1, m_he v1, m_wa v1, m_fa v1, m_cm v1, m_cz v1) R) H := hP
                  have hD : va_D A (MW ct o (m_g v1, m_fl v1, m_ch v1, m_sv v1, nI (12), nI ((n - 1)), m_why v1, m_det v1, m_wt v1, m_wm v1, m_ln v1, m_lz v1, m_in v1, m_ty v1, m_he v1, m_wa v1, m_fa v1, m_cm v1, m_cz v1) R) := hD
                  obtain ⟨w4, hw4⟩ : ∃ s9 : MS, s9 = mB3 v1 n := ⟨_, rfl⟩
                  have hP : va_P D vwCl (MW ct o w4 R) H := by rw [hw4]; exact hP
                  have hD : va_D A (MW ct o w4 R) := by rw [hw4]; exact hD
                  refine lv_aload_n hx hb dX11_read_115 rfl (lv_at hl 0 rfl) ?_
                  refine lv_bipush (v := (-3)) hx hb dX11_read_116 (by decide) ?_
                  refine zVI [.int ((-3))] [] (kX11_ends (o) (w4) (R) ((-3)) (show m_ch w4 ≤ 8 from (by rw [hw4]; exact hki.2.2.2.1))) hx hb hml hown hts (cwV 1 hts gX11_read_X11_ends rfl rfl rfl (by decide +kernel) ⟨(Nat.le_of_ble_eq_true rfl), (Nat.le_of_ble_eq_true rfl)⟩) hK hP hD hS hA (va_recv hK hP (ci := 10) (q0 := 0) rfl rfl) rfl hl.1 rfl (Nat.le_of_ble_eq_true rfl) dX11_read_118 ⟨(Nat.le_of_ble_eq_true rfl), (Nat.le_of_ble_eq_true rfl)⟩ (fun r_118 _ H locs hr_118 hP hD hS => ?_)
                  subst hr_118
                  have hP : va_P D vwCl (MW ct o (F_ends w4 ((-3))).2 R) H := hP
                  have hD : va_D A (MW ct o (F_ends w4 ((-3))).2 R) := hD
                  have e9 : F_rdM cs z y rs v = (((F_ends w4 ((-3))).1), (F_ends w4 ((-3))).2) := (by rw [F_rdM, ← hp0, ← hs0, rdM, if_pos c13_1, ← hb0, ← htot, runM_e c44_7]; unfold rdE; exact ((if_pos hlt).trans (if_pos c69_9)).trans (by rw [hw4]; first | done | rfl))
                  exact zIret () hx hb hr hlocks hK (by show va_P D vwCl (MW ct o (F_rdM cs z y rs v).2 R) H; rw [e9]; exact hP) (by show va_D A (MW ct o (F_rdM cs z y rs v).2 R); rw [e9]; exact hD) hS dX11_read_121 (show ((F_ends w4 ((-3))).1) = (F_rdM cs z y rs v).1 from (by rw [e9]))
          · skip
            refine lv_aload_n hx hb dX11_read_47 rfl (lv_at hl 0 rfl) ?_
            refine lv_iconst (v := nI (4)) hx hb dX11_read_48 (by decide) ?_
            refine lv_iload_n hx hb dX11_read_49 rfl (lv_at hl 2 rfl) ?_
            refine zNmul hx hb dX11_read_50 ?_
            refine zVI [.int (nI ((4 * n)))] [] (kX11_does (o) (v1) (R) ((4 * n)) (cs n) (y1) (show (cs n) < 9 from (hki.2.2.2.2.2 n hnz).1) (show ((4 * n)) + 3 < 244 from (by omega)) (show m_cm v1 ((4 * n)) = nI (cdL (cs n)) from (hki.2.2.2.2.2 n hnz).2) (show yI (y1) from hki.1) (show RelI (y1) (m_g v1) from hki.2.1) (show ∀ j, j < 9 → nF (m_fl v1 j) from hki.2.2.1)) hx hb hml hown hts (cwV 1 hts gX11_read_X11_does rfl rfl rfl (by decide +kernel) ⟨(Nat.le_of_ble_eq_true rfl), (Nat.le_of_ble_eq_true rfl)⟩) hK hP hD hS hA (va_recv hK hP (ci := 10) (q0 := 0) rfl rfl) rfl hl.1 rfl (Nat.le_of_ble_eq_true rfl) dX11_read_51 ⟨(Nat.le_of_ble_eq_true rfl), (Nat.le_of_ble_eq_true rfl)⟩ (fun r_51 _ H locs hr_51 hP hD hS => ?_)
            subst hr_51
            have hP : va_P D vwCl (MW ct o (F_doC (cs n) (y1) v1 (m_cm v1 (((4 * n)) + 1)) (m_cm v1 (((4 * n)) + 2)) (m_cm v1 (((4 * n)) + 3))).2 R) H := hP
            have hD : va_D A (MW ct o (F_doC (cs n) (y1) v1 (m_cm v1 (((4 * n)) + 1)) (m_cm v1 (((4 * n)) + 2)) (m_cm v1 (((4 * n)) + 3))).2 R) := hD
            refine lv_istore_n (lv' := [(1, .int (((F_doC (cs n) (y1) v1 (m_cm v1 (((4 * n)) + 1)) (m_cm v1 (((4 * n)) + 2)) (m_cm v1 (((4 * n)) + 3))).1))), (0, .ref (o 0)), (2, .int (nI (n)))]) hx hb dX11_read_54 rfl hl (by decide) rfl (fun ls hl => ?_)
            refine lv_iinc (v := nI ((n + 1))) (lv' := [(2, .int (nI ((n + 1)))), (1, .int (((F_doC (cs n) (y1) v1 (m_cm v1 (((4 * n)) + 1)) (m_cm v1 (((4 * n)) + 2)) (m_cm v1 (((4 * n)) + 3))).1))), (0, .ref (o 0))]) hx hb dX11_read_55 hl (k := 2) rfl (zInc _) (by decide) rfl (fun ls hl => ?_)
            refine lv_goto (tgt := 35) hx hb dX11_read_58 (by decide) ?_
            exact ih35 ((n + 1)) (((F_doC (cs n) (y1) v1 (m_cm v1 (((4 * n)) + 1)) (m_cm v1 (((4 * n)) + 2)) (m_cm v1 (((4 * n)) + 3))).1)) ((yQ cs n y1 rs1 v1).2.1) ((yQ cs n y1 rs1 v1).2.2) ((dQ cs n y1 v1).2) H locs ls (by omega) (hKc _ rs1 _ _ hnz hK1) (fun _ => Nat.succ_le_succ (Nat.zero_le _)) ((runM_s (r := z - n) (by omega) c44_7).symm.trans htot) (by omega) hP hD hS (lv_sub hl [2, 1, 0] rfl)
    exact lp35 ((z - (0)) + 1) (0) ((nI 0)) (y) (rs) (b0) H locs ls (by omega) (by rw [hb0, hs0, hp0]; exact hK0 (by rw [← hp0, ← hs0]; exact c13_1)) (fun q => absurd q (by decide)) rfl (Nat.lt_succ_self _) hP hD hS (lv_sub hl [2, 1, 0] rfl)
  · skip
    refine lv_aload_n hx hb dX11_read_16 rfl (lv_at hl 0 rfl) ?_
    refine lv_aload_n hx hb dX11_read_17 rfl (lv_at hl 0 rfl) ?_
    refine va_get (ci := 10) (v := .int (m_wa s0)) hx hb hts h_X11 hown hK hP 0 rfl rfl 15 (by decide) f198 (fun _ h9 => h9) rfl dX11_read_18 ?_
    refine va_put (ci := 10) (v := .int (m_wa s0)) (ty := .int) hx hb hts h_X11 tyX11 tyX11_ok nmX11 hown hK hP hD hS 0 rfl rfl 16 (by decide) f27 (fun _ h9 => h9) rfl (by decide +kernel) rfl rfl (Nat.le_of_ble_eq_true rfl) dX11_read_21 (fun H locs hP hD hS => ?_)
    have hP : va_P D vwCl (MW ct o (m_g s0, m_fl s0, m_ch s0, m_sv s0, m_why s0, m_det s0, m_li s0, m_ld s0, m_wt s0, m_wm s0, m_ln s0, m_lz s0, m_in s0, m_ty s0, m_he s0, m_wa s0, m_wa s0, m_cm s0, m_cz s0) R) H := hP
    have hD : va_D A (MW ct o (m_g s0, m_fl s0, m_ch s0, m_sv s0, m_why s0, m_det s0, m_li s0, m_ld s0, m_wt s0, m_wm s0, m_ln s0, m_lz s0, m_in s0, m_ty s0, m_he s0, m_wa s0, m_wa s0, m_cm s0, m_cz s0) R) := hD
    refine lv_bipush (v := (-2)) hx hb dX11_read_24 (by decide) ?_
    have e9 : F_rdM cs z y rs v = ((-2), (m_g s0, m_fl s0, m_ch s0, m_sv s0, m_why s0, m_det s0, m_li s0, m_ld s0, m_wt s0, m_wm s0, m_ln s0, m_lz s0, m_in s0, m_ty s0, m_he s0, m_wa s0, m_wa s0, m_cm s0, m_cz s0)) := (by rw [F_rdM, ← hp0, ← hs0, rdM]; exact if_neg c13_1)
    exact zIret () hx hb hr hlocks hK (by show va_P D vwCl (MW ct o (F_rdM cs z y rs v).2 R) H; rw [e9]; exact hP) (by show va_D A (MW ct o (F_rdM cs z y rs v).2 R); rw [e9]; exact hD) hS dX11_read_26 (show (-2) = (F_rdM cs z y rs v).1 from (by rw [e9]))
