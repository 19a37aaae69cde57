/-! THE REFERENCE: one command carried out; a text read -/
def cdL (c : Nat) : Nat := [112, 99, 97, 114, 108, 117, 115, 116, 103].getD c 0
def F_doC (c : Nat) (y : YS) (v : MS) (x1 x2 x3 : Int32) : Int32 × MS :=
  match c with
  | 0 => F_adds y v (nI 0) x1
  | 1 => F_adds y v (nI 1) x1
  | 2 => F_addC y v x1
  | 3 => F_addR y v x1 x2 x3
  | 4 => F_put y v x1 x2 x3
  | 5 => F_off y v x1
  | 6 => F_swap y v x1 x2 x3
  | 7 => F_goes y v x1 x2
  | _ => F_grs y v x1
abbrev rmX11_does : Room := { frames := 7, cells := 0, slots := 0, locals := 162 }
theorem in_X11_does_X11 : ∀ w ∈ u_ws RX11 TX11 19, w ∈ wsX11_does := by decide +kernel
set_option maxHeartbeats 4000000 in
set_option maxRecDepth 100000 in
theorem kX11_does {D : va_G} {ct : Nat → ClassId} {l : Launch} (o : Nat → Nat) (v : MS) (R : va_W) (b : Nat) (cm : Nat) (y : YS) (hc : cm < 9) (hb4 : b + 3 < 244) (hcd : m_cm v b = nI (cdL cm)) (hy : yI y) (hq : RelI y (m_g v)) (hf9 : ∀ j, j < 9 → nF (m_fl v j)) : MI D ct l yX11_does wsX11_does rmX11_does (MW ct o v R) [.ref (o 0), .int (nI (b))] (fun r0 (_ : Unit) => r0 = (F_doC cm y v (m_cm v (b + 1)) (m_cm v (b + 2)) (m_cm v (b + 3))).1) (fun _ : Unit => MW ct o (F_doC cm y v (m_cm v (b + 1)) (m_cm v (b + 2)) (m_cm v (b + 3))).2 R) := by
  refine MIof (cc := cX11_does) (maxL := 5) (ret := (some .int)) (by decide) rfl (Nat.le_of_ble_eq_true rfl) ?_
  intro p e s m args below meth c A H locs F hP hK hD hS hA ls hl
  obtain ⟨hx, hb, hr, hlocks, hml, hown, hts, hin⟩ := F
  have hl : lv_has ls 5 [(0, .ref (o 0)), (1, .int (nI (b)))] := hl
  have h_X11 := in_X11_does_X11
  have f31 := hts (.fieldLink RX11 31 "CartArgumentsModel" "commands" "[I") (by decide +kernel)
  refine lv_aload_n hx hb dX11_does_0 rfl (lv_at hl 0 rfl) ?_
  refine va_get (ci := 10) (v := .ref (o 6)) hx hb hts h_X11 hown hK hP 0 rfl rfl 17 (by decide) f31 (fun _ h9 => h9) rfl dX11_does_1 ?_
  refine lv_iload_n hx hb dX11_does_4 rfl (lv_at hl 1 rfl) ?_
  refine lv_iconst (v := nI (1)) hx hb dX11_does_5 (by decide) ?_
  refine zNadd hx hb dX11_does_6 ?_
  refine zIald (n := 244) (f := m_cm v) (i := (b + 1)) hx hb hK hP 6 rfl (by omega) (by decide) dX11_does_7 ?_
  refine lv_istore_n (lv' := [(2, .int ((m_cm v ((b + 1))))), (0, .ref (o 0)), (1, .int (nI (b)))]) hx hb dX11_does_8 rfl hl (by decide) rfl (fun ls hl => ?_)
  refine lv_aload_n hx hb dX11_does_9 rfl (lv_at hl 1 rfl) ?_
  refine va_get (ci := 10) (v := .ref (o 6)) hx hb hts h_X11 hown hK hP 0 rfl rfl 17 (by decide) f31 (fun _ h9 => h9) rfl dX11_does_10 ?_
  refine lv_iload_n hx hb dX11_does_13 rfl (lv_at hl 2 rfl) ?_
  refine lv_iconst (v := nI (2)) hx hb dX11_does_14 (by decide) ?_
  refine zNadd hx hb dX11_does_15 ?_
  refine zIald (n := 244) (f := m_cm v) (i := (b + 2)) hx hb hK hP 6 rfl (by omega) (by decide) dX11_does_16 ?_
  refine lv_istore_n (lv' := [(3, .int ((m_cm v ((b + 2))))), (2, .int ((m_cm v ((b + 1))))), (0, .ref (o 0)), (1, .int (nI (b)))]) hx hb dX11_does_17 rfl hl (by decide) rfl (fun ls hl => ?_)
  refine lv_aload_n hx hb dX11_does_18 rfl (lv_at hl 2 rfl) ?_
  refine va_get (ci := 10) (v := .ref (o 6)) hx hb hts h_X11 hown hK hP 0 rfl rfl 17 (by decide) f31 (fun _ h9 => h9) rfl dX11_does_19 ?_
  refine lv_iload_n hx hb dX11_does_22 rfl (lv_at hl 3 rfl) ?_
  refine lv_iconst (v := nI (3)) hx hb dX11_does_23 (by decide) ?_
  refine zNadd hx hb dX11_does_24 ?_
  refine zIald (n := 244) (f := m_cm v) (i := (b + 3)) hx hb hK hP 6 rfl (by omega) (by decide) dX11_does_25 ?_
  refine lv_istore (lv' := [(4, .int ((m_cm v ((b + 3))))), (3, .int ((m_cm v ((b + 2))))), (2, .int ((m_cm v ((b + 1))))), (0, .ref (o 0)), (1, .int (nI (b)))]) hx hb dX11_does_26 hl (by decide) rfl (fun ls hl => ?_)
  refine lv_aload_n hx hb dX11_does_28 rfl (lv_at hl 3 rfl) ?_
  refine va_get (ci := 10) (v := .ref (o 6)) hx hb hts h_X11 hown hK hP 0 rfl rfl 17 (by decide) f31 (fun _ h9 => h9) rfl dX11_does_29 ?_
  refine lv_iload_n hx hb dX11_does_32 rfl (lv_at hl 4 rfl) ?_
  refine zIald (n := 244) (f := m_cm v) (i := b) hx hb hK hP 6 rfl (by omega) (by decide) dX11_does_33 ?_
  rcases (show cm = 0 ∨ cm = 1 ∨ cm = 2 ∨ cm = 3 ∨ cm = 4 ∨ cm = 5 ∨ cm = 6 ∨ cm = 7 ∨ cm = 8 by omega) with rfl | rfl | rfl | rfl | rfl | rfl | rfl | rfl | rfl
  · skip
    refine zTop (y := nI 112) (by rw [hcd]; rfl) ?_
    refine lv_tableIn (off := 98) (tgt := 132) hx hb dX11_does_34 (by decide) (by decide) (by rfl) (by decide) ?_
    refine lv_aload_n hx hb dX11_does_132 rfl (lv_at hl 3 rfl) ?_
    refine lv_iconst (v := nI (0)) hx hb dX11_does_133 (by decide) ?_
    refine lv_iload_n hx hb dX11_does_134 rfl (lv_at hl 2 rfl) ?_
    refine zVI [.int (nI (0)), .int ((m_cm v ((b + 1))))] [] (kX11_adds (o) (v) (R) (nI (0)) ((m_cm v ((b + 1)))) (y) (show y_n (y) ≤ 12 ∧ y_cn (y) ≤ 4 ∧ y_rn (y) ≤ 5 from ⟨hy.1, hy.2.1, hy.2.2.1⟩) (show RelI (y) (m_g v) from hq)) hx hb hml hown hts (cwV 2 hts gX11_does_X11_adds rfl rfl rfl (by decide +kernel) ⟨(Nat.le_of_ble_eq_true rfl), (Nat.le_of_ble_eq_true rfl)⟩) hK hP hD hS hA (va_recv hK hP (ci := 10) (q0 := 0) rfl rfl) rfl hl.1 rfl (Nat.le_of_ble_eq_true rfl) dX11_does_135 ⟨(Nat.le_of_ble_eq_true rfl), (Nat.le_of_ble_eq_true rfl)⟩ (fun r_135 _ H locs hr_135 hP hD hS => ?_)
    subst hr_135
    have hP : va_P D vwCl (MW ct o (F_adds (y) v (nI (0)) ((m_cm v ((b + 1))))).2 R) H := hP
    have hD : va_D A (MW ct o (F_adds (y) v (nI (0)) ((m_cm v ((b + 1))))).2 R) := hD
    exact zIret () hx hb hr hlocks hK hP hD hS dX11_does_138 (show ((F_adds (y) v (nI (0)) ((m_cm v ((b + 1))))).1) = (F_doC 0 y v (m_cm v (b + 1)) (m_cm v (b + 2)) (m_cm v (b + 3))).1 from rfl)
  · skip
    refine zTop (y := nI 99) (by rw [hcd]; rfl) ?_
    refine lv_tableIn (off := 105) (tgt := 139) hx hb dX11_does_34 (by decide) (by decide) (by rfl) (by decide) ?_
    refine lv_aload_n hx hb dX11_does_139 rfl (lv_at hl 3 rfl) ?_
    refine lv_iconst (v := nI (1)) hx hb dX11_does_140 (by decide) ?_
    refine lv_iload_n hx hb dX11_does_141 rfl (lv_at hl 2 rfl) ?_
    refine zVI [.int (nI (1)), .int ((m_cm v ((b + 1))))] [] (kX11_adds (o) (v) (R) (nI (1)) ((m_cm v ((b + 1)))) (y) (show y_n (y) ≤ 12 ∧ y_cn (y) ≤ 4 ∧ y_rn (y) ≤ 5 from ⟨hy.1, hy.2.1, hy.2.2.1⟩) (show RelI (y) (m_g v) from hq)) hx hb hml hown hts (cwV 2 hts gX11_does_X11_adds rfl rfl rfl (by decide +kernel) ⟨(Nat.le_of_ble_eq_true rfl), (Nat.le_of_ble_eq_true rfl)⟩) hK hP hD hS hA (va_recv hK hP (ci := 10) (q0 := 0) rfl rfl) rfl hl.1 rfl (Nat.le_of_ble_eq_true rfl) dX11_does_142 ⟨(Nat.le_of_ble_eq_true rfl), (Nat.le_of_ble_eq_true rfl)⟩ (fun r_142 _ H locs hr_142 hP hD hS => ?_)
    subst hr_142
    have hP : va_P D vwCl (MW ct o (F_adds (y) v (nI (1)) ((m_cm v ((b + 1))))).2 R) H := hP
    have hD : va_D A (MW ct o (F_adds (y) v (nI (1)) ((m_cm v ((b + 1))))).2 R) := hD
    exact zIret () hx hb hr hlocks hK hP hD hS dX11_does_145 (show ((F_adds (y) v (nI (1)) ((m_cm v ((b + 1))))).1) = (F_doC 1 y v (m_cm v (b + 1)) (m_cm v (b + 2)) (m_cm v (b + 3))).1 from rfl)
  · skip
    refine zTop (y := nI 97) (by rw [hcd]; rfl) ?_
    refine lv_tableIn (off := 112) (tgt := 146) hx hb dX11_does_34 (by decide) (by decide) (by rfl) (by decide) ?_
    refine lv_aload_n hx hb dX11_does_146 rfl (lv_at hl 3 rfl) ?_
    refine lv_iload_n hx hb dX11_does_147 rfl (lv_at hl 2 rfl) ?_
    refine zVI [.int ((m_cm v ((b + 1))))] [] (kX11_addsCart (o) (v) (R) ((m_cm v ((b + 1)))) (y) (show y_n (y) ≤ 12 ∧ y_cn (y) ≤ 4 ∧ y_rn (y) ≤ 5 from ⟨hy.1, hy.2.1, hy.2.2.1⟩) (show RelI (y) (m_g v) from hq)) hx hb hml hown hts (cwV 1 hts gX11_does_X11_addsCart rfl rfl rfl (by decide +kernel) ⟨(Nat.le_of_ble_eq_true rfl), (Nat.le_of_ble_eq_true rfl)⟩) hK hP hD hS hA (va_recv hK hP (ci := 10) (q0 := 0) rfl rfl) rfl hl.1 rfl (Nat.le_of_ble_eq_true rfl) dX11_does_148 ⟨(Nat.le_of_ble_eq_true rfl), (Nat.le_of_ble_eq_true rfl)⟩ (fun r_148 _ H locs hr_148 hP hD hS => ?_)
    subst hr_148
    have hP : va_P D vwCl (MW ct o (F_addC (y) v ((m_cm v ((b + 1))))).2 R) H := hP
    have hD : va_D A (MW ct o (F_addC (y) v ((m_cm v ((b + 1))))).2 R) := hD
    exact zIret () hx hb hr hlocks hK hP hD hS dX11_does_151 (show ((F_addC (y) v ((m_cm v ((b + 1))))).1) = (F_doC 2 y v (m_cm v (b + 1)) (m_cm v (b + 2)) (m_cm v (b + 3))).1 from rfl)
  · skip
    refine zTop (y := nI 114) (by rw [hcd]; rfl) ?_
    refine lv_tableIn (off := 118) (tgt := 152) hx hb dX11_does_34 (by decide) (by decide) (by rfl) (by decide) ?_
    refine lv_aload_n hx hb dX11_does_152 rfl (lv_at hl 3 rfl) ?_
    refine lv_iload_n hx hb dX11_does_153 rfl (lv_at hl 2 rfl) ?_
    refine lv_iload_n hx hb dX11_does_154 rfl (lv_at hl 1 rfl) ?_
    refine lv_iload hx hb dX11_does_155 (lv_at hl 0 rfl) ?_
    refine zVI [.int ((m_cm v ((b + 1)))), .int ((m_cm v ((b + 2)))), .int ((m_cm v ((b + 3))))] [] (kX11_addsRoad (o) (v) (R) ((m_cm v ((b + 1)))) ((m_cm v ((b + 2)))) ((m_cm v ((b + 3)))) (y) (show y_n (y) ≤ 12 ∧ y_cn (y) ≤ 4 ∧ y_rn (y) ≤ 5 from ⟨hy.1, hy.2.1, hy.2.2.1⟩) (show RelI (y) (m_g v) from hq)) hx hb hml hown hts (cwV 3 hts gX11_does_X11_addsRoad rfl rfl rfl (by decide +kernel) ⟨(Nat.le_of_ble_eq_true rfl), (Nat.le_of_ble_eq_true rfl)⟩) hK hP hD hS hA (va_recv hK hP (ci := 10) (q0 := 0) rfl rfl) rfl hl.1 rfl (Nat.le_of_ble_eq_true rfl) dX11_does_157 ⟨(Nat.le_of_ble_eq_true rfl), (Nat.le_of_ble_eq_true rfl)⟩ (fun r_157 _ H locs hr_157 hP hD hS => ?_)
    subst hr_157
    have hP : va_P D vwCl (MW ct o (F_addR (y) v ((m_cm v ((b + 1)))) ((m_cm v ((b + 2)))) ((m_cm v ((b + 3))))).2 R) H := hP
    have hD : va_D A (MW ct o (F_addR (y) v ((m_cm v ((b + 1)))) ((m_cm v ((b + 2)))) ((m_cm v ((b + 3))))).2 R) := hD
    exact zIret () hx hb hr hlocks hK hP hD hS dX11_does_160 (show ((F_addR (y) v ((m_cm v ((b + 1)))) ((m_cm v ((b + 2)))) ((m_cm v ((b + 3))))).1) = (F_doC 3 y v (m_cm v (b + 1)) (m_cm v (b + 2)) (m_cm v (b + 3))).1 from rfl)
  · skip
    refine zTop (y := nI 108) (by rw [hcd]; rfl) ?_
    refine lv_tableIn (off := 127) (tgt := 161) hx hb dX11_does_34 (by decide) (by decide) (by rfl) (by decide) ?_
    refine lv_aload_n hx hb dX11_does_161 rfl (lv_at hl 3 rfl) ?_
    refine lv_iload_n hx hb dX11_does_162 rfl (lv_at hl 2 rfl) ?_
    refine lv_iload_n hx hb dX11_does_163 rfl (lv_at hl 1 rfl) ?_
    refine lv_iload hx hb dX11_does_164 (lv_at hl 0 rfl) ?_
    refine zVI [.int ((m_cm v ((b + 1)))), .int ((m_cm v ((b + 2)))), .int ((m_cm v ((b + 3))))] [] (kX11_loads (o) (v) (R) ((m_cm v ((b + 1)))) ((m_cm v ((b + 2)))) ((m_cm v ((b + 3)))) (y) (show y_n (y) ≤ 12 ∧ y_cn (y) ≤ 4 ∧ y_rn (y) ≤ 5 from ⟨hy.1, hy.2.1, hy.2.2.1⟩) (show RelI (y) (m_g v) from hq)) hx hb hml hown hts (cwV 3 hts gX11_does_X11_loads rfl rfl rfl (by decide +kernel) ⟨(Nat.le_of_ble_eq_true rfl), (Nat.le_of_ble_eq_true rfl)⟩) hK hP hD hS hA (va_recv hK hP (ci := 10) (q0 := 0) rfl rfl) rfl hl.1 rfl (Nat.le_of_ble_eq_true rfl) dX11_does_166 ⟨(Nat.le_of_ble_eq_true rfl), (Nat.le_of_ble_eq_true rfl)⟩ (fun r_166 _ H locs hr_166 hP hD hS => ?_)
    subst hr_166
    have hP : va_P D vwCl (MW ct o (F_put (y) v ((m_cm v ((b + 1)))) ((m_cm v ((b + 2)))) ((m_cm v ((b + 3))))).2 R) H := hP
    have hD : va_D A (MW ct o (F_put (y) v ((m_cm v ((b + 1)))) ((m_cm v ((b + 2)))) ((m_cm v ((b + 3))))).2 R) := hD
    exact zIret () hx hb hr hlocks hK hP hD hS dX11_does_169 (show ((F_put (y) v ((m_cm v ((b + 1)))) ((m_cm v ((b + 2)))) ((m_cm v ((b + 3))))).1) = (F_doC 4 y v (m_cm v (b + 1)) (m_cm v (b + 2)) (m_cm v (b + 3))).1 from rfl)
  · skip
    refine zTop (y := nI 117) (by rw [hcd]; rfl) ?_
    refine lv_tableIn (off := 136) (tgt := 170) hx hb dX11_does_34 (by decide) (by decide) (by rfl) (by decide) ?_
    refine lv_aload_n hx hb dX11_does_170 rfl (lv_at hl 3 rfl) ?_
    refine lv_iload_n hx hb dX11_does_171 rfl (lv_at hl 2 rfl) ?_
    refine zVI [.int ((m_cm v ((b + 1))))] [] (kX11_unloads (o) (v) (R) ((m_cm v ((b + 1)))) (y) (show y_n (y) ≤ 12 ∧ y_cn (y) ≤ 4 ∧ y_rn (y) ≤ 5 from ⟨hy.1, hy.2.1, hy.2.2.1⟩) (show RelI (y) (m_g v) from hq)) hx hb hml hown hts (cwV 1 hts gX11_does_X11_unloads rfl rfl rfl (by decide +kernel) ⟨(Nat.le_of_ble_eq_true rfl), (Nat.le_of_ble_eq_true rfl)⟩) hK hP hD hS hA (va_recv hK hP (ci := 10) (q0 := 0) rfl rfl) rfl hl.1 rfl (Nat.le_of_ble_eq_true rfl) dX11_does_172 ⟨(Nat.le_of_ble_eq_true rfl), (Nat.le_of_ble_eq_true rfl)⟩ (fun r_172 _ H locs hr_172 hP hD hS => ?_)
    subst hr_172
    have hP : va_P D vwCl (MW ct o (F_off (y) v ((m_cm v ((b + 1))))).2 R) H := hP
    have hD : va_D A (MW ct o (F_off (y) v ((m_cm v ((b + 1))))).2 R) := hD
    exact zIret () hx hb hr hlocks hK hP hD hS dX11_does_175 (show ((F_off (y) v ((m_cm v ((b + 1))))).1) = (F_doC 5 y v (m_cm v (b + 1)) (m_cm v (b + 2)) (m_cm v (b + 3))).1 from rfl)
  · skip
    refine zTop (y := nI 115) (by rw [hcd]; rfl) ?_
    refine lv_tableIn (off := 142) (tgt := 176) hx hb dX11_does_34 (by decide) (by decide) (by rfl) (by decide) ?_
    refine lv_aload_n hx hb dX11_does_176 rfl (lv_at hl 3 rfl) ?_
    refine lv_iload_n hx hb dX11_does_177 rfl (lv_at hl 2 rfl) ?_
    refine lv_iload_n hx hb dX11_does_178 rfl (lv_at hl 1 rfl) ?_
    refine lv_iload hx hb dX11_does_179 (lv_at hl 0 rfl) ?_
    refine zVI [.int ((m_cm v ((b + 1)))), .int ((m_cm v ((b + 2)))), .int ((m_cm v ((b + 3))))] [] (kX11_swaps (o) (v) (R) ((m_cm v ((b + 1)))) ((m_cm v ((b + 2)))) ((m_cm v ((b + 3)))) (y) (show y_n (y) ≤ 12 ∧ y_cn (y) ≤ 4 ∧ y_rn (y) ≤ 5 from ⟨hy.1, hy.2.1, hy.2.2.1⟩) (show RelI (y) (m_g v) from hq)) hx hb hml hown hts (cwV 3 hts gX11_does_X11_swaps rfl rfl rfl (by decide +kernel) ⟨(Nat.le_of_ble_eq_true rfl), (Nat.le_of_ble_eq_true rfl)⟩) hK hP hD hS hA (va_recv hK hP (ci := 10) (q0 := 0) rfl rfl) rfl hl.1 rfl (Nat.le_of_ble_eq_true rfl) dX11_does_181 ⟨(Nat.le_of_ble_eq_true rfl), (Nat.le_of_ble_eq_true rfl)⟩ (fun r_181 _ H locs hr_181 hP hD hS => ?_)
    subst hr_181
    have hP : va_P D vwCl (MW ct o (F_swap (y) v ((m_cm v ((b + 1)))) ((m_cm v ((b + 2)))) ((m_cm v ((b + 3))))).2 R) H := hP
    have hD : va_D A (MW ct o (F_swap (y) v ((m_cm v ((b + 1)))) ((m_cm v ((b + 2)))) ((m_cm v ((b + 3))))).2 R) := hD
    exact zIret () hx hb hr hlocks hK hP hD hS dX11_does_184 (show ((F_swap (y) v ((m_cm v ((b + 1)))) ((m_cm v ((b + 2)))) ((m_cm v ((b + 3))))).1) = (F_doC 6 y v (m_cm v (b + 1)) (m_cm v (b + 2)) (m_cm v (b + 3))).1 from rfl)
  · skip
    refine zTop (y := nI 116) (by rw [hcd]; rfl) ?_
    refine lv_tableIn (off := 151) (tgt := 185) hx hb dX11_does_34 (by decide) (by decide) (by rfl) (by decide) ?_
    refine lv_aload_n hx hb dX11_does_185 rfl (lv_at hl 3 rfl) ?_
    refine lv_iload_n hx hb dX11_does_186 rfl (lv_at hl 2 rfl) ?_
    refine lv_iload_n hx hb dX11_does_187 rfl (lv_at hl 1 rfl) ?_
    refine zVI [.int ((m_cm v ((b + 1)))), .int ((m_cm v ((b + 2))))] [] (kX11_goes (o) (v) (R) ((m_cm v ((b + 1)))) ((m_cm v ((b + 2)))) (y) (show yI (y) from hy) (show RelI (y) (m_g v) from hq) (show ∀ j, j < 9 → nF (m_fl v j) from by omega)) hx hb hml hown hts (cwV 2 hts gX11_does_X11_goes rfl rfl rfl (by decide +kernel) ⟨(Nat.le_of_ble_eq_true rfl), (Nat.le_of_ble_eq_true rfl)⟩) hK hP hD hS hA (va_recv hK hP (ci := 10) (q0 := 0) rfl rfl) rfl hl.1 rfl (Nat.le_of_ble_eq_true rfl) dX11_does_188 ⟨(Nat.le_of_ble_eq_true rfl), (Nat.le_of_ble_eq_true rfl)⟩ (fun r_188 _ H locs hr_188 hP hD hS => ?_)
    subst hr_188
    have hP : va_P D vwCl (MW ct o (F_goes (y) v ((m_cm v ((b + 1)))) ((m_cm v ((b + 2))))).2 R) H := hP
    have hD : va_D A (MW ct o (F_goes (y) v ((m_cm v ((b + 1)))) ((m_cm v ((b + 2))))).2 R) := hD
    exact zIret () hx hb hr hlocks hK hP hD hS dX11_does_191 (show ((F_goes (y) v ((m_cm v ((b + 1)))) ((m_cm v ((b + 2))))).1) = (F_doC 7 y v (m_cm v (b + 1)) (m_cm v (b + 2)) (m_cm v (b + 3))).1 from rfl)
  · skip
    refine zTop (y := nI 103) (by rw [hcd]; rfl) ?_
    refine lv_tableIn (off := 158) (tgt := 192) hx hb dX11_does_34 (by decide) (by decide) (by rfl) (by decide) ?_
    refine lv_aload_n hx hb dX11_does_192 rfl (lv_at hl 3 rfl) ?_
    refine lv_iload_n hx hb dX11_does_193 rfl (lv_at hl 2 rfl) ?_
    refine zVI [.int ((m_cm v ((b + 1))))] [] (kX11_greases (o) (v) (R) ((m_cm v ((b + 1)))) (y) (show y_n (y) ≤ 12 ∧ y_cn (y) ≤ 4 ∧ y_rn (y) ≤ 5 from ⟨hy.1, hy.2.1, hy.2.2.1⟩) (show RelI (y) (m_g v) from hq)) hx hb hml hown hts (cwV 1 hts gX11_does_X11_greases rfl rfl rfl (by decide +kernel) ⟨(Nat.le_of_ble_eq_true rfl), (Nat.le_of_ble_eq_true rfl)⟩) hK hP hD hS hA (va_recv hK hP (ci := 10) (q0 := 0) rfl rfl) rfl hl.1 rfl (Nat.le_of_ble_eq_true rfl) dX11_does_194 ⟨(Nat.le_of_ble_eq_true rfl), (Nat.le_of_ble_eq_true rfl)⟩ (fun r_194 _ H locs hr_194 hP hD hS => ?_)
    subst hr_194
    have hP : va_P D vwCl (MW ct o (F_grs (y) v ((m_cm v ((b + 1))))).2 R) H := hP
    have hD : va_D A (MW ct o (F_grs (y) v ((m_cm v ((b + 1))))).2 R) := hD
    exact zIret () hx hb hr hlocks hK hP hD hS dX11_does_197 (show ((F_grs (y) v ((m_cm v ((b + 1))))).1) = (F_doC 8 y v (m_cm v (b + 1)) (m_cm v (b + 2)) (m_cm v (b + 3))).1 from rfl)
