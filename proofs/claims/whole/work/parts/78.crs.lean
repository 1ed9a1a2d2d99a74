/-! Course -/
set_option maxRecDepth 100000 in
set_option maxHeartbeats 4000000 in
theorem i_crs {E : EN} {l : Launch} {M : Mem} {t : Nat} (hn : eN E = t + 1) (hw : wE E) (a0 : At E t (.inl (0, [none, none, none, none, some none, some none, some none, some none, some none, some none, some none]))) (hz0 : ∀ c k, t ≤ c → M c k = 0) : CnI E l mX0_init 1 7 50 [vR t] M (fun E' M' => eN E' = t + 8 ∧ isCrs E' t ∧ (∀ c sh, c < t → At E c sh → At E' c sh) ∧ (∀ c k, c < t ∨ t + 8 ≤ c → M' c k = M c k) ∧ True) := by
  refine CnI.of (by decide) rfl rfl (Nat.le_of_ble_eq_true rfl) 0 rfl (fun oka okm sz G hR => ?_)
  have hx := xt_r (E := E)
  have hup : ∀ c sh, c < t → At E c sh → At E c sh := fun c sh _ h => h
  have hz : ∀ c k, t < c → M c k = 0 := fun c k hc => hz0 c k (by omega)
  refine A_aload_n dX0_init_0 rfl ?_
  refine A_objI dX0_init_1 (hR.rm (by decide) (by decide)) (by decide) oi_RX0 rfl ?_
  refine A_aload_n dX0_init_4 rfl ?_
  refine A_bipush dX0_init_5 bp_12 (by decide) ?_
  refine A_newI (n := t + 1) (N := 12) dX0_init_7 rfl (by decide) hn hw (fun k => hz _ _ (by omega)) hR.fr (hR.c (by decide)) (hR.s (by decide)) (bn_c (by show _ < _; omega) bn_n) (bn_c (by show _ < _; omega) bn_n) (fun E1 x1 (n1 : eN E1 = t + 2) b1 u1 w1 => ?_)
  replace hx := xt_t hx x1
  replace a0 := u1 _ _ a0
  replace hup : ∀ c sh, c < t → At E c sh → At E1 c sh := fun c sh hc h => u1 c sh (hup c sh hc h)
  have a1 : At E1 (t + 1) (aI 12 nG) := b1
  replace hn := n1
  replace hw := w1
  clear n1 w1 u1 b1 x1
  refine A_putF dX0_init_9 fl_RX0_9 fr0_4 a0 hn (by omega) (Nat.le_of_ble_eq_true rfl) hw hR.2.2.2.2.2.2 (fun E2 x2 (n2 : eN E2 = t + 2) b2 u2 w2 => ?_)
  replace hx := xt_t hx x2
  replace a1 := u2 _ _ (by omega) a1
  replace hup : ∀ c sh, c < t → At E c sh → At E2 c sh := fun c sh hc h => u2 c sh (by omega) (hup c sh hc h)
  replace a0 : At E2 (t) (.inl (0, [none, none, none, none, rf (t + 1), some none, some none, some none, some none, some none, some none])) := b2
  replace hn := n2
  replace hw := w2
  clear n2 w2 u2 b2 x2
  refine A_aload_n dX0_init_12 rfl ?_
  refine A_bipush dX0_init_13 bp_6 (by decide) ?_
  refine A_newI (n := t + 2) (N := 6) dX0_init_15 rfl (by decide) hn hw (fun k => hz _ _ (by omega)) hR.fr (hR.c (by decide)) (hR.s (by decide)) (bn_c (by show _ < _; omega) bn_n) (bn_c (by show _ < _; omega) bn_n) (fun E3 x3 (n3 : eN E3 = t + 3) b3 u3 w3 => ?_)
  replace hx := xt_t hx x3
  replace a0 := u3 _ _ a0
  replace a1 := u3 _ _ a1
  replace hup : ∀ c sh, c < t → At E c sh → At E3 c sh := fun c sh hc h => u3 c sh (hup c sh hc h)
  have a2 : At E3 (t + 2) (aI 6 nG) := b3
  replace hn := n3
  replace hw := w3
  clear n3 w3 u3 b3 x3
  refine A_putF dX0_init_17 fl_RX0_15 fr0_5 a0 hn (by omega) (Nat.le_of_ble_eq_true rfl) hw hR.2.2.2.2.2.2 (fun E4 x4 (n4 : eN E4 = t + 3) b4 u4 w4 => ?_)
  replace hx := xt_t hx x4
  replace a1 := u4 _ _ (by omega) a1
  replace a2 := u4 _ _ (by omega) a2
  replace hup : ∀ c sh, c < t → At E c sh → At E4 c sh := fun c sh hc h => u4 c sh (by omega) (hup c sh hc h)
  replace a0 : At E4 (t) (.inl (0, [none, none, none, none, rf (t + 1), rf (t + 2), some none, some none, some none, some none, some none])) := b4
  replace hn := n4
  replace hw := w4
  clear n4 w4 u4 b4 x4
  refine A_aload_n dX0_init_20 rfl ?_
  refine A_bipush dX0_init_21 bp_6 (by decide) ?_
  refine A_newI (n := t + 3) (N := 6) dX0_init_23 rfl (by decide) hn hw (fun k => hz _ _ (by omega)) hR.fr (hR.c (by decide)) (hR.s (by decide)) (bn_c (by show _ < _; omega) bn_n) (bn_c (by show _ < _; omega) bn_n) (fun E5 x5 (n5 : eN E5 = t + 4) b5 u5 w5 => ?_)
  replace hx := xt_t hx x5
  replace a0 := u5 _ _ a0
  replace a1 := u5 _ _ a1
  replace a2 := u5 _ _ a2
  replace hup : ∀ c sh, c < t → At E c sh → At E5 c sh := fun c sh hc h => u5 c sh (hup c sh hc h)
  have a3 : At E5 (t + 3) (aI 6 nG) := b5
  replace hn := n5
  replace hw := w5
  clear n5 w5 u5 b5 x5
  refine A_putF dX0_init_25 fl_RX0_18 fr0_6 a0 hn (by omega) (Nat.le_of_ble_eq_true rfl) hw hR.2.2.2.2.2.2 (fun E6 x6 (n6 : eN E6 = t + 4) b6 u6 w6 => ?_)
  replace hx := xt_t hx x6
  replace a1 := u6 _ _ (by omega) a1
  replace a2 := u6 _ _ (by omega) a2
  replace a3 := u6 _ _ (by omega) a3
  replace hup : ∀ c sh, c < t → At E c sh → At E6 c sh := fun c sh hc h => u6 c sh (by omega) (hup c sh hc h)
  replace a0 : At E6 (t) (.inl (0, [none, none, none, none, rf (t + 1), rf (t + 2), rf (t + 3), some none, some none, some none, some none])) := b6
  replace hn := n6
  replace hw := w6
  clear n6 w6 u6 b6 x6
  refine A_aload_n dX0_init_28 rfl ?_
  refine A_bipush dX0_init_29 bp_6 (by decide) ?_
  refine A_newI (n := t + 4) (N := 6) dX0_init_31 rfl (by decide) hn hw (fun k => hz _ _ (by omega)) hR.fr (hR.c (by decide)) (hR.s (by decide)) (bn_c (by show _ < _; omega) bn_n) (bn_c (by show _ < _; omega) bn_n) (fun E7 x7 (n7 : eN E7 = t + 5) b7 u7 w7 => ?_)
  replace hx := xt_t hx x7
  replace a0 := u7 _ _ a0
  replace a1 := u7 _ _ a1
  replace a2 := u7 _ _ a2
  replace a3 := u7 _ _ a3
  replace hup : ∀ c sh, c < t → At E c sh → At E7 c sh := fun c sh hc h => u7 c sh (hup c sh hc h)
  have a4 : At E7 (t + 4) (aI 6 nG) := b7
  replace hn := n7
  replace hw := w7
  clear n7 w7 u7 b7 x7
  refine A_putF dX0_init_33 fl_RX0_21 fr0_7 a0 hn (by omega) (Nat.le_of_ble_eq_true rfl) hw hR.2.2.2.2.2.2 (fun E8 x8 (n8 : eN E8 = t + 5) b8 u8 w8 => ?_)
  replace hx := xt_t hx x8
  replace a1 := u8 _ _ (by omega) a1
  replace a2 := u8 _ _ (by omega) a2
  replace a3 := u8 _ _ (by omega) a3
  replace a4 := u8 _ _ (by omega) a4
  replace hup : ∀ c sh, c < t → At E c sh → At E8 c sh := fun c sh hc h => u8 c sh (by omega) (hup c sh hc h)
  replace a0 : At E8 (t) (.inl (0, [none, none, none, none, rf (t + 1), rf (t + 2), rf (t + 3), rf (t + 4), some none, some none, some none])) := b8
  replace hn := n8
  replace hw := w8
  clear n8 w8 u8 b8 x8
  refine A_aload_n dX0_init_36 rfl ?_
  refine A_bipush dX0_init_37 bp_6 (by decide) ?_
  refine A_newI (n := t + 5) (N := 6) dX0_init_39 rfl (by decide) hn hw (fun k => hz _ _ (by omega)) hR.fr (hR.c (by decide)) (hR.s (by decide)) (bn_c (by show _ < _; omega) bn_n) (bn_c (by show _ < _; omega) bn_n) (fun E9 x9 (n9 : eN E9 = t + 6) b9 u9 w9 => ?_)
  replace hx := xt_t hx x9
  replace a0 := u9 _ _ a0
  replace a1 := u9 _ _ a1
  replace a2 := u9 _ _ a2
  replace a3 := u9 _ _ a3
  replace a4 := u9 _ _ a4
  replace hup : ∀ c sh, c < t → At E c sh → At E9 c sh := fun c sh hc h => u9 c sh (hup c sh hc h)
  have a5 : At E9 (t + 5) (aI 6 nG) := b9
  replace hn := n9
  replace hw := w9
  clear n9 w9 u9 b9 x9
  refine A_putF dX0_init_41 fl_RX0_24 fr0_8 a0 hn (by omega) (Nat.le_of_ble_eq_true rfl) hw hR.2.2.2.2.2.2 (fun E10 x10 (n10 : eN E10 = t + 6) b10 u10 w10 => ?_)
  replace hx := xt_t hx x10
  replace a1 := u10 _ _ (by omega) a1
  replace a2 := u10 _ _ (by omega) a2
  replace a3 := u10 _ _ (by omega) a3
  replace a4 := u10 _ _ (by omega) a4
  replace a5 := u10 _ _ (by omega) a5
  replace hup : ∀ c sh, c < t → At E c sh → At E10 c sh := fun c sh hc h => u10 c sh (by omega) (hup c sh hc h)
  replace a0 : At E10 (t) (.inl (0, [none, none, none, none, rf (t + 1), rf (t + 2), rf (t + 3), rf (t + 4), rf (t + 5), some none, some none])) := b10
  replace hn := n10
  replace hw := w10
  clear n10 w10 u10 b10 x10
  refine A_aload_n dX0_init_44 rfl ?_
  refine A_bipush dX0_init_45 bp_6 (by decide) ?_
  refine A_newI (n := t + 6) (N := 6) dX0_init_47 rfl (by decide) hn hw (fun k => hz _ _ (by omega)) hR.fr (hR.c (by decide)) (hR.s (by decide)) (bn_c (by show _ < _; omega) bn_n) (bn_c (by show _ < _; omega) bn_n) (fun E11 x11 (n11 : eN E11 = t + 7) b11 u11 w11 => ?_)
  replace hx := xt_t hx x11
  replace a0 := u11 _ _ a0
  replace a1 := u11 _ _ a1
  replace a2 := u11 _ _ a2
  replace a3 := u11 _ _ a3
  replace a4 := u11 _ _ a4
  replace a5 := u11 _ _ a5
  replace hup : ∀ c sh, c < t → At E c sh → At E11 c sh := fun c sh hc h => u11 c sh (hup c sh hc h)
  have a6 : At E11 (t + 6) (aI 6 nG) := b11
  replace hn := n11
  replace hw := w11
  clear n11 w11 u11 b11 x11
  refine A_putF dX0_init_49 fl_RX0_27 fr0_9 a0 hn (by omega) (Nat.le_of_ble_eq_true rfl) hw hR.2.2.2.2.2.2 (fun E12 x12 (n12 : eN E12 = t + 7) b12 u12 w12 => ?_)
  replace hx := xt_t hx x12
  replace a1 := u12 _ _ (by omega) a1
  replace a2 := u12 _ _ (by omega) a2
  replace a3 := u12 _ _ (by omega) a3
  replace a4 := u12 _ _ (by omega) a4
  replace a5 := u12 _ _ (by omega) a5
  replace a6 := u12 _ _ (by omega) a6
  replace hup : ∀ c sh, c < t → At E c sh → At E12 c sh := fun c sh hc h => u12 c sh (by omega) (hup c sh hc h)
  replace a0 : At E12 (t) (.inl (0, [none, none, none, none, rf (t + 1), rf (t + 2), rf (t + 3), rf (t + 4), rf (t + 5), rf (t + 6), some none])) := b12
  replace hn := n12
  replace hw := w12
  clear n12 w12 u12 b12 x12
  refine A_aload_n dX0_init_52 rfl ?_
  refine A_bipush dX0_init_53 bp_8 (by decide) ?_
  refine A_newI (n := t + 7) (N := 8) dX0_init_55 rfl (by decide) hn hw (fun k => hz _ _ (by omega)) hR.fr (hR.c (by decide)) (hR.s (by decide)) (bn_c (by show _ < _; omega) bn_n) (bn_c (by show _ < _; omega) bn_n) (fun E13 x13 (n13 : eN E13 = t + 8) b13 u13 w13 => ?_)
  replace hx := xt_t hx x13
  replace a0 := u13 _ _ a0
  replace a1 := u13 _ _ a1
  replace a2 := u13 _ _ a2
  replace a3 := u13 _ _ a3
  replace a4 := u13 _ _ a4
  replace a5 := u13 _ _ a5
  replace a6 := u13 _ _ a6
  replace hup : ∀ c sh, c < t → At E c sh → At E13 c sh := fun c sh hc h => u13 c sh (hup c sh hc h)
  have a7 : At E13 (t + 7) (aI 8 nG) := b13
  replace hn := n13
  replace hw := w13
  clear n13 w13 u13 b13 x13
  refine A_putF dX0_init_57 fl_RX0_30 fr0_10 a0 hn (by omega) (Nat.le_of_ble_eq_true rfl) hw hR.2.2.2.2.2.2 (fun E14 x14 (n14 : eN E14 = t + 8) b14 u14 w14 => ?_)
  replace hx := xt_t hx x14
  replace a1 := u14 _ _ (by omega) a1
  replace a2 := u14 _ _ (by omega) a2
  replace a3 := u14 _ _ (by omega) a3
  replace a4 := u14 _ _ (by omega) a4
  replace a5 := u14 _ _ (by omega) a5
  replace a6 := u14 _ _ (by omega) a6
  replace a7 := u14 _ _ (by omega) a7
  replace hup : ∀ c sh, c < t → At E c sh → At E14 c sh := fun c sh hc h => u14 c sh (by omega) (hup c sh hc h)
  replace a0 : At E14 (t) (.inl (0, [none, none, none, none, rf (t + 1), rf (t + 2), rf (t + 3), rf (t + 4), rf (t + 5), rf (t + 6), rf (t + 7)])) := b14
  replace hn := n14
  replace hw := w14
  clear n14 w14 u14 b14 x14
  refine A_iend hR hx hw dX0_init_60 rfl ?_
  exact ⟨hn, ⟨a0, a1, a2, a3, a4, a5, a6, a7⟩, hup, fun _ _ _ => rfl, trivial⟩

