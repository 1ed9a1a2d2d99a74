/-! the Model is made -/
theorem apT0 : apL 0 ((2 : Nat) : Int) 0 0 T0 = T0 := by
  unfold apL
  rw [if_pos rfl]
  rfl
theorem mod_end {M Mc Md : Mem} {m : Nat} (hz : ∀ c k, m ≤ c → M c k = 0) (q1 : frT (upm (upm M m 6 2) m 13 1) Mc m ∧ rI Mc m T0 ∧ rW Mc m T0) (q2 : (∀ y, y ≠ m + 1 → Md y = Mc y) ∧ rM Md m 0 T0 (bgC T0) ∧ rM Md m 156 T0 (bgC T0)) : (∀ c, c < m → Md c = M c) ∧ rY Md m S0 := by
  obtain ⟨⟨f1, f2, f3⟩, i1, -⟩ := q1
  obtain ⟨b1, b2, b3⟩ := q2
  have K : ∀ c, c ≠ m → c ≠ m + 1 → c ≠ m + 5 → c ≠ m + 6 → c ≠ m + 7 → c ≠ m + 8 → Md c = M c := fun c h0 h1 h5 h6 h7 h8 => by rw [b1 c h1, f1 c h0 h1 h5 h6 h7 h8, upm_c h0, upm_c h0]
  have K0 : ∀ k : Int, k ≠ 6 → k ≠ 10 → k ≠ 12 → k ≠ 13 → Md m k = 0 := fun k h6 h10 h12 h13 => by rw [b1 m (by omega), f2 k h6 h10 h12 h13, upm_k h13, upm_k h6]; exact hz m k (Nat.le_refl _)
  refine ⟨fun c hc => K c (by omega) (by omega) (by omega) (by omega) (by omega) (by omega), rI_fr i1 (fun y hy => b1 y (by omega)), b2, fun z => absurd z (by decide), fun z => absurd z (by decide), b3, ⟨?_, ?_⟩, ⟨?_, fun k x y => absurd (show k < 0 from y) (by omega)⟩, ⟨?_, fun k x y => absurd (show k < 0 from y) (by omega)⟩, fun k x y => ?_⟩
  · rw [K _ (by omega) (by omega) (by omega) (by omega) (by omega) (by omega)]; exact hz _ _ (by omega)
  · rw [K _ (by omega) (by omega) (by omega) (by omega) (by omega) (by omega)]; exact hz _ _ (by omega)
  · exact K0 3 (by omega) (by omega) (by omega) (by omega)
  · exact K0 23 (by omega) (by omega) (by omega) (by omega)
  · rw [K _ (by omega) (by omega) (by omega) (by omega) (by omega) (by omega)]; exact hz _ _ (by omega)
set_option maxRecDepth 100000 in
set_option maxHeartbeats 4000000 in
theorem i_mod {E : EN} {l : Launch} {M : Mem} {m : Nat} (hn : eN E = m + 1) (hw : wE E) (a0 : At E m (.inl (8, [some none, some none, some none, none, some none, none, none, some none, some none, some none, none, some none, none, none, none, none, none, none, none, none, some none, some none, some none, none, some none]))) (hz0 : ∀ c k, m ≤ c → M c k = 0) : CnI E l mX8_init 5 12 523 [vR m] M (fun E' M' => eN E' = m + 13 ∧ isMod E' m ∧ (∀ c sh, c < m → At E c sh → At E' c sh) ∧ (∀ c, c < m → M' c = M c) ∧ rY M' m S0) := by
  refine CnI.of (by decide) rfl rfl (Nat.le_of_ble_eq_true rfl) 0 rfl (fun oka okm sz G hR => ?_)
  have hx := xt_r (E := E)
  have hup : ∀ c sh, c < m → At E c sh → At E c sh := fun c sh _ h => h
  have hz : ∀ c k, m < c → M c k = 0 := fun c k hc => hz0 c k (by omega)
  refine A_aload_n dX8_init_0 rfl ?_
  refine A_objI dX8_init_1 (hR.rm (by decide) (by decide)) (by decide) oi_RX8 rfl ?_
  refine A_aload_n dX8_init_4 rfl ?_
  refine A_sipush dX8_init_5 sp_195 (by decide) ?_
  refine A_newI (n := m + 1) (N := 195) dX8_init_8 rfl (by decide) hn hw (fun k => hz _ _ (by omega)) hR.fr (hR.c (by decide)) (hR.s (by decide)) (bn_c (by show _ < _; omega) bn_n) (bn_c (by show _ < _; omega) bn_n) (fun E1 x1 (n1 : eN E1 = m + 2) b1 u1 w1 => ?_)
  replace hx := xt_t hx x1
  replace a0 := u1 _ _ a0
  replace hup : ∀ c sh, c < m → At E c sh → At E1 c sh := fun c sh hc h => u1 c sh (hup c sh hc h)
  have a1 : At E1 (m + 1) (aI 195 nG) := b1
  replace hn := n1
  replace hw := w1
  clear n1 w1 u1 b1 x1
  refine A_putF dX8_init_10 fl_RX8_7 fr8_0 a0 hn (by omega) (Nat.le_of_ble_eq_true rfl) hw hR.2.2.2.2.2.2 (fun E2 x2 (n2 : eN E2 = m + 2) b2 u2 w2 => ?_)
  replace hx := xt_t hx x2
  replace a1 := u2 _ _ (by omega) a1
  replace hup : ∀ c sh, c < m → At E c sh → At E2 c sh := fun c sh hc h => u2 c sh (by omega) (hup c sh hc h)
  replace a0 : At E2 (m) (.inl (8, [rf (m + 1), some none, some none, none, some none, none, none, some none, some none, some none, none, some none, none, none, none, none, none, none, none, none, some none, some none, some none, none, some none])) := b2
  replace hn := n2
  replace hw := w2
  clear n2 w2 u2 b2 x2
  refine A_aload_n dX8_init_13 rfl ?_
  refine A_iconst dX8_init_14 (by decide) ?_
  refine A_newZ (n := m + 2) (N := 2) dX8_init_15 rfl (by decide) hn hw (fun k => hz _ _ (by omega)) hR.fr (hR.c (by decide)) (hR.s (by decide)) (bn_c (by show _ < _; omega) bn_n) (bn_c (by show _ < _; omega) bn_n) (fun E3 x3 (n3 : eN E3 = m + 3) b3 u3 w3 => ?_)
  replace hx := xt_t hx x3
  replace a0 := u3 _ _ a0
  replace a1 := u3 _ _ a1
  replace hup : ∀ c sh, c < m → At E c sh → At E3 c sh := fun c sh hc h => u3 c sh (hup c sh hc h)
  have a2 : At E3 (m + 2) (aZ 2 nG) := b3
  replace hn := n3
  replace hw := w3
  clear n3 w3 u3 b3 x3
  refine A_putF dX8_init_17 fl_RX8_13 fr8_1 a0 hn (by omega) (Nat.le_of_ble_eq_true rfl) hw hR.2.2.2.2.2.2 (fun E4 x4 (n4 : eN E4 = m + 3) b4 u4 w4 => ?_)
  replace hx := xt_t hx x4
  replace a1 := u4 _ _ (by omega) a1
  replace a2 := u4 _ _ (by omega) a2
  replace hup : ∀ c sh, c < m → At E c sh → At E4 c sh := fun c sh hc h => u4 c sh (by omega) (hup c sh hc h)
  replace a0 : At E4 (m) (.inl (8, [rf (m + 1), rf (m + 2), some none, none, some none, none, none, some none, some none, some none, none, some none, none, none, none, none, none, none, none, none, some none, some none, some none, none, some none])) := b4
  replace hn := n4
  replace hw := w4
  clear n4 w4 u4 b4 x4
  refine A_aload_n dX8_init_20 rfl ?_
  refine A_sipush dX8_init_21 sp_200 (by decide) ?_
  refine A_newI (n := m + 3) (N := 200) dX8_init_24 rfl (by decide) hn hw (fun k => hz _ _ (by omega)) hR.fr (hR.c (by decide)) (hR.s (by decide)) (bn_c (by show _ < _; omega) bn_n) (bn_c (by show _ < _; omega) bn_n) (fun E5 x5 (n5 : eN E5 = m + 4) b5 u5 w5 => ?_)
  replace hx := xt_t hx x5
  replace a0 := u5 _ _ a0
  replace a1 := u5 _ _ a1
  replace a2 := u5 _ _ a2
  replace hup : ∀ c sh, c < m → At E c sh → At E5 c sh := fun c sh hc h => u5 c sh (hup c sh hc h)
  have a3 : At E5 (m + 3) (aI 200 nG) := b5
  replace hn := n5
  replace hw := w5
  clear n5 w5 u5 b5 x5
  refine A_putF dX8_init_26 fl_RX8_17 fr8_2 a0 hn (by omega) (Nat.le_of_ble_eq_true rfl) hw hR.2.2.2.2.2.2 (fun E6 x6 (n6 : eN E6 = m + 4) b6 u6 w6 => ?_)
  replace hx := xt_t hx x6
  replace a1 := u6 _ _ (by omega) a1
  replace a2 := u6 _ _ (by omega) a2
  replace a3 := u6 _ _ (by omega) a3
  replace hup : ∀ c sh, c < m → At E c sh → At E6 c sh := fun c sh hc h => u6 c sh (by omega) (hup c sh hc h)
  replace a0 : At E6 (m) (.inl (8, [rf (m + 1), rf (m + 2), rf (m + 3), none, some none, none, none, some none, some none, some none, none, some none, none, none, none, none, none, none, none, none, some none, some none, some none, none, some none])) := b6
  replace hn := n6
  replace hw := w6
  clear n6 w6 u6 b6 x6
  refine A_aload_n dX8_init_29 rfl ?_
  refine A_bipush dX8_init_30 bp_48 (by decide) ?_
  refine A_newI (n := m + 4) (N := 48) dX8_init_32 rfl (by decide) hn hw (fun k => hz _ _ (by omega)) hR.fr (hR.c (by decide)) (hR.s (by decide)) (bn_c (by show _ < _; omega) bn_n) (bn_c (by show _ < _; omega) bn_n) (fun E7 x7 (n7 : eN E7 = m + 5) b7 u7 w7 => ?_)
  replace hx := xt_t hx x7
  replace a0 := u7 _ _ a0
  replace a1 := u7 _ _ a1
  replace a2 := u7 _ _ a2
  replace a3 := u7 _ _ a3
  replace hup : ∀ c sh, c < m → At E c sh → At E7 c sh := fun c sh hc h => u7 c sh (hup c sh hc h)
  have a4 : At E7 (m + 4) (aI 48 nG) := b7
  replace hn := n7
  replace hw := w7
  clear n7 w7 u7 b7 x7
  refine A_putF dX8_init_34 fl_RX8_20 fr8_4 a0 hn (by omega) (Nat.le_of_ble_eq_true rfl) hw hR.2.2.2.2.2.2 (fun E8 x8 (n8 : eN E8 = m + 5) b8 u8 w8 => ?_)
  replace hx := xt_t hx x8
  replace a1 := u8 _ _ (by omega) a1
  replace a2 := u8 _ _ (by omega) a2
  replace a3 := u8 _ _ (by omega) a3
  replace a4 := u8 _ _ (by omega) a4
  replace hup : ∀ c sh, c < m → At E c sh → At E8 c sh := fun c sh hc h => u8 c sh (by omega) (hup c sh hc h)
  replace a0 : At E8 (m) (.inl (8, [rf (m + 1), rf (m + 2), rf (m + 3), none, rf (m + 4), none, none, some none, some none, some none, none, some none, none, none, none, none, none, none, none, none, some none, some none, some none, none, some none])) := b8
  replace hn := n8
  replace hw := w8
  clear n8 w8 u8 b8 x8
  refine A_aload_n dX8_init_37 rfl ?_
  refine A_iconst dX8_init_38 (by decide) ?_
  refine A_putI (ki := 6) dX8_init_39 fl_RX8_23 fi8_6 a0 (by rfl) rfl (fun M9 e9 k9 => ?_)
  replace hz : ∀ c k, m < c → M9 c k = 0 := fun c k hc => by rw [e9, upm_c (by omega)]; exact hz c k hc
  refine A_aload_n dX8_init_42 rfl ?_
  refine A_bipush dX8_init_43 bp_8 (by decide) ?_
  refine A_newI (n := m + 5) (N := 8) dX8_init_45 rfl (by decide) hn hw (fun k => hz _ _ (by omega)) hR.fr (hR.c (by decide)) (hR.s (by decide)) (bn_c (by show _ < _; omega) bn_n) (bn_c (by show _ < _; omega) bn_n) (fun E10 x10 (n10 : eN E10 = m + 6) b10 u10 w10 => ?_)
  replace hx := xt_t hx x10
  replace a0 := u10 _ _ a0
  replace a1 := u10 _ _ a1
  replace a2 := u10 _ _ a2
  replace a3 := u10 _ _ a3
  replace a4 := u10 _ _ a4
  replace hup : ∀ c sh, c < m → At E c sh → At E10 c sh := fun c sh hc h => u10 c sh (hup c sh hc h)
  have a5 : At E10 (m + 5) (aI 8 nG) := b10
  replace hn := n10
  replace hw := w10
  clear n10 w10 u10 b10 x10
  refine A_putF dX8_init_47 fl_RX8_27 fr8_7 a0 hn (by omega) (Nat.le_of_ble_eq_true rfl) hw hR.2.2.2.2.2.2 (fun E11 x11 (n11 : eN E11 = m + 6) b11 u11 w11 => ?_)
  replace hx := xt_t hx x11
  replace a1 := u11 _ _ (by omega) a1
  replace a2 := u11 _ _ (by omega) a2
  replace a3 := u11 _ _ (by omega) a3
  replace a4 := u11 _ _ (by omega) a4
  replace a5 := u11 _ _ (by omega) a5
  replace hup : ∀ c sh, c < m → At E c sh → At E11 c sh := fun c sh hc h => u11 c sh (by omega) (hup c sh hc h)
  replace a0 : At E11 (m) (.inl (8, [rf (m + 1), rf (m + 2), rf (m + 3), none, rf (m + 4), none, none, rf (m + 5), some none, some none, none, some none, none, none, none, none, none, none, none, none, some none, some none, some none, none, some none])) := b11
  replace hn := n11
  replace hw := w11
  clear n11 w11 u11 b11 x11
  refine A_aload_n dX8_init_50 rfl ?_
  refine A_bipush dX8_init_51 bp_12 (by decide) ?_
  refine A_newI (n := m + 6) (N := 12) dX8_init_53 rfl (by decide) hn hw (fun k => hz _ _ (by omega)) hR.fr (hR.c (by decide)) (hR.s (by decide)) (bn_c (by show _ < _; omega) bn_n) (bn_c (by show _ < _; omega) bn_n) (fun E12 x12 (n12 : eN E12 = m + 7) b12 u12 w12 => ?_)
  replace hx := xt_t hx x12
  replace a0 := u12 _ _ a0
  replace a1 := u12 _ _ a1
  replace a2 := u12 _ _ a2
  replace a3 := u12 _ _ a3
  replace a4 := u12 _ _ a4
  replace a5 := u12 _ _ a5
  replace hup : ∀ c sh, c < m → At E c sh → At E12 c sh := fun c sh hc h => u12 c sh (hup c sh hc h)
  have a6 : At E12 (m + 6) (aI 12 nG) := b12
  replace hn := n12
  replace hw := w12
  clear n12 w12 u12 b12 x12
  refine A_putF dX8_init_55 fl_RX8_30 fr8_8 a0 hn (by omega) (Nat.le_of_ble_eq_true rfl) hw hR.2.2.2.2.2.2 (fun E13 x13 (n13 : eN E13 = m + 7) b13 u13 w13 => ?_)
  replace hx := xt_t hx x13
  replace a1 := u13 _ _ (by omega) a1
  replace a2 := u13 _ _ (by omega) a2
  replace a3 := u13 _ _ (by omega) a3
  replace a4 := u13 _ _ (by omega) a4
  replace a5 := u13 _ _ (by omega) a5
  replace a6 := u13 _ _ (by omega) a6
  replace hup : ∀ c sh, c < m → At E c sh → At E13 c sh := fun c sh hc h => u13 c sh (by omega) (hup c sh hc h)
  replace a0 : At E13 (m) (.inl (8, [rf (m + 1), rf (m + 2), rf (m + 3), none, rf (m + 4), none, none, rf (m + 5), rf (m + 6), some none, none, some none, none, none, none, none, none, none, none, none, some none, some none, some none, none, some none])) := b13
  replace hn := n13
  replace hw := w13
  clear n13 w13 u13 b13 x13
  refine A_aload_n dX8_init_58 rfl ?_
  refine A_bipush dX8_init_59 bp_12 (by decide) ?_
  refine A_newI (n := m + 7) (N := 12) dX8_init_61 rfl (by decide) hn hw (fun k => hz _ _ (by omega)) hR.fr (hR.c (by decide)) (hR.s (by decide)) (bn_c (by show _ < _; omega) bn_n) (bn_c (by show _ < _; omega) bn_n) (fun E14 x14 (n14 : eN E14 = m + 8) b14 u14 w14 => ?_)
  replace hx := xt_t hx x14
  replace a0 := u14 _ _ a0
  replace a1 := u14 _ _ a1
  replace a2 := u14 _ _ a2
  replace a3 := u14 _ _ a3
  replace a4 := u14 _ _ a4
  replace a5 := u14 _ _ a5
  replace a6 := u14 _ _ a6
  replace hup : ∀ c sh, c < m → At E c sh → At E14 c sh := fun c sh hc h => u14 c sh (hup c sh hc h)
  have a7 : At E14 (m + 7) (aI 12 nG) := b14
  replace hn := n14
  replace hw := w14
  clear n14 w14 u14 b14 x14
  refine A_putF dX8_init_63 fl_RX8_33 fr8_9 a0 hn (by omega) (Nat.le_of_ble_eq_true rfl) hw hR.2.2.2.2.2.2 (fun E15 x15 (n15 : eN E15 = m + 8) b15 u15 w15 => ?_)
  replace hx := xt_t hx x15
  replace a1 := u15 _ _ (by omega) a1
  replace a2 := u15 _ _ (by omega) a2
  replace a3 := u15 _ _ (by omega) a3
  replace a4 := u15 _ _ (by omega) a4
  replace a5 := u15 _ _ (by omega) a5
  replace a6 := u15 _ _ (by omega) a6
  replace a7 := u15 _ _ (by omega) a7
  replace hup : ∀ c sh, c < m → At E c sh → At E15 c sh := fun c sh hc h => u15 c sh (by omega) (hup c sh hc h)
  replace a0 : At E15 (m) (.inl (8, [rf (m + 1), rf (m + 2), rf (m + 3), none, rf (m + 4), none, none, rf (m + 5), rf (m + 6), rf (m + 7), none, some none, none, none, none, none, none, none, none, none, some none, some none, some none, none, some none])) := b15
  replace hn := n15
  replace hw := w15
  clear n15 w15 u15 b15 x15
  refine A_aload_n dX8_init_66 rfl ?_
  refine A_bipush dX8_init_67 bp_6 (by decide) ?_
  refine A_newI (n := m + 8) (N := 6) dX8_init_69 rfl (by decide) hn hw (fun k => hz _ _ (by omega)) hR.fr (hR.c (by decide)) (hR.s (by decide)) (bn_c (by show _ < _; omega) bn_n) (bn_c (by show _ < _; omega) bn_n) (fun E16 x16 (n16 : eN E16 = m + 9) b16 u16 w16 => ?_)
  replace hx := xt_t hx x16
  replace a0 := u16 _ _ a0
  replace a1 := u16 _ _ a1
  replace a2 := u16 _ _ a2
  replace a3 := u16 _ _ a3
  replace a4 := u16 _ _ a4
  replace a5 := u16 _ _ a5
  replace a6 := u16 _ _ a6
  replace a7 := u16 _ _ a7
  replace hup : ∀ c sh, c < m → At E c sh → At E16 c sh := fun c sh hc h => u16 c sh (hup c sh hc h)
  have a8 : At E16 (m + 8) (aI 6 nG) := b16
  replace hn := n16
  replace hw := w16
  clear n16 w16 u16 b16 x16
  refine A_putF dX8_init_71 fl_RX8_36 fr8_11 a0 hn (by omega) (Nat.le_of_ble_eq_true rfl) hw hR.2.2.2.2.2.2 (fun E17 x17 (n17 : eN E17 = m + 9) b17 u17 w17 => ?_)
  replace hx := xt_t hx x17
  replace a1 := u17 _ _ (by omega) a1
  replace a2 := u17 _ _ (by omega) a2
  replace a3 := u17 _ _ (by omega) a3
  replace a4 := u17 _ _ (by omega) a4
  replace a5 := u17 _ _ (by omega) a5
  replace a6 := u17 _ _ (by omega) a6
  replace a7 := u17 _ _ (by omega) a7
  replace a8 := u17 _ _ (by omega) a8
  replace hup : ∀ c sh, c < m → At E c sh → At E17 c sh := fun c sh hc h => u17 c sh (by omega) (hup c sh hc h)
  replace a0 : At E17 (m) (.inl (8, [rf (m + 1), rf (m + 2), rf (m + 3), none, rf (m + 4), none, none, rf (m + 5), rf (m + 6), rf (m + 7), none, rf (m + 8), none, none, none, none, none, none, none, none, some none, some none, some none, none, some none])) := b17
  replace hn := n17
  replace hw := w17
  clear n17 w17 u17 b17 x17
  refine A_aload_n dX8_init_74 rfl ?_
  refine A_iconst dX8_init_75 (by decide) ?_
  refine A_putI (ki := 13) dX8_init_76 fl_RX8_39 fi8_13 a0 (by rfl) rfl (fun M18 e18 k18 => ?_)
  replace hz : ∀ c k, m < c → M18 c k = 0 := fun c k hc => by rw [e18, upm_c (by omega)]; exact hz c k hc
  refine A_aload_n dX8_init_79 rfl ?_
  refine A_bipush dX8_init_80 bp_6 (by decide) ?_
  refine A_newI (n := m + 9) (N := 6) dX8_init_82 rfl (by decide) hn hw (fun k => hz _ _ (by omega)) hR.fr (hR.c (by decide)) (hR.s (by decide)) (bn_c (by show _ < _; omega) bn_n) (bn_c (by show _ < _; omega) bn_n) (fun E19 x19 (n19 : eN E19 = m + 10) b19 u19 w19 => ?_)
  replace hx := xt_t hx x19
  replace a0 := u19 _ _ a0
  replace a1 := u19 _ _ a1
  replace a2 := u19 _ _ a2
  replace a3 := u19 _ _ a3
  replace a4 := u19 _ _ a4
  replace a5 := u19 _ _ a5
  replace a6 := u19 _ _ a6
  replace a7 := u19 _ _ a7
  replace a8 := u19 _ _ a8
  replace hup : ∀ c sh, c < m → At E c sh → At E19 c sh := fun c sh hc h => u19 c sh (hup c sh hc h)
  have a9 : At E19 (m + 9) (aI 6 nG) := b19
  replace hn := n19
  replace hw := w19
  clear n19 w19 u19 b19 x19
  refine A_putF dX8_init_84 fl_RX8_42 fr8_20 a0 hn (by omega) (Nat.le_of_ble_eq_true rfl) hw hR.2.2.2.2.2.2 (fun E20 x20 (n20 : eN E20 = m + 10) b20 u20 w20 => ?_)
  replace hx := xt_t hx x20
  replace a1 := u20 _ _ (by omega) a1
  replace a2 := u20 _ _ (by omega) a2
  replace a3 := u20 _ _ (by omega) a3
  replace a4 := u20 _ _ (by omega) a4
  replace a5 := u20 _ _ (by omega) a5
  replace a6 := u20 _ _ (by omega) a6
  replace a7 := u20 _ _ (by omega) a7
  replace a8 := u20 _ _ (by omega) a8
  replace a9 := u20 _ _ (by omega) a9
  replace hup : ∀ c sh, c < m → At E c sh → At E20 c sh := fun c sh hc h => u20 c sh (by omega) (hup c sh hc h)
  replace a0 : At E20 (m) (.inl (8, [rf (m + 1), rf (m + 2), rf (m + 3), none, rf (m + 4), none, none, rf (m + 5), rf (m + 6), rf (m + 7), none, rf (m + 8), none, none, none, none, none, none, none, none, rf (m + 9), some none, some none, none, some none])) := b20
  replace hn := n20
  replace hw := w20
  clear n20 w20 u20 b20 x20
  refine A_aload_n dX8_init_87 rfl ?_
  refine A_bipush dX8_init_88 bp_8 (by decide) ?_
  refine A_newI (n := m + 10) (N := 8) dX8_init_90 rfl (by decide) hn hw (fun k => hz _ _ (by omega)) hR.fr (hR.c (by decide)) (hR.s (by decide)) (bn_c (by show _ < _; omega) bn_n) (bn_c (by show _ < _; omega) bn_n) (fun E21 x21 (n21 : eN E21 = m + 11) b21 u21 w21 => ?_)
  replace hx := xt_t hx x21
  replace a0 := u21 _ _ a0
  replace a1 := u21 _ _ a1
  replace a2 := u21 _ _ a2
  replace a3 := u21 _ _ a3
  replace a4 := u21 _ _ a4
  replace a5 := u21 _ _ a5
  replace a6 := u21 _ _ a6
  replace a7 := u21 _ _ a7
  replace a8 := u21 _ _ a8
  replace a9 := u21 _ _ a9
  replace hup : ∀ c sh, c < m → At E c sh → At E21 c sh := fun c sh hc h => u21 c sh (hup c sh hc h)
  have a10 : At E21 (m + 10) (aI 8 nG) := b21
  replace hn := n21
  replace hw := w21
  clear n21 w21 u21 b21 x21
  refine A_putF dX8_init_92 fl_RX8_45 fr8_21 a0 hn (by omega) (Nat.le_of_ble_eq_true rfl) hw hR.2.2.2.2.2.2 (fun E22 x22 (n22 : eN E22 = m + 11) b22 u22 w22 => ?_)
  replace hx := xt_t hx x22
  replace a1 := u22 _ _ (by omega) a1
  replace a2 := u22 _ _ (by omega) a2
  replace a3 := u22 _ _ (by omega) a3
  replace a4 := u22 _ _ (by omega) a4
  replace a5 := u22 _ _ (by omega) a5
  replace a6 := u22 _ _ (by omega) a6
  replace a7 := u22 _ _ (by omega) a7
  replace a8 := u22 _ _ (by omega) a8
  replace a9 := u22 _ _ (by omega) a9
  replace a10 := u22 _ _ (by omega) a10
  replace hup : ∀ c sh, c < m → At E c sh → At E22 c sh := fun c sh hc h => u22 c sh (by omega) (hup c sh hc h)
  replace a0 : At E22 (m) (.inl (8, [rf (m + 1), rf (m + 2), rf (m + 3), none, rf (m + 4), none, none, rf (m + 5), rf (m + 6), rf (m + 7), none, rf (m + 8), none, none, none, none, none, none, none, none, rf (m + 9), rf (m + 10), some none, none, some none])) := b22
  replace hn := n22
  replace hw := w22
  clear n22 w22 u22 b22 x22
  refine A_aload_n dX8_init_95 rfl ?_
  refine A_bipush dX8_init_96 bp_18 (by decide) ?_
  refine A_newI (n := m + 11) (N := 18) dX8_init_98 rfl (by decide) hn hw (fun k => hz _ _ (by omega)) hR.fr (hR.c (by decide)) (hR.s (by decide)) (bn_c (by show _ < _; omega) bn_n) (bn_c (by show _ < _; omega) bn_n) (fun E23 x23 (n23 : eN E23 = m + 12) b23 u23 w23 => ?_)
  replace hx := xt_t hx x23
  replace a0 := u23 _ _ a0
  replace a1 := u23 _ _ a1
  replace a2 := u23 _ _ a2
  replace a3 := u23 _ _ a3
  replace a4 := u23 _ _ a4
  replace a5 := u23 _ _ a5
  replace a6 := u23 _ _ a6
  replace a7 := u23 _ _ a7
  replace a8 := u23 _ _ a8
  replace a9 := u23 _ _ a9
  replace a10 := u23 _ _ a10
  replace hup : ∀ c sh, c < m → At E c sh → At E23 c sh := fun c sh hc h => u23 c sh (hup c sh hc h)
  have a11 : At E23 (m + 11) (aI 18 nG) := b23
  replace hn := n23
  replace hw := w23
  clear n23 w23 u23 b23 x23
  refine A_putF dX8_init_100 fl_RX8_48 fr8_22 a0 hn (by omega) (Nat.le_of_ble_eq_true rfl) hw hR.2.2.2.2.2.2 (fun E24 x24 (n24 : eN E24 = m + 12) b24 u24 w24 => ?_)
  replace hx := xt_t hx x24
  replace a1 := u24 _ _ (by omega) a1
  replace a2 := u24 _ _ (by omega) a2
  replace a3 := u24 _ _ (by omega) a3
  replace a4 := u24 _ _ (by omega) a4
  replace a5 := u24 _ _ (by omega) a5
  replace a6 := u24 _ _ (by omega) a6
  replace a7 := u24 _ _ (by omega) a7
  replace a8 := u24 _ _ (by omega) a8
  replace a9 := u24 _ _ (by omega) a9
  replace a10 := u24 _ _ (by omega) a10
  replace a11 := u24 _ _ (by omega) a11
  replace hup : ∀ c sh, c < m → At E c sh → At E24 c sh := fun c sh hc h => u24 c sh (by omega) (hup c sh hc h)
  replace a0 : At E24 (m) (.inl (8, [rf (m + 1), rf (m + 2), rf (m + 3), none, rf (m + 4), none, none, rf (m + 5), rf (m + 6), rf (m + 7), none, rf (m + 8), none, none, none, none, none, none, none, none, rf (m + 9), rf (m + 10), rf (m + 11), none, some none])) := b24
  replace hn := n24
  replace hw := w24
  clear n24 w24 u24 b24 x24
  refine A_aload_n dX8_init_103 rfl ?_
  refine A_bipush dX8_init_104 bp_8 (by decide) ?_
  refine A_newI (n := m + 12) (N := 8) dX8_init_106 rfl (by decide) hn hw (fun k => hz _ _ (by omega)) hR.fr (hR.c (by decide)) (hR.s (by decide)) (bn_c (by show _ < _; omega) bn_n) (bn_c (by show _ < _; omega) bn_n) (fun E25 x25 (n25 : eN E25 = m + 13) b25 u25 w25 => ?_)
  replace hx := xt_t hx x25
  replace a0 := u25 _ _ a0
  replace a1 := u25 _ _ a1
  replace a2 := u25 _ _ a2
  replace a3 := u25 _ _ a3
  replace a4 := u25 _ _ a4
  replace a5 := u25 _ _ a5
  replace a6 := u25 _ _ a6
  replace a7 := u25 _ _ a7
  replace a8 := u25 _ _ a8
  replace a9 := u25 _ _ a9
  replace a10 := u25 _ _ a10
  replace a11 := u25 _ _ a11
  replace hup : ∀ c sh, c < m → At E c sh → At E25 c sh := fun c sh hc h => u25 c sh (hup c sh hc h)
  have a12 : At E25 (m + 12) (aI 8 nG) := b25
  replace hn := n25
  replace hw := w25
  clear n25 w25 u25 b25 x25
  refine A_putF dX8_init_108 fl_RX8_51 fr8_24 a0 hn (by omega) (Nat.le_of_ble_eq_true rfl) hw hR.2.2.2.2.2.2 (fun E26 x26 (n26 : eN E26 = m + 13) b26 u26 w26 => ?_)
  replace hx := xt_t hx x26
  replace a1 := u26 _ _ (by omega) a1
  replace a2 := u26 _ _ (by omega) a2
  replace a3 := u26 _ _ (by omega) a3
  replace a4 := u26 _ _ (by omega) a4
  replace a5 := u26 _ _ (by omega) a5
  replace a6 := u26 _ _ (by omega) a6
  replace a7 := u26 _ _ (by omega) a7
  replace a8 := u26 _ _ (by omega) a8
  replace a9 := u26 _ _ (by omega) a9
  replace a10 := u26 _ _ (by omega) a10
  replace a11 := u26 _ _ (by omega) a11
  replace a12 := u26 _ _ (by omega) a12
  replace hup : ∀ c sh, c < m → At E c sh → At E26 c sh := fun c sh hc h => u26 c sh (by omega) (hup c sh hc h)
  replace a0 : At E26 (m) (.inl (8, [rf (m + 1), rf (m + 2), rf (m + 3), none, rf (m + 4), none, none, rf (m + 5), rf (m + 6), rf (m + 7), none, rf (m + 8), none, none, none, none, none, none, none, none, rf (m + 9), rf (m + 10), rf (m + 11), none, rf (m + 12)])) := b26
  replace hn := n26
  replace hw := w26
  clear n26 w26 u26 b26 x26
  refine A_aload_n dX8_init_111 rfl ?_
  refine A_iconst dX8_init_112 (by decide) ?_
  refine A_vV1 (mj := mX8_clear) dX8_init_113 (hR.rm (by decide) (by decide)) (by decide) ok_X8_clear mv_X8_clear ml_RX8_54 a0 rfl rfl rfl (m_clear (T := T0) (n := 2) (a := 0) (b := 0) ⟨a0, a1, a2, a3, a4, a5, a6, a7, a8, a9, a10, a11, a12⟩ (by omega)) (fun M27 k27 q27 => ?_)
  rw [apT0] at q27
  have q113 := q27
  refine A_aload_n dX8_init_116 rfl ?_
  refine A_vV0 (mj := mX8_begin) dX8_init_117 (hR.rm (by decide) (by decide)) (by decide) ok_X8_begin mv_X8_begin ml_RX8_58 a0 rfl rfl rfl (m_begin (T := T0) ⟨a0, a1, a2, a3, a4, a5, a6, a7, a8, a9, a10, a11, a12⟩ q113.2.2 wT_0) (fun M28 k28 q28 => ?_)
  have q117 := q28
  refine A_iend hR hx hw dX8_init_120 rfl ?_
  have ee := mod_end hz0 (M := M) (by first | exact q113 | (subst_vars; exact q113)) q117
  exact ⟨hn, ⟨a0, a1, a2, a3, a4, a5, a6, a7, a8, a9, a10, a11, a12⟩, hup, ee.1, ee.2⟩

