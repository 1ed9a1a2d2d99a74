/-! the object is made -/
def S0 : GS := (T0, bgC T0, (bgC T0, bgC T0), (0, 0), (0, fz), (0, fz, fz, fz), fz)
set_option maxRecDepth 100000 in
set_option maxHeartbeats 4000000 in
theorem i_app {E : EN} {l : Launch} {M : Mem} (hn : eN E = 1) (hw : wE E) (a0 : At E 0 (.inl (7, [some none, some none, some none, some none, some none, some none, some none, some none, some none]))) (hz0 : ∀ c k, M c k = 0) : CnI E l mX7_init 5 64 661 [vR 0] M (fun E' M' => eN E' = 65 ∧ isApp E' ∧ rX M' S0 ∧ ∀ c k, 65 ≤ c → M' c k = 0) := by
  refine CnI.of (by decide) rfl rfl (Nat.le_of_ble_eq_true rfl) 1 rfl (fun oka okm sz G hR => ?_)
  have hx := xt_r (E := E)
  have hup : ∀ c sh, c < 0 → At E c sh → At E c sh := fun c sh _ h => h
  have hz : ∀ c k, 0 < c → M c k = 0 := fun c k _ => hz0 c k
  refine A_aload_n dX7_init_0 rfl ?_
  refine A_objI dX7_init_1 (hR.rm (by decide) (by decide)) (by decide) oi_RX7 rfl ?_
  refine A_aload_n dX7_init_4 rfl ?_
  refine A_new (n := 1) (N := 2) dX7_init_5 nw_RX7_7 rfl hn hw (fun k => hz _ _ (by omega)) hR.fr (hR.c (by decide)) (hR.s (by decide)) (bn_c (by show _ < _; omega) (bn_c trivial bn_n)) (bn_c (by show _ < _; omega) bn_n) (fun E1 x1 (n1 : eN E1 = 2) b1 u1 w1 => ?_)
  replace hx := xt_t hx x1
  replace a0 := u1 _ _ a0
  replace hup : ∀ c sh, c < 0 → At E c sh → At E1 c sh := fun c sh hc h => u1 c sh (hup c sh hc h)
  have a1 : At E1 (1) (.inl (5, [some none, none])) := b1
  replace hn := n1
  replace hw := w1
  clear n1 w1 u1 b1 x1
  refine A_dup dX7_init_8 rfl ?_
  refine A_ctorN (host := RX7) (y := yX5_init) (bc := cX5_init) (nl := 1) (As := []) (b := 1) (N := 2) dX7_init_9 (hR.rm (by decide) (by decide)) (by decide) ok_X5_init rfl in_X5_init hR.2.2.2.2.2.1.1 rfl rfl hR.fr (hR.c (by decide)) (hR.s (by decide)) hn (bn_c (by show _ < _; omega) (bn_c trivial bn_n)) (bn_c (by show _ < _; omega) (bn_c (by show _ < _; omega) bn_n)) hR.2.2.2.2.2.1 (i_txt (t := 1) hn hw a1 (fun c k hc => hz c k (by omega))) (fun E2 M2 k2 x2 w2 q2 => ?_)
  obtain ⟨n2, pX, v2, f2, m1⟩ := q2
  replace hx := xt_t hx x2
  replace a0 := v2 _ _ (by omega) a0
  replace hup : ∀ c sh, c < 0 → At E c sh → At E2 c sh := fun c sh hc h => v2 c sh (by omega) (hup c sh hc h)
  replace hn : eN E2 = 3 := n2
  replace hw := w2
  clear n2 w2 x2
  replace hz : ∀ c k, 3 ≤ c → M2 c k = 0 := fun c k hc => by rw [f2 c k (by omega)]; exact hz c k (by omega)
  refine A_putF dX7_init_12 fl_RX7_10 fr7_0 a0 hn (by omega) (Nat.le_of_ble_eq_true rfl) hw hR.2.2.2.2.2.2 (fun E3 x3 (n3 : eN E3 = 3) b3 u3 w3 => ?_)
  replace hx := xt_t hx x3
  replace pX := isTxt_up (q := 0) (fun c sh hq h => u3 c sh hq h) (by omega) pX
  replace hup : ∀ c sh, c < 0 → At E c sh → At E3 c sh := fun c sh hc h => u3 c sh (by omega) (hup c sh hc h)
  replace a0 : At E3 (0) (.inl (7, [rf 1, some none, some none, some none, some none, some none, some none, some none, some none])) := b3
  replace hn := n3
  replace hw := w3
  clear n3 w3 u3 b3 x3
  refine A_aload_n dX7_init_15 rfl ?_
  refine A_new (n := 3) (N := 12) dX7_init_16 nw_RX7_16 rfl hn hw (fun k => hz _ _ (by omega)) hR.fr (hR.c (by decide)) (hR.s (by decide)) (bn_c (by show _ < _; omega) (bn_c trivial bn_n)) (bn_c (by show _ < _; omega) bn_n) (fun E4 x4 (n4 : eN E4 = 4) b4 u4 w4 => ?_)
  replace hx := xt_t hx x4
  replace a0 := u4 _ _ a0
  replace pX := isTxt_up (q := 0) (fun c sh _ h => u4 c sh h) (by omega) pX
  replace hup : ∀ c sh, c < 0 → At E c sh → At E4 c sh := fun c sh hc h => u4 c sh (hup c sh hc h)
  have a3 : At E4 (3) (.inl (6, [none, none, none, none, none, some none, some none, some none, some none, some none, some none, some none])) := b4
  replace hn := n4
  replace hw := w4
  clear n4 w4 u4 b4 x4
  refine A_dup dX7_init_19 rfl ?_
  refine A_ctor (y := yX6_init) (bc := cX6_init) (nl := 1) (As := []) (b := 3) (N := 4) dX7_init_20 (hR.rm (by decide) (by decide)) (by decide) ok_X6_init rfl in_X6_init ml_RX7_18 rfl rfl hR.fr (hR.c (by decide)) (hR.s (by decide)) hn (bn_c (by show _ < _; omega) (bn_c trivial bn_n)) (bn_c (by show _ < _; omega) (bn_c (by show _ < _; omega) bn_n)) hR.2.2.2.2.2.1 (i_told (t := 3) hn hw a3 (fun c k hc => hz c k (by omega))) (fun E5 M5 k5 x5 w5 q5 => ?_)
  obtain ⟨n5, pT, v5, f5, r3⟩ := q5
  replace hx := xt_t hx x5
  replace a0 := v5 _ _ (by omega) a0
  replace pX := isTxt_lt (q := 3) (fun c sh hc h => v5 c sh hc h) (by omega) pX
  replace hup : ∀ c sh, c < 0 → At E c sh → At E5 c sh := fun c sh hc h => v5 c sh (by omega) (hup c sh hc h)
  replace hn : eN E5 = 11 := n5
  replace hw := w5
  clear n5 w5 x5
  replace hz : ∀ c k, 11 ≤ c → M5 c k = 0 := fun c k hc => by rw [f5 c k (by omega)]; exact hz c k (by omega)
  replace m1 := (f5 1 1 (by omega)).trans m1
  refine A_putF dX7_init_23 fl_RX7_19 fr7_1 a0 hn (by omega) (Nat.le_of_ble_eq_true rfl) hw hR.2.2.2.2.2.2 (fun E6 x6 (n6 : eN E6 = 11) b6 u6 w6 => ?_)
  replace hx := xt_t hx x6
  replace pX := isTxt_up (q := 0) (fun c sh hq h => u6 c sh hq h) (by omega) pX
  replace pT := isTold_up (q := 0) (fun c sh hq h => u6 c sh hq h) (by omega) pT
  replace hup : ∀ c sh, c < 0 → At E c sh → At E6 c sh := fun c sh hc h => u6 c sh (by omega) (hup c sh hc h)
  replace a0 : At E6 (0) (.inl (7, [rf 1, rf 3, some none, some none, some none, some none, some none, some none, some none])) := b6
  replace hn := n6
  replace hw := w6
  clear n6 w6 u6 b6 x6
  refine A_aload_n dX7_init_26 rfl ?_
  refine A_new (n := 11) (N := 6) dX7_init_27 nw_RX7_23 rfl hn hw (fun k => hz _ _ (by omega)) hR.fr (hR.c (by decide)) (hR.s (by decide)) (bn_c (by show _ < _; omega) (bn_c trivial bn_n)) (bn_c (by show _ < _; omega) bn_n) (fun E7 x7 (n7 : eN E7 = 12) b7 u7 w7 => ?_)
  replace hx := xt_t hx x7
  replace a0 := u7 _ _ a0
  replace pX := isTxt_up (q := 0) (fun c sh _ h => u7 c sh h) (by omega) pX
  replace pT := isTold_up (q := 0) (fun c sh _ h => u7 c sh h) (by omega) pT
  replace hup : ∀ c sh, c < 0 → At E c sh → At E7 c sh := fun c sh hc h => u7 c sh (hup c sh hc h)
  have a11 : At E7 (11) (.inl (3, [some none, some none, none, none, none, none])) := b7
  replace hn := n7
  replace hw := w7
  clear n7 w7 u7 b7 x7
  refine A_dup dX7_init_30 rfl ?_
  refine A_aload_n dX7_init_31 rfl ?_
  refine A_getR dX7_init_32 fl_RX7_10 a0 (by rfl) ?_
  refine A_ctor (y := yX3_init) (bc := cX3_init) (nl := 2) (As := [vR 1]) (b := 11) (N := 12) dX7_init_35 (hR.rm (by decide) (by decide)) (by decide) ok_X3_init rfl in_X3_init ml_RX7_25 rfl rfl hR.fr (hR.c (by decide)) (hR.s (by decide)) hn (bn_c (by show _ < _; omega) (bn_c trivial bn_n)) (bn_c (by show _ < _; omega) (bn_c (by show _ < _; omega) bn_n)) hR.2.2.2.2.2.1 (i_rdr (t := 11) (a := 1) (by decide) hn hw a11 (fun c k hc => hz c k (by omega))) (fun E8 M8 k8 x8 w8 q8 => ?_)
  obtain ⟨n8, pRd, v8, f8, -⟩ := q8
  replace hx := xt_t hx x8
  replace a0 := v8 _ _ (by omega) a0
  replace pX := isTxt_lt (q := 11) (fun c sh hc h => v8 c sh hc h) (by omega) pX
  replace pT := isTold_lt (q := 11) (fun c sh hc h => v8 c sh hc h) (by omega) pT
  replace hup : ∀ c sh, c < 0 → At E c sh → At E8 c sh := fun c sh hc h => v8 c sh (by omega) (hup c sh hc h)
  replace hn : eN E8 = 20 := n8
  replace hw := w8
  clear n8 w8 x8
  replace hz : ∀ c k, 20 ≤ c → M8 c k = 0 := fun c k hc => by rw [f8 c k (by omega)]; exact hz c k (by omega)
  replace m1 := (f8 1 1 (by omega)).trans m1
  replace r3 := rT_fr (c := 11) (n := 9) r3 (fun x hx => funext fun k => f8 x k (by omega)) (by omega)
  refine A_putF dX7_init_38 fl_RX7_28 fr7_2 a0 hn (by omega) (Nat.le_of_ble_eq_true rfl) hw hR.2.2.2.2.2.2 (fun E9 x9 (n9 : eN E9 = 20) b9 u9 w9 => ?_)
  replace hx := xt_t hx x9
  replace pX := isTxt_up (q := 0) (fun c sh hq h => u9 c sh hq h) (by omega) pX
  replace pT := isTold_up (q := 0) (fun c sh hq h => u9 c sh hq h) (by omega) pT
  replace pRd := isRdC_up (q := 0) (fun c sh hq h => u9 c sh hq h) (by omega) pRd
  replace hup : ∀ c sh, c < 0 → At E c sh → At E9 c sh := fun c sh hc h => u9 c sh (by omega) (hup c sh hc h)
  replace a0 : At E9 (0) (.inl (7, [rf 1, rf 3, rf 11, some none, some none, some none, some none, some none, some none])) := b9
  replace hn := n9
  replace hw := w9
  clear n9 w9 u9 b9 x9
  refine A_aload_n dX7_init_41 rfl ?_
  refine A_new (n := 20) (N := 11) dX7_init_42 nw_RX7_32 rfl hn hw (fun k => hz _ _ (by omega)) hR.fr (hR.c (by decide)) (hR.s (by decide)) (bn_c (by show _ < _; omega) (bn_c trivial bn_n)) (bn_c (by show _ < _; omega) bn_n) (fun E10 x10 (n10 : eN E10 = 21) b10 u10 w10 => ?_)
  replace hx := xt_t hx x10
  replace a0 := u10 _ _ a0
  replace pX := isTxt_up (q := 0) (fun c sh _ h => u10 c sh h) (by omega) pX
  replace pT := isTold_up (q := 0) (fun c sh _ h => u10 c sh h) (by omega) pT
  replace pRd := isRdC_up (q := 0) (fun c sh _ h => u10 c sh h) (by omega) pRd
  replace hup : ∀ c sh, c < 0 → At E c sh → At E10 c sh := fun c sh hc h => u10 c sh (hup c sh hc h)
  have a20 : At E10 (20) (.inl (0, [none, none, none, none, some none, some none, some none, some none, some none, some none, some none])) := b10
  replace hn := n10
  replace hw := w10
  clear n10 w10 u10 b10 x10
  refine A_dup dX7_init_45 rfl ?_
  refine A_ctorN (host := RX7) (y := yX0_init) (bc := cX0_init) (nl := 1) (As := []) (b := 20) (N := 21) dX7_init_46 (hR.rm (by decide) (by decide)) (by decide) ok_X0_init rfl in_X0_init hR.2.2.2.2.2.1.2.1 rfl rfl hR.fr (hR.c (by decide)) (hR.s (by decide)) hn (bn_c (by show _ < _; omega) (bn_c trivial bn_n)) (bn_c (by show _ < _; omega) (bn_c (by show _ < _; omega) bn_n)) hR.2.2.2.2.2.1 (i_crs (t := 20) hn hw a20 (fun c k hc => hz c k (by omega))) (fun E11 M11 k11 x11 w11 q11 => ?_)
  obtain ⟨n11, pN, v11, f11, -⟩ := q11
  replace hx := xt_t hx x11
  replace a0 := v11 _ _ (by omega) a0
  replace pX := isTxt_lt (q := 20) (fun c sh hc h => v11 c sh hc h) (by omega) pX
  replace pT := isTold_lt (q := 20) (fun c sh hc h => v11 c sh hc h) (by omega) pT
  replace pRd := isRdC_lt (q := 20) (fun c sh hc h => v11 c sh hc h) (by omega) pRd
  replace hup : ∀ c sh, c < 0 → At E c sh → At E11 c sh := fun c sh hc h => v11 c sh (by omega) (hup c sh hc h)
  replace hn : eN E11 = 28 := n11
  replace hw := w11
  clear n11 w11 x11
  replace hz : ∀ c k, 28 ≤ c → M11 c k = 0 := fun c k hc => by rw [f11 c k (by omega)]; exact hz c k (by omega)
  replace m1 := (f11 1 1 (by omega)).trans m1
  replace r3 := rT_fr (c := 20) (n := 8) r3 (fun x hx => funext fun k => f11 x k (by omega)) (by omega)
  refine A_putF dX7_init_49 fl_RX7_35 fr7_3 a0 hn (by omega) (Nat.le_of_ble_eq_true rfl) hw hR.2.2.2.2.2.2 (fun E12 x12 (n12 : eN E12 = 28) b12 u12 w12 => ?_)
  replace hx := xt_t hx x12
  replace pX := isTxt_up (q := 0) (fun c sh hq h => u12 c sh hq h) (by omega) pX
  replace pT := isTold_up (q := 0) (fun c sh hq h => u12 c sh hq h) (by omega) pT
  replace pRd := isRdC_up (q := 0) (fun c sh hq h => u12 c sh hq h) (by omega) pRd
  replace pN := isCrs_up (q := 0) (fun c sh hq h => u12 c sh hq h) (by omega) pN
  replace hup : ∀ c sh, c < 0 → At E c sh → At E12 c sh := fun c sh hc h => u12 c sh (by omega) (hup c sh hc h)
  replace a0 : At E12 (0) (.inl (7, [rf 1, rf 3, rf 11, rf 20, some none, some none, some none, some none, some none])) := b12
  replace hn := n12
  replace hw := w12
  clear n12 w12 u12 b12 x12
  refine A_aload_n dX7_init_52 rfl ?_
  refine A_getR dX7_init_53 fl_RX7_35 a0 (by rfl) ?_
  refine A_aload_n dX7_init_56 rfl ?_
  refine A_getR dX7_init_57 fl_RX7_19 a0 (by rfl) ?_
  refine A_vV1 (mj := mX0_begin) dX7_init_60 (hR.rm (by decide) (by decide)) (by decide) ok_X0_begin mv_X0_begin ml_RX7_39 pN.1 rfl rfl rfl (c_begin (c := 20) (t := 3) pN pT (by omega) r3 wT_0) (fun M13 k13 q13 => ?_)
  obtain ⟨y13, r20⟩ := q13
  replace m1 : M13 1 1 = 0 := by rw [y13 1 (by omega)]; exact m1
  replace r3 := rT_fr (c := 20) (n := 8) r3 y13 (by omega)
  replace hz : ∀ c k, 28 ≤ c → M13 c k = 0 := fun c k hc => by rw [y13 c (by omega)]; exact hz c k (by omega)
  refine A_aload_n dX7_init_63 rfl ?_
  refine A_iconst dX7_init_64 (by decide) ?_
  refine A_newR (n := 28) (N := 2) dX7_init_65 cl_RX7_32 hR.2.2.2.2.2.1.2.2.2.2.2 rfl (by decide) hn hw hR.fr (hR.c (by decide)) (hR.s (by decide)) (bn_c (by show _ < _; omega) (bn_c trivial bn_n)) (bn_c (by show _ < _; omega) bn_n) (fun E14 x14 (n14 : eN E14 = 29) b14 u14 w14 => ?_)
  replace hx := xt_t hx x14
  replace a0 := u14 _ _ a0
  replace pX := isTxt_up (q := 0) (fun c sh _ h => u14 c sh h) (by omega) pX
  replace pT := isTold_up (q := 0) (fun c sh _ h => u14 c sh h) (by omega) pT
  replace pRd := isRdC_up (q := 0) (fun c sh _ h => u14 c sh h) (by omega) pRd
  replace pN := isCrs_up (q := 0) (fun c sh _ h => u14 c sh h) (by omega) pN
  replace hup : ∀ c sh, c < 0 → At E c sh → At E14 c sh := fun c sh hc h => u14 c sh (hup c sh hc h)
  have a28 : At E14 (28) (aR 2 nG) := b14
  replace hn := n14
  replace hw := w14
  clear n14 w14 u14 b14 x14
  refine A_putF dX7_init_68 fl_RX7_43 fr7_4 a0 hn (by omega) (Nat.le_of_ble_eq_true rfl) hw hR.2.2.2.2.2.2 (fun E15 x15 (n15 : eN E15 = 29) b15 u15 w15 => ?_)
  replace hx := xt_t hx x15
  replace a28 := u15 _ _ (by omega) a28
  replace pX := isTxt_up (q := 0) (fun c sh hq h => u15 c sh hq h) (by omega) pX
  replace pT := isTold_up (q := 0) (fun c sh hq h => u15 c sh hq h) (by omega) pT
  replace pRd := isRdC_up (q := 0) (fun c sh hq h => u15 c sh hq h) (by omega) pRd
  replace pN := isCrs_up (q := 0) (fun c sh hq h => u15 c sh hq h) (by omega) pN
  replace hup : ∀ c sh, c < 0 → At E c sh → At E15 c sh := fun c sh hc h => u15 c sh (by omega) (hup c sh hc h)
  replace a0 : At E15 (0) (.inl (7, [rf 1, rf 3, rf 11, rf 20, rf 28, some none, some none, some none, some none])) := b15
  replace hn := n15
  replace hw := w15
  clear n15 w15 u15 b15 x15
  refine A_iconst dX7_init_71 (by decide) ?_
  refine A_istore_n dX7_init_72 (by decide) rfl ?_
  refine A_iload_n dX7_init_73 rfl ?_
  refine A_iconst dX7_init_74 (by decide) ?_
  refine A_icmp_ge (tgt := 97) dX7_init_75 (by decide) (fun h => absurd h (by decide)) (fun _ => ?_)
  refine A_aload_n dX7_init_78 rfl ?_
  refine A_getR dX7_init_79 fl_RX7_43 a0 (by rfl) ?_
  refine A_iload_n dX7_init_82 rfl ?_
  refine A_new (n := 29) (N := 11) dX7_init_83 nw_RX7_32 rfl hn hw (fun k => hz _ _ (by omega)) hR.fr (hR.c (by decide)) (hR.s (by decide)) (bn_c (by show _ < _; omega) (bn_c trivial bn_n)) (bn_c trivial (bn_c (by show _ < _; omega) bn_n)) (fun E16 x16 (n16 : eN E16 = 30) b16 u16 w16 => ?_)
  replace hx := xt_t hx x16
  replace a0 := u16 _ _ a0
  replace a28 := u16 _ _ a28
  replace pX := isTxt_up (q := 0) (fun c sh _ h => u16 c sh h) (by omega) pX
  replace pT := isTold_up (q := 0) (fun c sh _ h => u16 c sh h) (by omega) pT
  replace pRd := isRdC_up (q := 0) (fun c sh _ h => u16 c sh h) (by omega) pRd
  replace pN := isCrs_up (q := 0) (fun c sh _ h => u16 c sh h) (by omega) pN
  replace hup : ∀ c sh, c < 0 → At E c sh → At E16 c sh := fun c sh hc h => u16 c sh (hup c sh hc h)
  have a29 : At E16 (29) (.inl (0, [none, none, none, none, some none, some none, some none, some none, some none, some none, some none])) := b16
  replace hn := n16
  replace hw := w16
  clear n16 w16 u16 b16 x16
  refine A_dup dX7_init_86 rfl ?_
  refine A_ctorN (host := RX7) (y := yX0_init) (bc := cX0_init) (nl := 1) (As := []) (b := 29) (N := 30) dX7_init_87 (hR.rm (by decide) (by decide)) (by decide) ok_X0_init rfl in_X0_init hR.2.2.2.2.2.1.2.1 rfl rfl hR.fr (hR.c (by decide)) (hR.s (by decide)) hn (bn_c (by show _ < _; omega) (bn_c trivial bn_n)) (bn_c (by show _ < _; omega) (bn_c trivial (bn_c (by show _ < _; omega) bn_n))) hR.2.2.2.2.2.1 (i_crs (t := 29) hn hw a29 (fun c k hc => hz c k (by omega))) (fun E17 M17 k17 x17 w17 q17 => ?_)
  obtain ⟨n17, pk0, v17, f17, -⟩ := q17
  replace hx := xt_t hx x17
  replace a0 := v17 _ _ (by omega) a0
  replace a28 := v17 _ _ (by omega) a28
  replace pX := isTxt_lt (q := 29) (fun c sh hc h => v17 c sh hc h) (by omega) pX
  replace pT := isTold_lt (q := 29) (fun c sh hc h => v17 c sh hc h) (by omega) pT
  replace pRd := isRdC_lt (q := 29) (fun c sh hc h => v17 c sh hc h) (by omega) pRd
  replace pN := isCrs_lt (q := 29) (fun c sh hc h => v17 c sh hc h) (by omega) pN
  replace hup : ∀ c sh, c < 0 → At E c sh → At E17 c sh := fun c sh hc h => v17 c sh (by omega) (hup c sh hc h)
  replace hn : eN E17 = 37 := n17
  replace hw := w17
  clear n17 w17 x17
  replace hz : ∀ c k, 37 ≤ c → M17 c k = 0 := fun c k hc => by rw [f17 c k (by omega)]; exact hz c k (by omega)
  replace m1 := (f17 1 1 (by omega)).trans m1
  replace r3 := rT_fr (c := 29) (n := 16) r3 (fun x hx => funext fun k => f17 x k (by omega)) (by omega)
  replace r20 := rC_fr (c := 29) (n := 16) r20 (fun x hx => funext fun k => f17 x k (by omega)) (by omega)
  refine A_aast (j := 29) dX7_init_90 a28 (pk0).1 hn (by decide) (by decide) hw (fun E18 x18 (n18 : eN E18 = 37) b18 u18 w18 => ?_)
  replace hx := xt_t hx x18
  replace a0 := u18 _ _ (by omega) a0
  replace pX := isTxt_up (q := 28) (fun c sh hq h => u18 c sh hq h) (by omega) pX
  replace pT := isTold_up (q := 28) (fun c sh hq h => u18 c sh hq h) (by omega) pT
  replace pRd := isRdC_up (q := 28) (fun c sh hq h => u18 c sh hq h) (by omega) pRd
  replace pN := isCrs_up (q := 28) (fun c sh hq h => u18 c sh hq h) (by omega) pN
  replace pk0 := isCrs_up (q := 28) (fun c sh hq h => u18 c sh hq h) (by omega) pk0
  replace hup : ∀ c sh, c < 0 → At E c sh → At E18 c sh := fun c sh hc h => u18 c sh (by omega) (hup c sh hc h)
  replace a28 : At E18 (28) (aR 2 (fun k => if k = ((0 : Int)).toNat then some 29 else nG k)) := b18
  replace hn := n18
  replace hw := w18
  clear n18 w18 u18 b18 x18
  refine A_iinc dX7_init_91 (by decide) rfl rfl ⟨by decide, by decide⟩ ?_
  refine A_goto (tgt := 73) dX7_init_94 (by decide) ?_
  refine A_iload_n dX7_init_73 rfl ?_
  refine A_iconst dX7_init_74 (by decide) ?_
  refine A_icmp_ge (tgt := 97) dX7_init_75 (by decide) (fun h => absurd h (by decide)) (fun _ => ?_)
  refine A_aload_n dX7_init_78 rfl ?_
  refine A_getR dX7_init_79 fl_RX7_43 a0 (by rfl) ?_
  refine A_iload_n dX7_init_82 rfl ?_
  refine A_new (n := 37) (N := 11) dX7_init_83 nw_RX7_32 rfl hn hw (fun k => hz _ _ (by omega)) hR.fr (hR.c (by decide)) (hR.s (by decide)) (bn_c (by show _ < _; omega) (bn_c trivial bn_n)) (bn_c trivial (bn_c (by show _ < _; omega) bn_n)) (fun E19 x19 (n19 : eN E19 = 38) b19 u19 w19 => ?_)
  replace hx := xt_t hx x19
  replace a0 := u19 _ _ a0
  replace a28 := u19 _ _ a28
  replace pX := isTxt_up (q := 0) (fun c sh _ h => u19 c sh h) (by omega) pX
  replace pT := isTold_up (q := 0) (fun c sh _ h => u19 c sh h) (by omega) pT
  replace pRd := isRdC_up (q := 0) (fun c sh _ h => u19 c sh h) (by omega) pRd
  replace pN := isCrs_up (q := 0) (fun c sh _ h => u19 c sh h) (by omega) pN
  replace pk0 := isCrs_up (q := 0) (fun c sh _ h => u19 c sh h) (by omega) pk0
  replace hup : ∀ c sh, c < 0 → At E c sh → At E19 c sh := fun c sh hc h => u19 c sh (hup c sh hc h)
  have a37 : At E19 (37) (.inl (0, [none, none, none, none, some none, some none, some none, some none, some none, some none, some none])) := b19
  replace hn := n19
  replace hw := w19
  clear n19 w19 u19 b19 x19
  refine A_dup dX7_init_86 rfl ?_
  refine A_ctorN (host := RX7) (y := yX0_init) (bc := cX0_init) (nl := 1) (As := []) (b := 37) (N := 38) dX7_init_87 (hR.rm (by decide) (by decide)) (by decide) ok_X0_init rfl in_X0_init hR.2.2.2.2.2.1.2.1 rfl rfl hR.fr (hR.c (by decide)) (hR.s (by decide)) hn (bn_c (by show _ < _; omega) (bn_c trivial bn_n)) (bn_c (by show _ < _; omega) (bn_c trivial (bn_c (by show _ < _; omega) bn_n))) hR.2.2.2.2.2.1 (i_crs (t := 37) hn hw a37 (fun c k hc => hz c k (by omega))) (fun E20 M20 k20 x20 w20 q20 => ?_)
  obtain ⟨n20, pk1, v20, f20, -⟩ := q20
  replace hx := xt_t hx x20
  replace a0 := v20 _ _ (by omega) a0
  replace a28 := v20 _ _ (by omega) a28
  replace pX := isTxt_lt (q := 37) (fun c sh hc h => v20 c sh hc h) (by omega) pX
  replace pT := isTold_lt (q := 37) (fun c sh hc h => v20 c sh hc h) (by omega) pT
  replace pRd := isRdC_lt (q := 37) (fun c sh hc h => v20 c sh hc h) (by omega) pRd
  replace pN := isCrs_lt (q := 37) (fun c sh hc h => v20 c sh hc h) (by omega) pN
  replace pk0 := isCrs_lt (q := 37) (fun c sh hc h => v20 c sh hc h) (by omega) pk0
  replace hup : ∀ c sh, c < 0 → At E c sh → At E20 c sh := fun c sh hc h => v20 c sh (by omega) (hup c sh hc h)
  replace hn : eN E20 = 45 := n20
  replace hw := w20
  clear n20 w20 x20
  replace hz : ∀ c k, 45 ≤ c → M20 c k = 0 := fun c k hc => by rw [f20 c k (by omega)]; exact hz c k (by omega)
  replace m1 := (f20 1 1 (by omega)).trans m1
  replace r3 := rT_fr (c := 29) (n := 16) r3 (fun x hx => funext fun k => f20 x k (by omega)) (by omega)
  replace r20 := rC_fr (c := 29) (n := 16) r20 (fun x hx => funext fun k => f20 x k (by omega)) (by omega)
  refine A_aast (j := 37) dX7_init_90 a28 (pk1).1 hn (by decide) (by decide) hw (fun E21 x21 (n21 : eN E21 = 45) b21 u21 w21 => ?_)
  replace hx := xt_t hx x21
  replace a0 := u21 _ _ (by omega) a0
  replace pX := isTxt_up (q := 28) (fun c sh hq h => u21 c sh hq h) (by omega) pX
  replace pT := isTold_up (q := 28) (fun c sh hq h => u21 c sh hq h) (by omega) pT
  replace pRd := isRdC_up (q := 28) (fun c sh hq h => u21 c sh hq h) (by omega) pRd
  replace pN := isCrs_up (q := 28) (fun c sh hq h => u21 c sh hq h) (by omega) pN
  replace pk0 := isCrs_up (q := 28) (fun c sh hq h => u21 c sh hq h) (by omega) pk0
  replace pk1 := isCrs_up (q := 28) (fun c sh hq h => u21 c sh hq h) (by omega) pk1
  replace hup : ∀ c sh, c < 0 → At E c sh → At E21 c sh := fun c sh hc h => u21 c sh (by omega) (hup c sh hc h)
  replace a28 : At E21 (28) (aR 2 (fun k => if k = ((1 : Int)).toNat then some 37 else (fun k => if k = ((0 : Int)).toNat then some 29 else nG k) k)) := b21
  replace hn := n21
  replace hw := w21
  clear n21 w21 u21 b21 x21
  refine A_iinc dX7_init_91 (by decide) rfl rfl ⟨by decide, by decide⟩ ?_
  refine A_goto (tgt := 73) dX7_init_94 (by decide) ?_
  refine A_iload_n dX7_init_73 rfl ?_
  refine A_iconst dX7_init_74 (by decide) ?_
  refine A_icmp_ge (tgt := 97) dX7_init_75 (by decide) (fun _ => ?_) (fun h => absurd (by decide) h)
  refine A_aload_n dX7_init_97 rfl ?_
  refine A_iconst dX7_init_98 (by decide) ?_
  refine A_newZ (n := 45) (N := 2) dX7_init_99 rfl (by decide) hn hw (fun k => hz _ _ (by omega)) hR.fr (hR.c (by decide)) (hR.s (by decide)) (bn_c (by show _ < _; omega) (bn_c trivial bn_n)) (bn_c (by show _ < _; omega) bn_n) (fun E22 x22 (n22 : eN E22 = 46) b22 u22 w22 => ?_)
  replace hx := xt_t hx x22
  replace a0 := u22 _ _ a0
  replace a28 := u22 _ _ a28
  replace pX := isTxt_up (q := 0) (fun c sh _ h => u22 c sh h) (by omega) pX
  replace pT := isTold_up (q := 0) (fun c sh _ h => u22 c sh h) (by omega) pT
  replace pRd := isRdC_up (q := 0) (fun c sh _ h => u22 c sh h) (by omega) pRd
  replace pN := isCrs_up (q := 0) (fun c sh _ h => u22 c sh h) (by omega) pN
  replace pk0 := isCrs_up (q := 0) (fun c sh _ h => u22 c sh h) (by omega) pk0
  replace pk1 := isCrs_up (q := 0) (fun c sh _ h => u22 c sh h) (by omega) pk1
  replace hup : ∀ c sh, c < 0 → At E c sh → At E22 c sh := fun c sh hc h => u22 c sh (hup c sh hc h)
  have a45 : At E22 (45) (aZ 2 nG) := b22
  replace hn := n22
  replace hw := w22
  clear n22 w22 u22 b22 x22
  have z45 : ∀ k, M20 45 k = 0 := fun k => hz 45 k (by omega)
  refine A_putF dX7_init_101 fl_RX7_47 fr7_5 a0 hn (by omega) (Nat.le_of_ble_eq_true rfl) hw hR.2.2.2.2.2.2 (fun E23 x23 (n23 : eN E23 = 46) b23 u23 w23 => ?_)
  replace hx := xt_t hx x23
  replace a28 := u23 _ _ (by omega) a28
  replace a45 := u23 _ _ (by omega) a45
  replace pX := isTxt_up (q := 0) (fun c sh hq h => u23 c sh hq h) (by omega) pX
  replace pT := isTold_up (q := 0) (fun c sh hq h => u23 c sh hq h) (by omega) pT
  replace pRd := isRdC_up (q := 0) (fun c sh hq h => u23 c sh hq h) (by omega) pRd
  replace pN := isCrs_up (q := 0) (fun c sh hq h => u23 c sh hq h) (by omega) pN
  replace pk0 := isCrs_up (q := 0) (fun c sh hq h => u23 c sh hq h) (by omega) pk0
  replace pk1 := isCrs_up (q := 0) (fun c sh hq h => u23 c sh hq h) (by omega) pk1
  replace hup : ∀ c sh, c < 0 → At E c sh → At E23 c sh := fun c sh hc h => u23 c sh (by omega) (hup c sh hc h)
  replace a0 : At E23 (0) (.inl (7, [rf 1, rf 3, rf 11, rf 20, rf 28, rf 45, some none, some none, some none])) := b23
  replace hn := n23
  replace hw := w23
  clear n23 w23 u23 b23 x23
  refine A_aload_n dX7_init_104 rfl ?_
  refine A_new (n := 46) (N := 7) dX7_init_105 nw_RX7_51 rfl hn hw (fun k => hz _ _ (by omega)) hR.fr (hR.c (by decide)) (hR.s (by decide)) (bn_c (by show _ < _; omega) (bn_c trivial bn_n)) (bn_c (by show _ < _; omega) bn_n) (fun E24 x24 (n24 : eN E24 = 47) b24 u24 w24 => ?_)
  replace hx := xt_t hx x24
  replace a0 := u24 _ _ a0
  replace a28 := u24 _ _ a28
  replace a45 := u24 _ _ a45
  replace pX := isTxt_up (q := 0) (fun c sh _ h => u24 c sh h) (by omega) pX
  replace pT := isTold_up (q := 0) (fun c sh _ h => u24 c sh h) (by omega) pT
  replace pRd := isRdC_up (q := 0) (fun c sh _ h => u24 c sh h) (by omega) pRd
  replace pN := isCrs_up (q := 0) (fun c sh _ h => u24 c sh h) (by omega) pN
  replace pk0 := isCrs_up (q := 0) (fun c sh _ h => u24 c sh h) (by omega) pk0
  replace pk1 := isCrs_up (q := 0) (fun c sh _ h => u24 c sh h) (by omega) pk1
  replace hup : ∀ c sh, c < 0 → At E c sh → At E24 c sh := fun c sh hc h => u24 c sh (hup c sh hc h)
  have a46 : At E24 (46) (.inl (2, [some none, some none, some none, some none, some none, some none, some none])) := b24
  replace hn := n24
  replace hw := w24
  clear n24 w24 u24 b24 x24
  refine A_dup dX7_init_108 rfl ?_
  refine A_aload_n dX7_init_109 rfl ?_
  refine A_getR dX7_init_110 fl_RX7_19 a0 (by rfl) ?_
  refine A_aload_n dX7_init_113 rfl ?_
  refine A_getR dX7_init_114 fl_RX7_35 a0 (by rfl) ?_
  refine A_ctor (y := yX2_init) (bc := cX2_init) (nl := 3) (As := [vR 3, vR 20]) (b := 46) (N := 47) dX7_init_117 (hR.rm (by decide) (by decide)) (by decide) ok_X2_init rfl in_X2_init ml_RX7_53 rfl rfl hR.fr (hR.c (by decide)) (hR.s (by decide)) hn (bn_c (by show _ < _; omega) (bn_c trivial bn_n)) (bn_c (by show _ < _; omega) (bn_c (by show _ < _; omega) bn_n)) hR.2.2.2.2.2.1 (i_for (t := 46) (a := 3) (b := 20) (by decide) (by decide) hn hw a46 (fun c k hc => hz c k (by omega))) (fun E25 M25 k25 x25 w25 q25 => ?_)
  obtain ⟨n25, pF, v25, f25, -⟩ := q25
  replace hx := xt_t hx x25
  replace a0 := v25 _ _ (by omega) a0
  replace a28 := v25 _ _ (by omega) a28
  replace a45 := v25 _ _ (by omega) a45
  replace pX := isTxt_lt (q := 46) (fun c sh hc h => v25 c sh hc h) (by omega) pX
  replace pT := isTold_lt (q := 46) (fun c sh hc h => v25 c sh hc h) (by omega) pT
  replace pRd := isRdC_lt (q := 46) (fun c sh hc h => v25 c sh hc h) (by omega) pRd
  replace pN := isCrs_lt (q := 46) (fun c sh hc h => v25 c sh hc h) (by omega) pN
  replace pk0 := isCrs_lt (q := 46) (fun c sh hc h => v25 c sh hc h) (by omega) pk0
  replace pk1 := isCrs_lt (q := 46) (fun c sh hc h => v25 c sh hc h) (by omega) pk1
  replace hup : ∀ c sh, c < 0 → At E c sh → At E25 c sh := fun c sh hc h => v25 c sh (by omega) (hup c sh hc h)
  replace hn : eN E25 = 59 := n25
  replace hw := w25
  clear n25 w25 x25
  replace hz : ∀ c k, 59 ≤ c → M25 c k = 0 := fun c k hc => by rw [f25 c k (by omega)]; exact hz c k (by omega)
  replace m1 := (f25 1 1 (by omega)).trans m1
  replace r3 := rT_fr (c := 46) (n := 13) r3 (fun x hx => funext fun k => f25 x k (by omega)) (by omega)
  replace r20 := rC_fr (c := 46) (n := 13) r20 (fun x hx => funext fun k => f25 x k (by omega)) (by omega)
  replace z45 := fun k => (f25 45 k (by omega)).trans (z45 k)
  refine A_putF dX7_init_120 fl_RX7_56 fr7_6 a0 hn (by omega) (Nat.le_of_ble_eq_true rfl) hw hR.2.2.2.2.2.2 (fun E26 x26 (n26 : eN E26 = 59) b26 u26 w26 => ?_)
  replace hx := xt_t hx x26
  replace a28 := u26 _ _ (by omega) a28
  replace a45 := u26 _ _ (by omega) a45
  replace pX := isTxt_up (q := 0) (fun c sh hq h => u26 c sh hq h) (by omega) pX
  replace pT := isTold_up (q := 0) (fun c sh hq h => u26 c sh hq h) (by omega) pT
  replace pRd := isRdC_up (q := 0) (fun c sh hq h => u26 c sh hq h) (by omega) pRd
  replace pN := isCrs_up (q := 0) (fun c sh hq h => u26 c sh hq h) (by omega) pN
  replace pk0 := isCrs_up (q := 0) (fun c sh hq h => u26 c sh hq h) (by omega) pk0
  replace pk1 := isCrs_up (q := 0) (fun c sh hq h => u26 c sh hq h) (by omega) pk1
  replace pF := isFor_up (q := 0) (fun c sh hq h => u26 c sh hq h) (by omega) pF
  replace hup : ∀ c sh, c < 0 → At E c sh → At E26 c sh := fun c sh hc h => u26 c sh (by omega) (hup c sh hc h)
  replace a0 : At E26 (0) (.inl (7, [rf 1, rf 3, rf 11, rf 20, rf 28, rf 45, rf 46, some none, some none])) := b26
  replace hn := n26
  replace hw := w26
  clear n26 w26 u26 b26 x26
  refine A_aload_n dX7_init_123 rfl ?_
  refine A_new (n := 59) (N := 4) dX7_init_124 nw_RX7_60 rfl hn hw (fun k => hz _ _ (by omega)) hR.fr (hR.c (by decide)) (hR.s (by decide)) (bn_c (by show _ < _; omega) (bn_c trivial bn_n)) (bn_c (by show _ < _; omega) bn_n) (fun E27 x27 (n27 : eN E27 = 60) b27 u27 w27 => ?_)
  replace hx := xt_t hx x27
  replace a0 := u27 _ _ a0
  replace a28 := u27 _ _ a28
  replace a45 := u27 _ _ a45
  replace pX := isTxt_up (q := 0) (fun c sh _ h => u27 c sh h) (by omega) pX
  replace pT := isTold_up (q := 0) (fun c sh _ h => u27 c sh h) (by omega) pT
  replace pRd := isRdC_up (q := 0) (fun c sh _ h => u27 c sh h) (by omega) pRd
  replace pN := isCrs_up (q := 0) (fun c sh _ h => u27 c sh h) (by omega) pN
  replace pk0 := isCrs_up (q := 0) (fun c sh _ h => u27 c sh h) (by omega) pk0
  replace pk1 := isCrs_up (q := 0) (fun c sh _ h => u27 c sh h) (by omega) pk1
  replace pF := isFor_up (q := 0) (fun c sh _ h => u27 c sh h) (by omega) pF
  replace hup : ∀ c sh, c < 0 → At E c sh → At E27 c sh := fun c sh hc h => u27 c sh (hup c sh hc h)
  have a59 : At E27 (59) (.inl (4, [none, some none, some none, some none])) := b27
  replace hn := n27
  replace hw := w27
  clear n27 w27 u27 b27 x27
  refine A_dup dX7_init_127 rfl ?_
  refine A_ctorN (host := RX7) (y := yX4_init) (bc := cX4_init) (nl := 1) (As := []) (b := 59) (N := 60) dX7_init_128 (hR.rm (by decide) (by decide)) (by decide) ok_X4_init rfl in_X4_init hR.2.2.2.2.2.1.2.2.2.1 rfl rfl hR.fr (hR.c (by decide)) (hR.s (by decide)) hn (bn_c (by show _ < _; omega) (bn_c trivial bn_n)) (bn_c (by show _ < _; omega) (bn_c (by show _ < _; omega) bn_n)) hR.2.2.2.2.2.1 (i_sgt (t := 59) hn hw a59 (fun c k hc => hz c k (by omega))) (fun E28 M28 k28 x28 w28 q28 => ?_)
  obtain ⟨n28, pS, v28, f28, m59⟩ := q28
  replace hx := xt_t hx x28
  replace a0 := v28 _ _ (by omega) a0
  replace a28 := v28 _ _ (by omega) a28
  replace a45 := v28 _ _ (by omega) a45
  replace pX := isTxt_lt (q := 59) (fun c sh hc h => v28 c sh hc h) (by omega) pX
  replace pT := isTold_lt (q := 59) (fun c sh hc h => v28 c sh hc h) (by omega) pT
  replace pRd := isRdC_lt (q := 59) (fun c sh hc h => v28 c sh hc h) (by omega) pRd
  replace pN := isCrs_lt (q := 59) (fun c sh hc h => v28 c sh hc h) (by omega) pN
  replace pk0 := isCrs_lt (q := 59) (fun c sh hc h => v28 c sh hc h) (by omega) pk0
  replace pk1 := isCrs_lt (q := 59) (fun c sh hc h => v28 c sh hc h) (by omega) pk1
  replace pF := isFor_lt (q := 59) (fun c sh hc h => v28 c sh hc h) (by omega) pF
  replace hup : ∀ c sh, c < 0 → At E c sh → At E28 c sh := fun c sh hc h => v28 c sh (by omega) (hup c sh hc h)
  replace hn : eN E28 = 63 := n28
  replace hw := w28
  clear n28 w28 x28
  replace hz : ∀ c k, 63 ≤ c → M28 c k = 0 := fun c k hc => by rw [f28 c k (by omega)]; exact hz c k (by omega)
  replace m1 := (f28 1 1 (by omega)).trans m1
  replace r3 := rT_fr (c := 59) (n := 4) r3 (fun x hx => funext fun k => f28 x k (by omega)) (by omega)
  replace r20 := rC_fr (c := 59) (n := 4) r20 (fun x hx => funext fun k => f28 x k (by omega)) (by omega)
  replace z45 := fun k => (f28 45 k (by omega)).trans (z45 k)
  refine A_putF dX7_init_131 fl_RX7_63 fr7_7 a0 hn (by omega) (Nat.le_of_ble_eq_true rfl) hw hR.2.2.2.2.2.2 (fun E29 x29 (n29 : eN E29 = 63) b29 u29 w29 => ?_)
  replace hx := xt_t hx x29
  replace a28 := u29 _ _ (by omega) a28
  replace a45 := u29 _ _ (by omega) a45
  replace pX := isTxt_up (q := 0) (fun c sh hq h => u29 c sh hq h) (by omega) pX
  replace pT := isTold_up (q := 0) (fun c sh hq h => u29 c sh hq h) (by omega) pT
  replace pRd := isRdC_up (q := 0) (fun c sh hq h => u29 c sh hq h) (by omega) pRd
  replace pN := isCrs_up (q := 0) (fun c sh hq h => u29 c sh hq h) (by omega) pN
  replace pk0 := isCrs_up (q := 0) (fun c sh hq h => u29 c sh hq h) (by omega) pk0
  replace pk1 := isCrs_up (q := 0) (fun c sh hq h => u29 c sh hq h) (by omega) pk1
  replace pF := isFor_up (q := 0) (fun c sh hq h => u29 c sh hq h) (by omega) pF
  replace pS := isSgt_up (q := 0) (fun c sh hq h => u29 c sh hq h) (by omega) pS
  replace hup : ∀ c sh, c < 0 → At E c sh → At E29 c sh := fun c sh hc h => u29 c sh (by omega) (hup c sh hc h)
  replace a0 : At E29 (0) (.inl (7, [rf 1, rf 3, rf 11, rf 20, rf 28, rf 45, rf 46, rf 59, some none])) := b29
  replace hn := n29
  replace hw := w29
  clear n29 w29 u29 b29 x29
  refine A_aload_n dX7_init_134 rfl ?_
  refine A_new (n := 63) (N := 1) dX7_init_135 nw_RX7_67 rfl hn hw (fun k => hz _ _ (by omega)) hR.fr (hR.c (by decide)) (hR.s (by decide)) (bn_c (by show _ < _; omega) (bn_c trivial bn_n)) (bn_c (by show _ < _; omega) bn_n) (fun E30 x30 (n30 : eN E30 = 64) b30 u30 w30 => ?_)
  replace hx := xt_t hx x30
  replace a0 := u30 _ _ a0
  replace a28 := u30 _ _ a28
  replace a45 := u30 _ _ a45
  replace pX := isTxt_up (q := 0) (fun c sh _ h => u30 c sh h) (by omega) pX
  replace pT := isTold_up (q := 0) (fun c sh _ h => u30 c sh h) (by omega) pT
  replace pRd := isRdC_up (q := 0) (fun c sh _ h => u30 c sh h) (by omega) pRd
  replace pN := isCrs_up (q := 0) (fun c sh _ h => u30 c sh h) (by omega) pN
  replace pk0 := isCrs_up (q := 0) (fun c sh _ h => u30 c sh h) (by omega) pk0
  replace pk1 := isCrs_up (q := 0) (fun c sh _ h => u30 c sh h) (by omega) pk1
  replace pF := isFor_up (q := 0) (fun c sh _ h => u30 c sh h) (by omega) pF
  replace pS := isSgt_up (q := 0) (fun c sh _ h => u30 c sh h) (by omega) pS
  replace hup : ∀ c sh, c < 0 → At E c sh → At E30 c sh := fun c sh hc h => u30 c sh (hup c sh hc h)
  have a63 : At E30 (63) (.inl (1, [some none])) := b30
  replace hn := n30
  replace hw := w30
  clear n30 w30 u30 b30 x30
  refine A_dup dX7_init_138 rfl ?_
  refine A_ctorN (host := RX7) (y := yX1_init) (bc := cX1_init) (nl := 1) (As := []) (b := 63) (N := 64) dX7_init_139 (hR.rm (by decide) (by decide)) (by decide) ok_X1_init rfl in_X1_init hR.2.2.2.2.2.1.2.2.2.2.1 rfl rfl hR.fr (hR.c (by decide)) (hR.s (by decide)) hn (bn_c (by show _ < _; omega) (bn_c trivial bn_n)) (bn_c (by show _ < _; omega) (bn_c (by show _ < _; omega) bn_n)) hR.2.2.2.2.2.1 (i_crm (t := 63) hn hw a63 (fun c k hc => hz c k (by omega))) (fun E31 M31 k31 x31 w31 q31 => ?_)
  obtain ⟨n31, pR, v31, f31, m64⟩ := q31
  replace hx := xt_t hx x31
  replace a0 := v31 _ _ (by omega) a0
  replace a28 := v31 _ _ (by omega) a28
  replace a45 := v31 _ _ (by omega) a45
  replace pX := isTxt_lt (q := 63) (fun c sh hc h => v31 c sh hc h) (by omega) pX
  replace pT := isTold_lt (q := 63) (fun c sh hc h => v31 c sh hc h) (by omega) pT
  replace pRd := isRdC_lt (q := 63) (fun c sh hc h => v31 c sh hc h) (by omega) pRd
  replace pN := isCrs_lt (q := 63) (fun c sh hc h => v31 c sh hc h) (by omega) pN
  replace pk0 := isCrs_lt (q := 63) (fun c sh hc h => v31 c sh hc h) (by omega) pk0
  replace pk1 := isCrs_lt (q := 63) (fun c sh hc h => v31 c sh hc h) (by omega) pk1
  replace pF := isFor_lt (q := 63) (fun c sh hc h => v31 c sh hc h) (by omega) pF
  replace pS := isSgt_lt (q := 63) (fun c sh hc h => v31 c sh hc h) (by omega) pS
  replace hup : ∀ c sh, c < 0 → At E c sh → At E31 c sh := fun c sh hc h => v31 c sh (by omega) (hup c sh hc h)
  replace hn : eN E31 = 65 := n31
  replace hw := w31
  clear n31 w31 x31
  replace hz : ∀ c k, 65 ≤ c → M31 c k = 0 := fun c k hc => by rw [f31 c k (by omega)]; exact hz c k (by omega)
  replace m1 := (f31 1 1 (by omega)).trans m1
  replace r3 := rT_fr (c := 63) (n := 2) r3 (fun x hx => funext fun k => f31 x k (by omega)) (by omega)
  replace r20 := rC_fr (c := 63) (n := 2) r20 (fun x hx => funext fun k => f31 x k (by omega)) (by omega)
  replace z45 := fun k => (f31 45 k (by omega)).trans (z45 k)
  replace m59 := (f31 59 0 (by omega)).trans m59
  refine A_putF dX7_init_142 fl_RX7_70 fr7_8 a0 hn (by omega) (Nat.le_of_ble_eq_true rfl) hw hR.2.2.2.2.2.2 (fun E32 x32 (n32 : eN E32 = 65) b32 u32 w32 => ?_)
  replace hx := xt_t hx x32
  replace a28 := u32 _ _ (by omega) a28
  replace a45 := u32 _ _ (by omega) a45
  replace pX := isTxt_up (q := 0) (fun c sh hq h => u32 c sh hq h) (by omega) pX
  replace pT := isTold_up (q := 0) (fun c sh hq h => u32 c sh hq h) (by omega) pT
  replace pRd := isRdC_up (q := 0) (fun c sh hq h => u32 c sh hq h) (by omega) pRd
  replace pN := isCrs_up (q := 0) (fun c sh hq h => u32 c sh hq h) (by omega) pN
  replace pk0 := isCrs_up (q := 0) (fun c sh hq h => u32 c sh hq h) (by omega) pk0
  replace pk1 := isCrs_up (q := 0) (fun c sh hq h => u32 c sh hq h) (by omega) pk1
  replace pF := isFor_up (q := 0) (fun c sh hq h => u32 c sh hq h) (by omega) pF
  replace pS := isSgt_up (q := 0) (fun c sh hq h => u32 c sh hq h) (by omega) pS
  replace pR := isCrm_up (q := 0) (fun c sh hq h => u32 c sh hq h) (by omega) pR
  replace hup : ∀ c sh, c < 0 → At E c sh → At E32 c sh := fun c sh hc h => u32 c sh (by omega) (hup c sh hc h)
  replace a0 : At E32 (0) (.inl (7, [rf 1, rf 3, rf 11, rf 20, rf 28, rf 45, rf 46, rf 59, rf 63])) := b32
  replace hn := n32
  replace hw := w32
  clear n32 w32 u32 b32 x32
  refine A_iend hR hx hw dX7_init_145 rfl ?_
  have ek : (fun k => if k = ((1 : Int)).toNat then some 37 else (fun k => if k = ((0 : Int)).toNat then some 29 else nG k) k) = kAr := by
    funext k
    unfold kAr
    show (if k = 1 then some 37 else if k = 0 then some 29 else none) = _
    by_cases e1 : k = 1
    · rw [if_pos e1, if_neg (by omega), if_pos e1]
    · rw [if_neg e1, if_neg e1]
  rw [ek] at a28
  exact ⟨hn, ⟨a0, pX, pT, pRd.2, pN, a28, pk0, pk1, a45, pF, pS, pR, pRd.1⟩, ⟨r3, r20, fun z => absurd z (by decide), fun z => absurd z (by decide), ⟨z45 0, z45 1⟩, ⟨m1, fun k x y => absurd (show k < 0 from y) (by omega)⟩, ⟨⟨m59, Nat.zero_le _⟩, fun k x y => absurd (show k < 0 from y) (by omega)⟩, fun k _ _ => m64 k⟩, hz⟩

