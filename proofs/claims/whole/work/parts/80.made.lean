/-! what is made: a Reader, a Foresight, the object, the Model -/
theorem isTxt_up {E E' : EN} {t q : Nat} (u : ∀ c sh, c ≠ q → At E c sh → At E' c sh) (hq : q < t ∨ t + 2 ≤ q) (h : isTxt E t) : isTxt E' t := ⟨u _ _ (by omega) h.1, u _ _ (by omega) h.2⟩
theorem isTold_up {E E' : EN} {t q : Nat} (u : ∀ c sh, c ≠ q → At E c sh → At E' c sh) (hq : q < t ∨ t + 8 ≤ q) (h : isTold E t) : isTold E' t := ⟨u _ _ (by omega) h.1, u _ _ (by omega) h.2.1, u _ _ (by omega) h.2.2.1, u _ _ (by omega) h.2.2.2.1, u _ _ (by omega) h.2.2.2.2.1, u _ _ (by omega) h.2.2.2.2.2.1, u _ _ (by omega) h.2.2.2.2.2.2.1, u _ _ (by omega) h.2.2.2.2.2.2.2⟩
theorem isCrs_up {E E' : EN} {t q : Nat} (u : ∀ c sh, c ≠ q → At E c sh → At E' c sh) (hq : q < t ∨ t + 8 ≤ q) (h : isCrs E t) : isCrs E' t := ⟨u _ _ (by omega) h.1, u _ _ (by omega) h.2.1, u _ _ (by omega) h.2.2.1, u _ _ (by omega) h.2.2.2.1, u _ _ (by omega) h.2.2.2.2.1, u _ _ (by omega) h.2.2.2.2.2.1, u _ _ (by omega) h.2.2.2.2.2.2.1, u _ _ (by omega) h.2.2.2.2.2.2.2⟩
theorem isSgt_up {E E' : EN} {t q : Nat} (u : ∀ c sh, c ≠ q → At E c sh → At E' c sh) (hq : q < t ∨ t + 4 ≤ q) (h : isSgt E t) : isSgt E' t := ⟨u _ _ (by omega) h.1, u _ _ (by omega) h.2.1, u _ _ (by omega) h.2.2.1, u _ _ (by omega) h.2.2.2⟩
theorem isCrm_up {E E' : EN} {t q : Nat} (u : ∀ c sh, c ≠ q → At E c sh → At E' c sh) (hq : q < t ∨ t + 2 ≤ q) (h : isCrm E t) : isCrm E' t := ⟨u _ _ (by omega) h.1, u _ _ (by omega) h.2⟩
theorem isFor_up {E E' : EN} {t a b q : Nat} (u : ∀ c sh, c ≠ q → At E c sh → At E' c sh) (hq : q < t ∨ t + 13 ≤ q) (h : isFor E t a b) : isFor E' t a b := ⟨u _ _ (by omega) h.1, isCrs_up u (by omega) h.2.1, u _ _ (by omega) h.2.2.1, u _ _ (by omega) h.2.2.2.1, u _ _ (by omega) h.2.2.2.2.1, u _ _ (by omega) h.2.2.2.2.2⟩
def isRdC (E : EN) (t a : Nat) : Prop := At E t (.inl (3, [rf a, rf (t + 1), none, none, none, none])) ∧ isTold E (t + 1)
theorem isRdC_up {E E' : EN} {t a q : Nat} (u : ∀ c sh, c ≠ q → At E c sh → At E' c sh) (hq : q < t ∨ t + 9 ≤ q) (h : isRdC E t a) : isRdC E' t a := ⟨u _ _ (by omega) h.1, isTold_up u (by omega) h.2⟩
theorem isTxt_lt {E E' : EN} {t q : Nat} (u : ∀ c sh, c < q → At E c sh → At E' c sh) (hq : t + 2 ≤ q) (h : isTxt E t) : isTxt E' t := ⟨u _ _ (by omega) h.1, u _ _ (by omega) h.2⟩
theorem isTold_lt {E E' : EN} {t q : Nat} (u : ∀ c sh, c < q → At E c sh → At E' c sh) (hq : t + 8 ≤ q) (h : isTold E t) : isTold E' t := ⟨u _ _ (by omega) h.1, u _ _ (by omega) h.2.1, u _ _ (by omega) h.2.2.1, u _ _ (by omega) h.2.2.2.1, u _ _ (by omega) h.2.2.2.2.1, u _ _ (by omega) h.2.2.2.2.2.1, u _ _ (by omega) h.2.2.2.2.2.2.1, u _ _ (by omega) h.2.2.2.2.2.2.2⟩
theorem isCrs_lt {E E' : EN} {t q : Nat} (u : ∀ c sh, c < q → At E c sh → At E' c sh) (hq : t + 8 ≤ q) (h : isCrs E t) : isCrs E' t := ⟨u _ _ (by omega) h.1, u _ _ (by omega) h.2.1, u _ _ (by omega) h.2.2.1, u _ _ (by omega) h.2.2.2.1, u _ _ (by omega) h.2.2.2.2.1, u _ _ (by omega) h.2.2.2.2.2.1, u _ _ (by omega) h.2.2.2.2.2.2.1, u _ _ (by omega) h.2.2.2.2.2.2.2⟩
theorem isSgt_lt {E E' : EN} {t q : Nat} (u : ∀ c sh, c < q → At E c sh → At E' c sh) (hq : t + 4 ≤ q) (h : isSgt E t) : isSgt E' t := ⟨u _ _ (by omega) h.1, u _ _ (by omega) h.2.1, u _ _ (by omega) h.2.2.1, u _ _ (by omega) h.2.2.2⟩
theorem isCrm_lt {E E' : EN} {t q : Nat} (u : ∀ c sh, c < q → At E c sh → At E' c sh) (hq : t + 2 ≤ q) (h : isCrm E t) : isCrm E' t := ⟨u _ _ (by omega) h.1, u _ _ (by omega) h.2⟩
theorem isFor_lt {E E' : EN} {t a b q : Nat} (u : ∀ c sh, c < q → At E c sh → At E' c sh) (hq : t + 13 ≤ q) (h : isFor E t a b) : isFor E' t a b := ⟨u _ _ (by omega) h.1, isCrs_lt u (by omega) h.2.1, u _ _ (by omega) h.2.2.1, u _ _ (by omega) h.2.2.2.1, u _ _ (by omega) h.2.2.2.2.1, u _ _ (by omega) h.2.2.2.2.2⟩
theorem isRdC_lt {E E' : EN} {t a q : Nat} (u : ∀ c sh, c < q → At E c sh → At E' c sh) (hq : t + 9 ≤ q) (h : isRdC E t a) : isRdC E' t a := ⟨u _ _ (by omega) h.1, isTold_lt u (by omega) h.2⟩
set_option maxRecDepth 100000 in
set_option maxHeartbeats 4000000 in
theorem i_rdr {E : EN} {l : Launch} {M : Mem} {t a : Nat} (ha : a < t) (hn : eN E = t + 1) (hw : wE E) (a0 : At E t (.inl (3, [some none, some none, none, none, none, none]))) (hz0 : ∀ c k, t ≤ c → M c k = 0) : CnI E l mX3_init 3 8 74 [vR t, vR a] M (fun E' M' => eN E' = t + 9 ∧ isRdC E' t a ∧ (∀ c sh, c < t → At E c sh → At E' c sh) ∧ (∀ c k, c < t ∨ t + 9 ≤ c → M' c k = M c k) ∧ True) := by
  refine CnI.of (by decide) rfl rfl (Nat.le_of_ble_eq_true rfl) 0 rfl (fun oka okm sz G hR => ?_)
  have hx := xt_r (E := E)
  have hup : ∀ c sh, c < t → At E c sh → At E c sh := fun c sh _ h => h
  have hz : ∀ c k, t < c → M c k = 0 := fun c k hc => hz0 c k (by omega)
  refine A_aload_n dX3_init_0 rfl ?_
  refine A_objI dX3_init_1 (hR.rm (by decide) (by decide)) (by decide) oi_RX3 rfl ?_
  refine A_aload_n dX3_init_4 rfl ?_
  refine A_new (n := t + 1) (N := 12) dX3_init_5 nw_RX3_9 rfl hn hw (fun k => hz _ _ (by omega)) hR.fr (hR.c (by decide)) (hR.s (by decide)) (bn_c (by show _ < _; omega) (bn_c (by show _ < _; omega) bn_n)) (bn_c (by show _ < _; omega) bn_n) (fun E1 x1 (n1 : eN E1 = t + 2) b1 u1 w1 => ?_)
  replace hx := xt_t hx x1
  replace a0 := u1 _ _ a0
  replace hup : ∀ c sh, c < t → At E c sh → At E1 c sh := fun c sh hc h => u1 c sh (hup c sh hc h)
  have a1 : At E1 (t + 1) (.inl (6, [none, none, none, none, none, some none, some none, some none, some none, some none, some none, some none])) := b1
  replace hn := n1
  replace hw := w1
  clear n1 w1 u1 b1 x1
  refine A_dup dX3_init_8 rfl ?_
  refine A_ctor (y := yX6_init) (bc := cX6_init) (nl := 1) (As := []) (b := t + 1) (N := t + 2) dX3_init_9 (hR.rm (by decide) (by decide)) (by decide) ok_X6_init rfl in_X6_init ml_RX3_11 rfl rfl hR.fr (hR.c (by decide)) (hR.s (by decide)) hn (bn_c (by show _ < _; omega) (bn_c (by show _ < _; omega) bn_n)) (bn_c (by show _ < _; omega) (bn_c (by show _ < _; omega) bn_n)) hR.2.2.2.2.2.1 (i_told hn hw a1 (fun c k hc => hz c k (by omega))) (fun E2 M2 k2 x2 w2 q2 => ?_)
  obtain ⟨n2, pD, v2, f2, -⟩ := q2
  replace hx := xt_t hx x2
  replace a0 := v2 _ _ (by omega) a0
  replace hup : ∀ c sh, c < t → At E c sh → At E2 c sh := fun c sh hc h => v2 c sh (by omega) (hup c sh hc h)
  replace hn : eN E2 = t + 9 := n2
  replace hw := w2
  clear n2 w2 x2
  replace hz : ∀ c k, t + 9 ≤ c → M2 c k = 0 := fun c k hc => by rw [f2 c k (by omega)]; exact hz c k (by omega)
  have F : ∀ c k, c < t ∨ t + 9 ≤ c → M2 c k = M c k := fun c k hc => f2 c k (by omega)
  refine A_putF dX3_init_12 fl_RX3_12 fr3_1 a0 hn (by omega) (Nat.le_of_ble_eq_true rfl) hw hR.2.2.2.2.2.2 (fun E3 x3 (n3 : eN E3 = t + 9) b3 u3 w3 => ?_)
  replace hx := xt_t hx x3
  replace pD := isTold_up (q := t) (fun c sh hq h => u3 c sh hq h) (by omega) pD
  replace hup : ∀ c sh, c < t → At E c sh → At E3 c sh := fun c sh hc h => u3 c sh (by omega) (hup c sh hc h)
  replace a0 : At E3 (t) (.inl (3, [some none, rf (t + 1), none, none, none, none])) := b3
  replace hn := n3
  replace hw := w3
  clear n3 w3 u3 b3 x3
  refine A_aload_n dX3_init_15 rfl ?_
  refine A_aload_n dX3_init_16 rfl ?_
  refine A_putF dX3_init_17 fl_RX3_18 fr3_0 a0 hn (by omega) (Nat.le_of_ble_eq_true rfl) hw hR.2.2.2.2.2.2 (fun E4 x4 (n4 : eN E4 = t + 9) b4 u4 w4 => ?_)
  replace hx := xt_t hx x4
  replace pD := isTold_up (q := t) (fun c sh hq h => u4 c sh hq h) (by omega) pD
  replace hup : ∀ c sh, c < t → At E c sh → At E4 c sh := fun c sh hc h => u4 c sh (by omega) (hup c sh hc h)
  replace a0 : At E4 (t) (.inl (3, [rf a, rf (t + 1), none, none, none, none])) := b4
  replace hn := n4
  replace hw := w4
  clear n4 w4 u4 b4 x4
  refine A_iend hR hx hw dX3_init_20 rfl ?_
  exact ⟨hn, ⟨a0, pD⟩, hup, F, trivial⟩

set_option maxRecDepth 100000 in
set_option maxHeartbeats 4000000 in
theorem i_for {E : EN} {l : Launch} {M : Mem} {t a b : Nat} (ha : a < t) (hb : b < t) (hn : eN E = t + 1) (hw : wE E) (a0 : At E t (.inl (2, [some none, some none, some none, some none, some none, some none, some none]))) (hz0 : ∀ c k, t ≤ c → M c k = 0) : CnI E l mX2_init 2 12 80 [vR t, vR a, vR b] M (fun E' M' => eN E' = t + 13 ∧ isFor E' t a b ∧ (∀ c sh, c < t → At E c sh → At E' c sh) ∧ (∀ c k, c < t ∨ t + 13 ≤ c → M' c k = M c k) ∧ True) := by
  refine CnI.of (by decide) rfl rfl (Nat.le_of_ble_eq_true rfl) 0 rfl (fun oka okm sz G hR => ?_)
  have hx := xt_r (E := E)
  have hup : ∀ c sh, c < t → At E c sh → At E c sh := fun c sh _ h => h
  have hz : ∀ c k, t < c → M c k = 0 := fun c k hc => hz0 c k (by omega)
  refine A_aload_n dX2_init_0 rfl ?_
  refine A_objI dX2_init_1 (hR.rm (by decide) (by decide)) (by decide) oi_RX2 rfl ?_
  refine A_aload_n dX2_init_4 rfl ?_
  refine A_new (n := t + 1) (N := 11) dX2_init_5 nw_RX2_9 rfl hn hw (fun k => hz _ _ (by omega)) hR.fr (hR.c (by decide)) (hR.s (by decide)) (bn_c (by show _ < _; omega) (bn_c (by show _ < _; omega) (bn_c (by show _ < _; omega) bn_n))) (bn_c (by show _ < _; omega) bn_n) (fun E1 x1 (n1 : eN E1 = t + 2) b1 u1 w1 => ?_)
  replace hx := xt_t hx x1
  replace a0 := u1 _ _ a0
  replace hup : ∀ c sh, c < t → At E c sh → At E1 c sh := fun c sh hc h => u1 c sh (hup c sh hc h)
  have a1 : At E1 (t + 1) (.inl (0, [none, none, none, none, some none, some none, some none, some none, some none, some none, some none])) := b1
  replace hn := n1
  replace hw := w1
  clear n1 w1 u1 b1 x1
  refine A_dup dX2_init_8 rfl ?_
  refine A_ctorN (host := RX7) (y := yX0_init) (bc := cX0_init) (nl := 1) (As := []) (b := t + 1) (N := t + 2) dX2_init_9 (hR.rm (by decide) (by decide)) (by decide) ok_X0_init rfl in_X0_init hR.2.2.2.2.2.1.2.2.1 rfl rfl hR.fr (hR.c (by decide)) (hR.s (by decide)) hn (bn_c (by show _ < _; omega) (bn_c (by show _ < _; omega) (bn_c (by show _ < _; omega) bn_n))) (bn_c (by show _ < _; omega) (bn_c (by show _ < _; omega) bn_n)) hR.2.2.2.2.2.1 (i_crs hn hw a1 (fun c k hc => hz c k (by omega))) (fun E2 M2 k2 x2 w2 q2 => ?_)
  obtain ⟨n2, pC, v2, f2, -⟩ := q2
  replace hx := xt_t hx x2
  replace a0 := v2 _ _ (by omega) a0
  replace hup : ∀ c sh, c < t → At E c sh → At E2 c sh := fun c sh hc h => v2 c sh (by omega) (hup c sh hc h)
  replace hn : eN E2 = t + 9 := n2
  replace hw := w2
  clear n2 w2 x2
  replace hz : ∀ c k, t + 9 ≤ c → M2 c k = 0 := fun c k hc => by rw [f2 c k (by omega)]; exact hz c k (by omega)
  have F : ∀ c k, c < t ∨ t + 13 ≤ c → M2 c k = M c k := fun c k hc => f2 c k (by omega)
  refine A_putF dX2_init_12 fl_RX2_12 fr2_2 a0 hn (by omega) (Nat.le_of_ble_eq_true rfl) hw hR.2.2.2.2.2.2 (fun E3 x3 (n3 : eN E3 = t + 9) b3 u3 w3 => ?_)
  replace hx := xt_t hx x3
  replace pC := isCrs_up (q := t) (fun c sh hq h => u3 c sh hq h) (by omega) pC
  replace hup : ∀ c sh, c < t → At E c sh → At E3 c sh := fun c sh hc h => u3 c sh (by omega) (hup c sh hc h)
  replace a0 : At E3 (t) (.inl (2, [some none, some none, rf (t + 1), some none, some none, some none, some none])) := b3
  replace hn := n3
  replace hw := w3
  clear n3 w3 u3 b3 x3
  refine A_aload_n dX2_init_15 rfl ?_
  refine A_iconst dX2_init_16 (by decide) ?_
  refine A_newI (n := t + 9) (N := 4) dX2_init_17 rfl (by decide) hn hw (fun k => hz _ _ (by omega)) hR.fr (hR.c (by decide)) (hR.s (by decide)) (bn_c (by show _ < _; omega) (bn_c (by show _ < _; omega) (bn_c (by show _ < _; omega) bn_n))) (bn_c (by show _ < _; omega) bn_n) (fun E4 x4 (n4 : eN E4 = t + 10) b4 u4 w4 => ?_)
  replace hx := xt_t hx x4
  replace a0 := u4 _ _ a0
  replace pC := isCrs_up (q := t) (fun c sh _ h => u4 c sh h) (by omega) pC
  replace hup : ∀ c sh, c < t → At E c sh → At E4 c sh := fun c sh hc h => u4 c sh (hup c sh hc h)
  have a9 : At E4 (t + 9) (aI 4 nG) := b4
  replace hn := n4
  replace hw := w4
  clear n4 w4 u4 b4 x4
  refine A_putF dX2_init_19 fl_RX2_18 fr2_3 a0 hn (by omega) (Nat.le_of_ble_eq_true rfl) hw hR.2.2.2.2.2.2 (fun E5 x5 (n5 : eN E5 = t + 10) b5 u5 w5 => ?_)
  replace hx := xt_t hx x5
  replace a9 := u5 _ _ (by omega) a9
  replace pC := isCrs_up (q := t) (fun c sh hq h => u5 c sh hq h) (by omega) pC
  replace hup : ∀ c sh, c < t → At E c sh → At E5 c sh := fun c sh hc h => u5 c sh (by omega) (hup c sh hc h)
  replace a0 : At E5 (t) (.inl (2, [some none, some none, rf (t + 1), rf (t + 9), some none, some none, some none])) := b5
  replace hn := n5
  replace hw := w5
  clear n5 w5 u5 b5 x5
  refine A_aload_n dX2_init_22 rfl ?_
  refine A_iconst dX2_init_23 (by decide) ?_
  refine A_newI (n := t + 10) (N := 4) dX2_init_24 rfl (by decide) hn hw (fun k => hz _ _ (by omega)) hR.fr (hR.c (by decide)) (hR.s (by decide)) (bn_c (by show _ < _; omega) (bn_c (by show _ < _; omega) (bn_c (by show _ < _; omega) bn_n))) (bn_c (by show _ < _; omega) bn_n) (fun E6 x6 (n6 : eN E6 = t + 11) b6 u6 w6 => ?_)
  replace hx := xt_t hx x6
  replace a0 := u6 _ _ a0
  replace a9 := u6 _ _ a9
  replace pC := isCrs_up (q := t) (fun c sh _ h => u6 c sh h) (by omega) pC
  replace hup : ∀ c sh, c < t → At E c sh → At E6 c sh := fun c sh hc h => u6 c sh (hup c sh hc h)
  have a10 : At E6 (t + 10) (aI 4 nG) := b6
  replace hn := n6
  replace hw := w6
  clear n6 w6 u6 b6 x6
  refine A_putF dX2_init_26 fl_RX2_22 fr2_4 a0 hn (by omega) (Nat.le_of_ble_eq_true rfl) hw hR.2.2.2.2.2.2 (fun E7 x7 (n7 : eN E7 = t + 11) b7 u7 w7 => ?_)
  replace hx := xt_t hx x7
  replace a9 := u7 _ _ (by omega) a9
  replace a10 := u7 _ _ (by omega) a10
  replace pC := isCrs_up (q := t) (fun c sh hq h => u7 c sh hq h) (by omega) pC
  replace hup : ∀ c sh, c < t → At E c sh → At E7 c sh := fun c sh hc h => u7 c sh (by omega) (hup c sh hc h)
  replace a0 : At E7 (t) (.inl (2, [some none, some none, rf (t + 1), rf (t + 9), rf (t + 10), some none, some none])) := b7
  replace hn := n7
  replace hw := w7
  clear n7 w7 u7 b7 x7
  refine A_aload_n dX2_init_29 rfl ?_
  refine A_iconst dX2_init_30 (by decide) ?_
  refine A_newI (n := t + 11) (N := 3) dX2_init_31 rfl (by decide) hn hw (fun k => hz _ _ (by omega)) hR.fr (hR.c (by decide)) (hR.s (by decide)) (bn_c (by show _ < _; omega) (bn_c (by show _ < _; omega) (bn_c (by show _ < _; omega) bn_n))) (bn_c (by show _ < _; omega) bn_n) (fun E8 x8 (n8 : eN E8 = t + 12) b8 u8 w8 => ?_)
  replace hx := xt_t hx x8
  replace a0 := u8 _ _ a0
  replace a9 := u8 _ _ a9
  replace a10 := u8 _ _ a10
  replace pC := isCrs_up (q := t) (fun c sh _ h => u8 c sh h) (by omega) pC
  replace hup : ∀ c sh, c < t → At E c sh → At E8 c sh := fun c sh hc h => u8 c sh (hup c sh hc h)
  have a11 : At E8 (t + 11) (aI 3 nG) := b8
  replace hn := n8
  replace hw := w8
  clear n8 w8 u8 b8 x8
  refine A_putF dX2_init_33 fl_RX2_25 fr2_5 a0 hn (by omega) (Nat.le_of_ble_eq_true rfl) hw hR.2.2.2.2.2.2 (fun E9 x9 (n9 : eN E9 = t + 12) b9 u9 w9 => ?_)
  replace hx := xt_t hx x9
  replace a9 := u9 _ _ (by omega) a9
  replace a10 := u9 _ _ (by omega) a10
  replace a11 := u9 _ _ (by omega) a11
  replace pC := isCrs_up (q := t) (fun c sh hq h => u9 c sh hq h) (by omega) pC
  replace hup : ∀ c sh, c < t → At E c sh → At E9 c sh := fun c sh hc h => u9 c sh (by omega) (hup c sh hc h)
  replace a0 : At E9 (t) (.inl (2, [some none, some none, rf (t + 1), rf (t + 9), rf (t + 10), rf (t + 11), some none])) := b9
  replace hn := n9
  replace hw := w9
  clear n9 w9 u9 b9 x9
  refine A_aload_n dX2_init_36 rfl ?_
  refine A_bipush dX2_init_37 bp_8 (by decide) ?_
  refine A_newI (n := t + 12) (N := 8) dX2_init_39 rfl (by decide) hn hw (fun k => hz _ _ (by omega)) hR.fr (hR.c (by decide)) (hR.s (by decide)) (bn_c (by show _ < _; omega) (bn_c (by show _ < _; omega) (bn_c (by show _ < _; omega) bn_n))) (bn_c (by show _ < _; omega) bn_n) (fun E10 x10 (n10 : eN E10 = t + 13) b10 u10 w10 => ?_)
  replace hx := xt_t hx x10
  replace a0 := u10 _ _ a0
  replace a9 := u10 _ _ a9
  replace a10 := u10 _ _ a10
  replace a11 := u10 _ _ a11
  replace pC := isCrs_up (q := t) (fun c sh _ h => u10 c sh h) (by omega) pC
  replace hup : ∀ c sh, c < t → At E c sh → At E10 c sh := fun c sh hc h => u10 c sh (hup c sh hc h)
  have a12 : At E10 (t + 12) (aI 8 nG) := b10
  replace hn := n10
  replace hw := w10
  clear n10 w10 u10 b10 x10
  refine A_putF dX2_init_41 fl_RX2_28 fr2_6 a0 hn (by omega) (Nat.le_of_ble_eq_true rfl) hw hR.2.2.2.2.2.2 (fun E11 x11 (n11 : eN E11 = t + 13) b11 u11 w11 => ?_)
  replace hx := xt_t hx x11
  replace a9 := u11 _ _ (by omega) a9
  replace a10 := u11 _ _ (by omega) a10
  replace a11 := u11 _ _ (by omega) a11
  replace a12 := u11 _ _ (by omega) a12
  replace pC := isCrs_up (q := t) (fun c sh hq h => u11 c sh hq h) (by omega) pC
  replace hup : ∀ c sh, c < t → At E c sh → At E11 c sh := fun c sh hc h => u11 c sh (by omega) (hup c sh hc h)
  replace a0 : At E11 (t) (.inl (2, [some none, some none, rf (t + 1), rf (t + 9), rf (t + 10), rf (t + 11), rf (t + 12)])) := b11
  replace hn := n11
  replace hw := w11
  clear n11 w11 u11 b11 x11
  refine A_aload_n dX2_init_44 rfl ?_
  refine A_aload_n dX2_init_45 rfl ?_
  refine A_putF dX2_init_46 fl_RX2_31 fr2_0 a0 hn (by omega) (Nat.le_of_ble_eq_true rfl) hw hR.2.2.2.2.2.2 (fun E12 x12 (n12 : eN E12 = t + 13) b12 u12 w12 => ?_)
  replace hx := xt_t hx x12
  replace a9 := u12 _ _ (by omega) a9
  replace a10 := u12 _ _ (by omega) a10
  replace a11 := u12 _ _ (by omega) a11
  replace a12 := u12 _ _ (by omega) a12
  replace pC := isCrs_up (q := t) (fun c sh hq h => u12 c sh hq h) (by omega) pC
  replace hup : ∀ c sh, c < t → At E c sh → At E12 c sh := fun c sh hc h => u12 c sh (by omega) (hup c sh hc h)
  replace a0 : At E12 (t) (.inl (2, [rf a, some none, rf (t + 1), rf (t + 9), rf (t + 10), rf (t + 11), rf (t + 12)])) := b12
  replace hn := n12
  replace hw := w12
  clear n12 w12 u12 b12 x12
  refine A_aload_n dX2_init_49 rfl ?_
  refine A_aload_n dX2_init_50 rfl ?_
  refine A_putF dX2_init_51 fl_RX2_35 fr2_1 a0 hn (by omega) (Nat.le_of_ble_eq_true rfl) hw hR.2.2.2.2.2.2 (fun E13 x13 (n13 : eN E13 = t + 13) b13 u13 w13 => ?_)
  replace hx := xt_t hx x13
  replace a9 := u13 _ _ (by omega) a9
  replace a10 := u13 _ _ (by omega) a10
  replace a11 := u13 _ _ (by omega) a11
  replace a12 := u13 _ _ (by omega) a12
  replace pC := isCrs_up (q := t) (fun c sh hq h => u13 c sh hq h) (by omega) pC
  replace hup : ∀ c sh, c < t → At E c sh → At E13 c sh := fun c sh hc h => u13 c sh (by omega) (hup c sh hc h)
  replace a0 : At E13 (t) (.inl (2, [rf a, rf b, rf (t + 1), rf (t + 9), rf (t + 10), rf (t + 11), rf (t + 12)])) := b13
  replace hn := n13
  replace hw := w13
  clear n13 w13 u13 b13 x13
  refine A_iend hR hx hw dX2_init_54 rfl ?_
  exact ⟨hn, ⟨a0, pC, a9, a10, a11, a12⟩, hup, F, trivial⟩

