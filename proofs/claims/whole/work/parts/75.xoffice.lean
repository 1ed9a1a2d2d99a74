/-! THE READER: all lines; SUGARSTAMPS: fault, office -/
theorem ln_z {M M1 : Mem} {x : Fn} {n p : Nat} {T : TD} {z : Int} (h : lnX M M1 x n p T z) : z = 0 ∨ z = 1 := by
  by_cases e : (lnR x n p T).1 = -1
  · exact Or.inr (h.2.2 e).1
  · exact Or.inl (h.2.1 e).1
set_option maxRecDepth 100000 in
set_option maxHeartbeats 4000000 in
theorem c_readOn {E : EN} {l : Launch} {M : Mem} {n : Nat} {x : Fn} {T : TD} (hO : isRdr E) (hT3 : isTold E 3) (hn2 : n ≤ 200) (hby : ∀ k : Int, 0 ≤ k → k < n → 0 ≤ x k ∧ x k ≤ 255) (hx : tX M n x) (hT : rT M 3 T) (hwT : wT T) : Cn E l mX3_readOn 6 [vR 11, vR 3] M (fun r M1 => r = vU ∧ ((∀ y, y < 11 ∨ 20 ≤ y → M1 y = M y) ∧ M1 11 2 = (rdR x n 12 0 T).1 ∧ ((rdR x n 12 0 T).1 = -1 → M1 11 3 = (rdR x n 12 0 T).2.1 ∧ rT M1 12 (rdR x n 12 0 T).2.2))) := by
  refine Cn.of (by decide) rfl (Nat.le_of_ble_eq_true rfl) 1 rfl (fun oka okm G hR => ?_)
  obtain ⟨rt, rd, ra⟩ := id hO
  obtain ⟨ta, tb⟩ := id rt
  obtain ⟨b0, b1, b2, b3, b4, b5, b6, b7⟩ := id rd
  refine A_aload_n dX3_readOn_0 rfl ?_
  refine A_getR dX3_readOn_1 fl_RX3_12 (by assumption) (by rfl) ?_
  refine A_aload_n dX3_readOn_4 rfl ?_
  refine A_vV1 (mj := mX6_takeFrom) dX3_readOn_5 hR.rm (by decide) ok_X6_takeFrom mv_X6_takeFrom ml_RX3_22 (by assumption) rfl rfl rfl (c_takeT (t := 12) (s := 3) rd hT3 (by omega) hT hwT) (fun M5 k5 q5 => ?_)
  obtain ⟨y1, y2⟩ := q5
  refine A_aload_n dX3_readOn_8 rfl ?_
  refine A_iconst dX3_readOn_9 (by decide) ?_
  refine A_putI (ki := 2) dX3_readOn_10 fl_RX3_26 fi3_2 (by assumption) (by rfl) rfl (fun M10 e10 k10 => ?_)
  refine A_aload_n dX3_readOn_13 rfl ?_
  refine A_iconst dX3_readOn_14 (by decide) ?_
  refine A_putI (ki := 5) dX3_readOn_15 fl_RX3_30 fi3_5 (by assumption) (by rfl) rfl (fun M15 e15 k15 => ?_)
  refine A_iconst dX3_readOn_18 (by decide) ?_
  refine A_istore_n dX3_readOn_19 (by decide) rfl ?_
  have lp : ∀ (k : Nat) (c : Nat) (p : Nat) (T1 : TD) (M1 : Mem), 13 - c = k → (1 ≤ c ∧ c ≤ 12) → (∀ y, y < 11 ∨ 20 ≤ y → M1 y = M y) → (M1 11 5 = p) → (p ≤ n) → (rT M1 12 T1) → (wN3 T1) → (M1 11 2 = -1) → ((rdR x n 12 0 T).1 = (rdR x n (12 - c + 1) p T1).1) → ((rdR x n 12 0 T).2.1 + 1 = c + (rdR x n (12 - c + 1) p T1).2.1) → ((rdR x n 12 0 T).2.2 = (rdR x n (12 - c + 1) p T1).2.2) → AW E mX3_readOn G 0 0 20 [vR 11, vR 3, vI c] [] M1 := by
    intro k
    induction k using Nat.strongRecOn with
    | ind k ih =>
      intro c p T1 M1 hk hc1 hf hp hp2 hr hw1 h2 hR1 hR2 hR3
      refine A_iload_n dX3_readOn_20 rfl ?_
      refine A_bipush dX3_readOn_21 bp_12 (by decide) ?_
      refine A_icmp_gt (tgt := 92) dX3_readOn_23 (by decide) (fun h23 => ?_) (fun h23 => ?_)
      · skip
        exfalso; omega
      · skip
        refine A_aload_n dX3_readOn_26 rfl ?_
        refine A_vI0 (mj := mX3_readLine) dX3_readOn_27 hR.rm (by decide) ok_X3_readLine mv_X3_readLine ml_RX3_33 (by assumption) rfl rfl rfl (c_readLine (p := p) (T := T1) hO hn2 hby (tX_f hx (fun y hy => hf y (by omega))) hp hp2 hr hw1) (fun z27 M27 g27 k27 q27 => ?_)
        have zl := ln_z q27
        obtain ⟨l1, l2, l3⟩ := q27
        refine A_if_ne (tgt := 34) dX3_readOn_30 (by decide) (fun h30 => ?_) (fun h30 => ?_)
        · skip
          have ok : (lnR x n p T1).1 = -1 := by
            by_cases z : (lnR x n p T1).1 = -1
            · exact z
            · exact absurd (l2 z).1 h30
          obtain ⟨o1, o2, o3, o4⟩ := l3 ok
          have lk := ln_ok hp2 hw1 ok
          have lr := rdR_s (f := 12 - c) ok
          refine A_aload_n dX3_readOn_34 rfl ?_
          refine A_iload_n dX3_readOn_35 rfl ?_
          refine A_putI (ki := 3) dX3_readOn_36 fl_RX3_37 fi3_3 (by assumption) (by rfl) rfl (fun M36 e36 k36 => ?_)
          refine A_aload_n dX3_readOn_39 rfl ?_
          refine A_vV0 (mj := mX3_takeToken) dX3_readOn_40 hR.rm (by decide) ok_X3_takeToken mv_X3_takeToken ml_RX3_40 (by assumption) rfl rfl rfl (c_takeToken (p := (lnR x n p T1).2.1) hO hn2 (tX_f hx (fun y hy => by rw [e36, upm_c (by omega), l1.1 y (by omega)]; exact hf y (by omega))) (by rw [e36, upm_k (by omega)]; exact o3) lk.1) (fun M40 k40 q40 => ?_)
          obtain ⟨t1, t2, t3, t4⟩ := q40
          have F : ∀ y, y < 11 ∨ 20 ≤ y → M40 y = M y := fun y hy => by rw [t1 y (by omega), e36, upm_c (by omega), l1.1 y hy]; exact hf y hy
          have xs : tX M40 n x := tX_f hx (fun y hy => F y (by omega))
          have m2 : M40 11 2 = -1 := by rw [t2 2 (by omega) (by omega), e36, upm_k (by omega), o2]; exact h2
          have m3 : M40 11 3 = c := by rw [t2 3 (by omega) (by omega), e36, upm_s]
          have hr4 : rT M40 12 (lnT (lnR x n p T1) T1) := rT_fr (c := 11) (n := 1) o4 (fun y hy => by rw [t1 y (by omega), e36, upm_c (by omega)]) (Or.inr (by omega))
          have tr := tk_r (x := x) lk.1
          refine A_aload_n dX3_readOn_43 rfl ?_
          refine A_getI (ki := 4) dX3_readOn_44 fl_RX3_43 (by assumption) (by rfl) rfl ?_
          refine A_aload_n dX3_readOn_47 rfl ?_
          refine A_getR dX3_readOn_48 fl_RX3_18 (by assumption) (by rfl) ?_
          rw [t3]
          refine A_getI (ki := 1) dX3_readOn_51 fl_RX3_46 (by assumption) (by rfl) rfl ?_
          rw [xs.1]
          refine A_icmp_lt (tgt := 58) dX3_readOn_54 (by decide) (fun h54 => ?_) (fun h54 => ?_)
          · skip
            have j80 : (x ((tkA x n (lnR x n p T1).2.1 : Nat) : Int) ≠ 59 ∨ 12 - c = 0) → AW E mX3_readOn G 0 0 80 [vR 11, vR 3, vI c] [] M40 := by
              intro hj
              refine A_aload_n dX3_readOn_80 rfl ?_
              refine A_vI0 (mj := mX3_refuseToken) dX3_readOn_81 hR.rm (by decide) ok_X3_refuseToken mv_X3_refuseToken ml_RX3_55 (by assumption) rfl rfl rfl (c_refuse hO t3) (fun z81 M81 g81 k81 q81 => ?_)
              obtain ⟨g1, g2⟩ := q81
              subst z81
              refine A_pop dX3_readOn_84 rfl ?_
              exact A_vret hR dX3_readOn_85 rfl (by
      have tf := tl_f (x := x) (n := n) (p := (lnR x n p T1).2.1) (f := 12 - c) (T := lnT (lnR x n p T1) T1) (by omega) hj
      rw [tf] at lr
      rw [lr] at hR1
      have hR1 : (rdR x n 12 0 T).1 = ((tkA x n (lnR x n p T1).2.1 : Nat) : Int) := hR1
      exact ⟨rfl, fun y hy => by rw [g2, upm_c (by omega)]; exact F y hy, by rw [hR1, g2, upm_s], fun z => by omega⟩)
            refine A_aload_n dX3_readOn_58 rfl ?_
            refine A_getR dX3_readOn_59 fl_RX3_18 (by assumption) (by rfl) ?_
            refine A_aload_n dX3_readOn_62 rfl ?_
            refine A_getI (ki := 4) dX3_readOn_63 fl_RX3_43 (by assumption) (by rfl) rfl ?_
            rw [t3]
            refine A_vI1 (mj := mX5_at) dX3_readOn_66 hR.rm (by decide) ok_X5_at mv_X5_at ml_RX3_51 (by assumption) rfl rfl rfl (c_txtAt rt (i := ((tkA x n (lnR x n p T1).2.1 : Nat) : Int)) (by have := xs.1; omega)) (fun z66 M66 g66 k66 q66 => ?_)
            obtain ⟨e66, q66⟩ := q66
            subst M66
            rw [xs.1, if_pos ⟨by omega, by omega⟩, show M40 (1 + 1) ((tkA x n (lnR x n p T1).2.1 : Nat) : Int) = x ((tkA x n (lnR x n p T1).2.1 : Nat) : Int) from xs.2 _ (by omega) (by omega)] at q66
            subst z66
            refine A_bipush dX3_readOn_69 bp_59 (by decide) ?_
            refine A_icmp_ne (tgt := 80) dX3_readOn_71 (by decide) (fun h71 => ?_) (fun h71 => ?_)
            · skip
              exact j80 (by first | exact Or.inl h71 | (right; omega))
            · skip
              refine A_iload_n dX3_readOn_74 rfl ?_
              refine A_bipush dX3_readOn_75 bp_12 (by decide) ?_
              refine A_icmp_ne (tgt := 86) dX3_readOn_77 (by decide) (fun h77 => ?_) (fun h77 => ?_)
              · skip
                refine A_iinc dX3_readOn_86 (by decide) rfl rfl ⟨by omega, by omega⟩ ?_
                refine A_goto (tgt := 20) dX3_readOn_89 (by decide) ?_
                have tm := tl_m (x := x) (n := n) (p := (lnR x n p T1).2.1) (f := 12 - c) (T := lnT (lnR x n p T1) T1) (by omega) (by
                  intro q
                  rcases q with q | q
                  · exact q (by omega)
                  · omega)
                exact ih _ (by omega) (c + 1) (tkB x n (lnR x n p T1).2.1) (lnT (lnR x n p T1) T1) M40 rfl (by omega) F t4 (by omega) hr4 lk.2 m2 (by rw [hR1, lr, tm, show 12 - c = 12 - (c + 1) + 1 by omega]) (by rw [hR2, lr, tm, show 12 - c = 12 - (c + 1) + 1 by omega]; show c + (_ + 1) = c + 1 + _; omega) (by rw [hR3, lr, tm, show 12 - c = 12 - (c + 1) + 1 by omega])
              · skip
                exact j80 (by first | exact Or.inl h71 | (right; omega))
          · skip
            exact A_vret hR dX3_readOn_57 rfl (by
      have te := tl_end (f := 12 - c) (T := lnT (lnR x n p T1) T1) (show n ≤ tkA x n (lnR x n p T1).2.1 by omega)
      rw [te] at lr
      rw [lr] at hR1 hR2 hR3
      have hR1 : (rdR x n 12 0 T).1 = -1 := hR1
      have hR2 : (rdR x n 12 0 T).2.1 + 1 = c + (0 + 1) := hR2
      have hR3 : (rdR x n 12 0 T).2.2 = lnT (lnR x n p T1) T1 := hR3
      exact ⟨rfl, F, by rw [hR1]; exact m2, fun _ => ⟨by rw [m3, show (rdR x n 12 0 T).2.1 = c by omega], by rw [hR3]; exact hr4⟩⟩)
        · skip
          exact A_vret hR dX3_readOn_33 rfl (by
      have nf : (lnR x n p T1).1 ≠ -1 := fun z => by have := (l3 z).1; omega
      have lf := rdR_f (f := 12 - c) nf
      exact ⟨rfl, fun y hy => (l1.1 y hy).trans (hf y hy), by rw [hR1, lf]; exact (l2 nf).2, fun z => by rw [hR1, lf] at z; exact absurd z nf⟩)
  exact lp _ 1 0 T M15 rfl (by omega) (fun y hy => by rw [e15, upm_c (by omega), e10, upm_c (by omega)]; exact y1 y (by omega)) (by rw [e15, upm_s]; rfl) (by omega) (rT_fr (c := 11) (n := 1) y2 (fun y hy => by rw [e15, upm_c (by omega), e10, upm_c (by omega)]) (Or.inr (by omega))) ⟨⟨hwT.1.1, hwT.1.2.1⟩, hwT.1.2.2.1, hwT.1.2.2.2.1⟩ (by rw [e15, upm_k (by omega), e10, upm_s]) rfl (Nat.add_comm _ _) rfl

set_option maxRecDepth 100000 in
set_option maxHeartbeats 4000000 in
theorem x_fault {E : EN} {l : Launch} {M : Mem} {S : GS} (hO : isApp E) (hY : rX M S) (hw : wS S) (hwx : wX S) : Cn E l mX7_fault 7 [vR 0] M (fun r M1 => ∃ z, r = vI z ∧ (rX M1 (S) ∧ frX M M1 ∧ z = f_fault S)) := by
  refine Cn.of (by decide) rfl (Nat.le_of_ble_eq_true rfl) 0 rfl (fun oka okm G hR => ?_)
  obtain ⟨p0, pX, pT, pD, pN, p28, pk0, pk1, p45, pF, pS, pR, p11⟩ := id hO
  obtain ⟨b0, b1, b2, b3, b4, b5, b6, b7⟩ := id pT
  obtain ⟨d0, d1, d2, d3, d4, d5, d6, d7⟩ := id pN
  obtain ⟨f0, fC, f9, f10, f11, f12⟩ := id pF
  obtain ⟨g0, gp1, gp2, gp3⟩ := id pS
  obtain ⟨h0', h1'⟩ := id pR
  obtain ⟨xt0, xt1⟩ := id pX
  obtain ⟨hrT, hrC, hk0, hk1, ⟨hb0, hb1⟩, ⟨hL, hX⟩, hrS, hcr⟩ := id hY
  obtain ⟨⟨t0, t1, t2, t3, t4⟩, tk, tt, tf⟩ := id hrT
  obtain ⟨⟨n0, n1, n2, n3⟩, ns, nf⟩ := id hrC
  obtain ⟨⟨r0, r1⟩, rs⟩ := id hrS
  obtain ⟨hwT, ⟨hwC, hwG⟩, ⟨wb0, wb1⟩, wk0, wk1, wL, ⟨wN, wsn⟩, wcr, wcr0⟩ := id hw
  obtain ⟨wt0, wtk, wtt, wtf⟩ := id hwT
  obtain ⟨wc0, wcs, wcf⟩ := id hwC
  refine A_aload_n dX7_fault_0 rfl ?_
  refine A_getR dX7_fault_1 fl_RX7_28 (by assumption) (by rfl) ?_
  refine A_aload_n dX7_fault_4 rfl ?_
  refine A_getR dX7_fault_5 fl_RX7_19 (by assumption) (by rfl) ?_
  refine A_vV1 (mj := mX3_readOn) dX7_fault_8 hR.rm (by decide) ok_X3_readOn mv_X3_readOn ml_RX7_88 (by assumption) rfl rfl rfl (c_readOn (n := sL S) (x := sX S) (T := sT S) ⟨pX, pD, p11⟩ pT wL hwx ⟨hL, hX⟩ hrT hwT) (fun M8 k8 q8 => ?_)
  obtain ⟨v1, v2, v3⟩ := q8
  refine A_aload_n dX7_fault_11 rfl ?_
  refine A_getR dX7_fault_12 fl_RX7_28 (by assumption) (by rfl) ?_
  refine A_getI (ki := 2) dX7_fault_15 fl_RX7_91 (by assumption) (by rfl) rfl ?_
  exact A_iret hR dX7_fault_18 rfl (by
      have u := rX_fr hY (M1 := M8) (fun y hy => v1 y (by omega))
      exact ⟨_, rfl, u.1, u.2, v2⟩)

set_option maxRecDepth 100000 in
set_option maxHeartbeats 4000000 in
theorem x_office {E : EN} {l : Launch} {M : Mem} {S : GS} (hO : isApp E) (hY : rX M S) (hw : wS S) (hwx : wX S) : Cn E l mX7_office 7 [vR 0] M (fun r M1 => ∃ z, r = vI z ∧ (rX M1 (g_office S) ∧ frX M M1 ∧ z = f_office S)) := by
  refine Cn.of (by decide) rfl (Nat.le_of_ble_eq_true rfl) 1 rfl (fun oka okm G hR => ?_)
  obtain ⟨p0, pX, pT, pD, pN, p28, pk0, pk1, p45, pF, pS, pR, p11⟩ := id hO
  obtain ⟨b0, b1, b2, b3, b4, b5, b6, b7⟩ := id pT
  obtain ⟨d0, d1, d2, d3, d4, d5, d6, d7⟩ := id pN
  obtain ⟨f0, fC, f9, f10, f11, f12⟩ := id pF
  obtain ⟨g0, gp1, gp2, gp3⟩ := id pS
  obtain ⟨h0', h1'⟩ := id pR
  obtain ⟨xt0, xt1⟩ := id pX
  obtain ⟨hrT, hrC, hk0, hk1, ⟨hb0, hb1⟩, ⟨hL, hX⟩, hrS, hcr⟩ := id hY
  obtain ⟨⟨t0, t1, t2, t3, t4⟩, tk, tt, tf⟩ := id hrT
  obtain ⟨⟨n0, n1, n2, n3⟩, ns, nf⟩ := id hrC
  obtain ⟨⟨r0, r1⟩, rs⟩ := id hrS
  obtain ⟨hwT, ⟨hwC, hwG⟩, ⟨wb0, wb1⟩, wk0, wk1, wL, ⟨wN, wsn⟩, wcr, wcr0⟩ := id hw
  obtain ⟨wt0, wtk, wtt, wtf⟩ := id hwT
  obtain ⟨wc0, wcs, wcf⟩ := id hwC
  obtain ⟨c, hc⟩ : ∃ c, c = (rdR (sX S) (sL S) 12 0 (sT S)).2.1 := ⟨_, rfl⟩
  obtain ⟨T', hT'⟩ : ∃ T', T' = (rdR (sX S) (sL S) 12 0 (sT S)).2.2 := ⟨_, rfl⟩
  refine A_aload_n dX7_office_0 rfl ?_
  refine A_getR dX7_office_1 fl_RX7_28 (by assumption) (by rfl) ?_
  refine A_aload_n dX7_office_4 rfl ?_
  refine A_getR dX7_office_5 fl_RX7_19 (by assumption) (by rfl) ?_
  refine A_vV1 (mj := mX3_readOn) dX7_office_8 hR.rm (by decide) ok_X3_readOn mv_X3_readOn ml_RX7_88 (by assumption) rfl rfl rfl (c_readOn (n := sL S) (x := sX S) (T := sT S) ⟨pX, pD, p11⟩ pT wL hwx ⟨hL, hX⟩ hrT hwT) (fun M8 k8 q8 => ?_)
  obtain ⟨v1, v2, v3⟩ := q8
  refine A_aload_n dX7_office_11 rfl ?_
  refine A_getR dX7_office_12 fl_RX7_28 (by assumption) (by rfl) ?_
  refine A_getI (ki := 2) dX7_office_15 fl_RX7_91 (by assumption) (by rfl) rfl ?_
  refine A_iconst dX7_office_18 (by decide) ?_
  refine A_icmp_eq (tgt := 25) dX7_office_19 (by decide) (fun h19 => ?_) (fun h19 => ?_)
  · skip
    have ef : f_fault S = -1 := v2.symm.trans h19
    obtain ⟨w1, w2⟩ := v3 ef
    rw [← hc] at w1
    rw [← hT'] at w2
    have hwT' : wT T' := by rw [hT']; exact rd_w 12 0 (sT S) (Nat.zero_le _) hwT ef
    refine A_aload_n dX7_office_25 rfl ?_
    refine A_getR dX7_office_26 fl_RX7_19 (by assumption) (by rfl) ?_
    refine A_aload_n dX7_office_29 rfl ?_
    refine A_getR dX7_office_30 fl_RX7_28 (by assumption) (by rfl) ?_
    refine A_getR dX7_office_33 fl_RX7_94 (by assumption) (by rfl) ?_
    refine A_vV1 (mj := mX6_takeFrom) dX7_office_36 hR.rm (by decide) ok_X6_takeFrom mv_X6_takeFrom ml_RX7_97 (by assumption) rfl rfl rfl (c_takeT (t := 3) (s := 12) (T := T') pT pD (by omega) w2 hwT') (fun M36 k36 q36 => ?_)
    obtain ⟨a1, a2⟩ := q36
    refine A_aload_n dX7_office_39 rfl ?_
    refine A_getR dX7_office_40 fl_RX7_10 (by assumption) (by rfl) ?_
    refine A_vI0 (mj := mX5_clear) dX7_office_43 hR.rm (by decide) ok_X5_clear mv_X5_clear ml_RX7_84 (by assumption) rfl rfl rfl (c_txtClear pX) (fun z43 M43 g43 k43 q43 => ?_)
    obtain ⟨c1, c2⟩ := q43
    refine A_pop dX7_office_46 rfl ?_
    refine A_aload_n dX7_office_47 rfl ?_
    refine A_getR dX7_office_48 fl_RX7_35 (by assumption) (by rfl) ?_
    refine A_aload_n dX7_office_51 rfl ?_
    refine A_getR dX7_office_52 fl_RX7_19 (by assumption) (by rfl) ?_
    refine A_vV1 (mj := mX0_begin) dX7_office_55 hR.rm (by decide) ok_X0_begin mv_X0_begin ml_RX7_39 (by assumption) rfl rfl rfl (c_begin (c := 20) (t := 3) (T := T') pN pT (by omega) (rT_fr (c := 1) (n := 1) a2 (fun y hy => by rw [c2, upm_c (by omega)]) (Or.inr (by omega))) hwT') (fun M55 k55 q55 => ?_)
    obtain ⟨b1, b2⟩ := q55
    refine A_iconst dX7_office_58 (by decide) ?_
    refine A_istore_n dX7_office_59 (by decide) rfl ?_
    have lp : ∀ (k : Nat) (i : Nat) (M1 : Mem), 2 - i = k → (i ≤ 2) → (∀ y, y ≠ 45 → M1 y = M55 y) → (∀ k : Int, 0 ≤ k → k < i → M1 45 k = 0) → AW E mX7_office G 0 0 60 [vR 0, vI i] [] M1 := by
      intro k
      induction k using Nat.strongRecOn with
      | ind k ih =>
        intro i M1 hk h0 hky hz
        refine A_iload_n dX7_office_60 rfl ?_
        refine A_iconst dX7_office_61 (by decide) ?_
        refine A_icmp_ge (tgt := 78) dX7_office_62 (by decide) (fun h62 => ?_) (fun h62 => ?_)
        · skip
          have hi : i = 2 := by omega
          subst hi
          refine A_aload_n dX7_office_78 rfl ?_
          refine A_getR dX7_office_79 fl_RX7_63 (by assumption) (by rfl) ?_
          refine A_vI0 (mj := mX4_clear) dX7_office_82 hR.rm (by decide) ok_X4_clear mv_X4_clear ml_RX7_100 (by assumption) rfl rfl rfl (c_sgtClear (n := sN S) (fl := sFl S) (dk := sDk S) (mn := sMn S) pS (rS_fr hrS (fun y h1 h2 => by rw [hky y (by omega), b1 y (by omega), c2, upm_c (by omega), a1 y (by omega), v1 y (by omega)]))) (fun z82 M82 g82 k82 q82 => ?_)
          obtain ⟨s1, s2, s3⟩ := q82
          refine A_pop dX7_office_85 rfl ?_
          refine A_aload_n dX7_office_86 rfl ?_
          refine A_getR dX7_office_87 fl_RX7_70 (by assumption) (by rfl) ?_
          refine A_vV0 (mj := mX1_clear) dX7_office_90 hR.rm (by decide) ok_X1_clear mv_X1_clear ml_RX7_101 (by assumption) rfl rfl rfl (c_crmClear pR) (fun M90 k90 q90 => ?_)
          skip
          refine A_aload_n dX7_office_93 rfl ?_
          refine A_getR dX7_office_94 fl_RX7_28 (by assumption) (by rfl) ?_
          refine A_getI (ki := 3) dX7_office_97 fl_RX7_103 (by assumption) (by rfl) rfl ?_
          exact A_iret hR dX7_office_100 rfl (by
      have K : ∀ y, y ≠ 45 → y < 59 ∨ 65 ≤ y → M90 y = M55 y := fun y ya yb => by rw [q90, flm_o (by omega), s2 y (by omega)]; exact hky y ya
      refine ⟨_, rfl, ?_, fun y hy => ?_, ?_⟩
      · unfold g_office
        rw [if_pos ef, ← hT']
        refine ⟨rT_fr (c := 20) (n := 100) (rT_fr (c := 20) (n := 8) (rT_fr (c := 1) (n := 1) a2 (fun y hy => by rw [c2, upm_c (by omega)]) (Or.inr (by omega))) b1 (Or.inl (by omega))) (fun y hy => K y (by omega) (by omega)) (Or.inl (by omega)), rC_6 b2 (fun y h1 h2 => K y (by omega) (by omega)), fun z => ?_, fun z => ?_, ⟨?_, ?_⟩, ⟨?_, fun k x y => ?_⟩, ?_, fun k x y => ?_⟩
        · have z : (0 : Int) = 1 := z; omega
        · have z : (0 : Int) = 1 := z; omega
        · rw [q90, flm_o (by omega), s2 45 (by omega)]; exact hz 0 (by omega) (by omega)
        · rw [q90, flm_o (by omega), s2 45 (by omega)]; exact hz 1 (by omega) (by omega)
        · rw [K 1 (by omega) (by omega), b1 1 (by omega), c2, upm_s]; rfl
        · have y : k < ((0 : Nat) : Int) := y; omega
        · exact rS_fr s3 (fun y h1 h2 => by rw [q90, flm_o (by omega)])
        · rw [q90, flm_i (by omega) (by omega)]
      · rw [K y (by omega) (by omega), b1 y (by omega), c2, upm_c (by omega), a1 y (by omega), v1 y (by omega)]
      · unfold f_office
        rw [if_pos ef, ← hc, K 11 (by omega) (by omega), b1 11 (by omega), c2, upm_c (by omega), a1 11 (by omega)]; exact w1)
        · skip
          refine A_aload_n dX7_office_65 rfl ?_
          refine A_getR dX7_office_66 fl_RX7_47 (by assumption) (by rfl) ?_
          refine A_iload_n dX7_office_69 rfl ?_
          refine A_iconst dX7_office_70 (by decide) ?_
          refine A_zast dX7_office_71 (by first | exact Or.inl rfl | exact Or.inr rfl) (by assumption) (by omega) (by omega) (fun M71 e71 k71 => ?_)
          refine A_iinc dX7_office_72 (by decide) rfl rfl ⟨by omega, by omega⟩ ?_
          refine A_goto (tgt := 60) dX7_office_75 (by decide) ?_
          refine ih _ (by omega) (i + 1) M71 rfl (by omega) (fun y hy => by rw [e71, upm_c hy]; exact hky y hy) (fun k x y => ?_)
          rw [e71, upm_x]
          by_cases q : k = i
          · rw [if_pos ⟨rfl, q⟩]
          · rw [if_neg (fun z => q z.2)]; exact hz k x (by omega)
    exact lp _ 0 M55 rfl (by omega) (fun _ _ => rfl) (fun k x y => by omega)
  · skip
    refine A_bipush dX7_office_22 bp_m4 (by decide) ?_
    exact A_iret hR dX7_office_24 rfl ⟨_, rfl, by unfold g_office; rw [if_neg (show ¬ f_fault S = -1 from fun z => h19 (v2.trans z))]; exact (rX_fr hY (M1 := M8) (fun y hy => v1 y (by omega))).1, fun y hy => v1 y (by omega), by unfold f_office; rw [if_neg (show ¬ f_fault S = -1 from fun z => h19 (v2.trans z))]⟩

