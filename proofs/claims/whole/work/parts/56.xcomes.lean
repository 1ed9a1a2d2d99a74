/-! SUGARSTAMPS: what comes -/
theorem atB_bit (A : Fn) (d : Int) : ∀ n i : Nat, (atB A d n).testBit i = decide (i < n ∧ A i = d)
  | 0, i => by simp [atB]
  | n + 1, i => by
    have ih := atB_bit A d n i
    have hl := atB_lt A d n
    unfold atB
    split
    · next q =>
      rw [← b_add hl, Nat.testBit_or, ih, Nat.testBit_two_pow]
      by_cases e : i = n
      · subst e; simp [q]
      · have e2 : ¬ n = i := fun z => e z.symm
        rw [Bool.eq_iff_iff]
        simp [e2]
        omega
    · next q =>
      rw [ih, Bool.eq_iff_iff]
      simp
      by_cases e : i = n
      · subst e; simp [q]
      · omega
theorem b63 : ∀ x : Nat, x < 64 → ∀ i : Nat, i < 6 → (63 - x).testBit i = !x.testBit i := by decide +kernel
theorem rk_qu {C : CS} {d : Int} {x : Nat} : ∀ n : Nat, (∀ i : Nat, i < n → (x.testBit i = true ↔ (csA C i = d ∧ csF C i = -1))) → (rkN x n : Int) = quN C d n
  | 0, _ => rfl
  | n + 1, h => by
    have ih := rk_qu n (fun i hi => h i (by omega))
    have q := h n (by omega)
    rw [rkN, quN]
    by_cases e : csA C n = d ∧ csF C n = -1
    · rw [if_pos e, if_pos (q.mpr e)]; omega
    · rw [if_neg e, if_neg (fun z => e (q.mp z))]; omega
theorem qu_pop {T : TD} {C : CS} {d : Int} (hT : wT T) : popN (atB (csA C) d (oF T) &&& (63 - fsN (csF C) (oF T))) = quN C d (oF T) := by
  have w := hT.1
  have f6 := fs64 (F := csF C) hT
  rw [pop_rk (n := oF T) (Nat.lt_of_le_of_lt Nat.and_le_left (atB_lt _ _ _)) (by omega)]
  refine rk_qu _ (fun i hi => ?_)
  rw [Nat.testBit_and, atB_bit, b63 _ f6 i (by omega), (fsN_bit (csF C) (oF T)).2]
  simp [hi]
set_option maxRecDepth 100000 in
set_option maxHeartbeats 4000000 in
theorem x_filed {E : EN} {l : Launch} {M : Mem} {S : GS} (hO : isApp E) (hY : rX M S) (hw : wS S) {f : Int} : Cn E l mX7_filed 6 [vR 0, vI f] M (fun r M1 => ∃ z, r = vI z ∧ (rX M1 (S) ∧ frX M M1 ∧ z = f_filed S f)) := by
  refine Cn.of (by decide) rfl (Nat.le_of_ble_eq_true rfl) 0 rfl (fun oka okm G hR => ?_)
  obtain ⟨p0, pX, pT, pD, pN, p28, pk0, pk1, p45, pF, pS, pR, p11⟩ := id hO
  obtain ⟨b0, b1, b2, b3, b4, b5, b6, b7⟩ := id pT
  obtain ⟨d0, d1, d2, d3, d4, d5, d6, d7⟩ := id pN
  obtain ⟨f0, fC, f9, f10, f11, f12⟩ := id pF
  obtain ⟨g0, gp1, gp2, gp3⟩ := id pS
  obtain ⟨h0', h1'⟩ := id pR
  obtain ⟨xt0, xt1⟩ := id pX
  obtain ⟨hrT, hrC, hk0, hk1, ⟨hb0, hb1⟩, ⟨hL, hX⟩, hrS, hcr⟩ := id hY
  obtain ⟨⟨t0, t1, t2, t3, t4⟩, tk, tt, tf⟩ := id hrT
  obtain ⟨⟨n0, n1, n2, n3⟩, ns, nf⟩ := id hrC
  obtain ⟨⟨r0, r1⟩, rs⟩ := id hrS
  obtain ⟨hwT, ⟨hwC, hwG⟩, ⟨wb0, wb1⟩, wk0, wk1, wL, ⟨wN, wsn⟩, wcr, wcr0⟩ := id hw
  obtain ⟨wt0, wtk, wtt, wtf⟩ := id hwT
  obtain ⟨wc0, wcs, wcf⟩ := id hwC
  refine A_aload_n dX7_filed_0 rfl ?_
  refine A_iload_n dX7_filed_1 rfl ?_
  refine A_vI1 (mj := mX7_isFile) dX7_filed_2 hR.rm (by decide) ok_X7_isFile mv_X7_isFile ml_RX7_137 (by assumption) rfl rfl rfl (x_isFile hO hY hw) (fun z2 M2 g2 k2 q2 => ?_)
  obtain ⟨e2, z2r, q2⟩ := q2
  subst M2
  refine A_if_ne (tgt := 11) dX7_filed_5 (by decide) (fun h5 => ?_) (fun h5 => ?_)
  · skip
    have dt : 0 ≤ f ∧ f < oF (sT S) := q2.mp (by omega)
    obtain ⟨f, rfl⟩ : ∃ j : Nat, f = j := ⟨f.toNat, by omega⟩
    refine A_aload_n dX7_filed_11 rfl ?_
    refine A_getR dX7_filed_12 fl_RX7_56 (by assumption) (by rfl) ?_
    refine A_iload_n dX7_filed_15 rfl ?_
    refine A_vI1 (mj := mX2_minuteOfFiling) dX7_filed_16 hR.rm (by decide) ok_X2_minuteOfFiling mv_X2_minuteOfFiling ml_RX7_195 (by assumption) rfl rfl rfl (c_filedIn (g := f) pF pT pN (by omega) (by omega) hrT hrC hwT hwC hwG (by omega)) (fun z16 M16 g16 k16 q16 => ?_)
    obtain ⟨y1, y2⟩ := q16
    exact A_iret hR dX7_filed_19 rfl ⟨_, rfl, (rX_fr hY (fun y hy => y1 y (by omega))).1, (rX_fr hY (fun y hy => y1 y (by omega))).2, by unfold f_filed; rw [if_pos dt]; exact y2⟩
  · skip
    refine A_bipush dX7_filed_8 bp_m2 (by decide) ?_
    exact A_iret hR dX7_filed_10 rfl ⟨_, rfl, hY, frX_r, by unfold f_filed; rw [if_neg (fun q => by have := q2.mpr q; omega)]⟩

set_option maxRecDepth 100000 in
set_option maxHeartbeats 4000000 in
theorem x_later {E : EN} {l : Launch} {M : Mem} {S : GS} (hO : isApp E) (hY : rX M S) (hw : wS S) {f t w : Int} : Cn E l mX7_later 6 [vR 0, vI f, vI t, vI w] M (fun r M1 => ∃ z, r = vI z ∧ (rX M1 (S) ∧ frX M M1 ∧ z = f_later S f t w)) := by
  refine Cn.of (by decide) rfl (Nat.le_of_ble_eq_true rfl) 1 rfl (fun oka okm G hR => ?_)
  obtain ⟨p0, pX, pT, pD, pN, p28, pk0, pk1, p45, pF, pS, pR, p11⟩ := id hO
  obtain ⟨b0, b1, b2, b3, b4, b5, b6, b7⟩ := id pT
  obtain ⟨d0, d1, d2, d3, d4, d5, d6, d7⟩ := id pN
  obtain ⟨f0, fC, f9, f10, f11, f12⟩ := id pF
  obtain ⟨g0, gp1, gp2, gp3⟩ := id pS
  obtain ⟨h0', h1'⟩ := id pR
  obtain ⟨xt0, xt1⟩ := id pX
  obtain ⟨hrT, hrC, hk0, hk1, ⟨hb0, hb1⟩, ⟨hL, hX⟩, hrS, hcr⟩ := id hY
  obtain ⟨⟨t0, t1, t2, t3, t4⟩, tk, tt, tf⟩ := id hrT
  obtain ⟨⟨n0, n1, n2, n3⟩, ns, nf⟩ := id hrC
  obtain ⟨⟨r0, r1⟩, rs⟩ := id hrS
  obtain ⟨hwT, ⟨hwC, hwG⟩, ⟨wb0, wb1⟩, wk0, wk1, wL, ⟨wN, wsn⟩, wcr, wcr0⟩ := id hw
  obtain ⟨wt0, wtk, wtt, wtf⟩ := id hwT
  obtain ⟨wc0, wcs, wcf⟩ := id hwC
  refine A_iload_n dX7_later_0 rfl ?_
  refine A_if_lt (tgt := 9) dX7_later_1 (by decide) (fun h1 => ?_) (fun h1 => ?_)
  · skip
    refine A_bipush dX7_later_9 bp_m3 (by decide) ?_
    exact A_iret hR dX7_later_11 rfl ⟨_, rfl, hY, frX_r, by unfold f_later; rw [if_neg (by omega)]⟩
  · skip
    refine A_iload_n dX7_later_4 rfl ?_
    refine A_iconst dX7_later_5 (by decide) ?_
    refine A_icmp_le (tgt := 12) dX7_later_6 (by decide) (fun h6 => ?_) (fun h6 => ?_)
    · skip
      have da : 0 ≤ w ∧ w ≤ 2 := by omega
      have j39 : (0 ≤ f ∧ ((w < 2 → f < oF (sT S)) ∧ (w = 2 → f < oT (sT S)))) → AW E mX7_later G 0 0 39 [vR 0, vI f, vI t, vI w, vU] [] M := by
        intro dt
        refine A_iload_n dX7_later_39 rfl ?_
        refine A_if_lt (tgt := 49) dX7_later_40 (by decide) (fun h40 => ?_) (fun h40 => ?_)
        · skip
          refine A_bipush dX7_later_49 bp_m3 (by decide) ?_
          exact A_iret hR dX7_later_51 rfl ⟨_, rfl, hY, frX_r, by unfold f_later; rw [if_pos da, if_pos dt, if_neg (by omega)]⟩
        · skip
          refine A_iload_n dX7_later_43 rfl ?_
          refine A_bipush dX7_later_44 bp_99 (by decide) ?_
          refine A_icmp_le (tgt := 52) dX7_later_46 (by decide) (fun h46 => ?_) (fun h46 => ?_)
          · skip
            have db : 0 ≤ t ∧ t ≤ 99 := by omega
            obtain ⟨t, rfl⟩ : ∃ j : Nat, t = j := ⟨t.toNat, by omega⟩
            refine A_aload_n dX7_later_52 rfl ?_
            refine A_getR dX7_later_53 fl_RX7_56 (by assumption) (by rfl) ?_
            refine A_iload_n dX7_later_56 rfl ?_
            refine A_vR1 (mj := mX2_inMinutes) dX7_later_57 hR.rm (by decide) ok_X2_inMinutes mv_X2_inMinutes ml_RX7_191 (by assumption) rfl rfl rfl (c_inMinutes (m := t) pF pT pN (by omega) (by omega) hrT hrC hwT hwC hwG (by omega)) (fun j57 M57 k57 q57 => ?_)
            obtain ⟨rfl, y1, y2⟩ := q57
            obtain ⟨c0, c1, c2, c3, c4, c5, c6, c7⟩ := id fC
            obtain ⟨⟨v0, v1, v2, v3⟩, vs, vf⟩ := id y2
            refine A_astore dX7_later_60 (by decide) rfl ?_
            refine A_iload_n dX7_later_62 rfl ?_
            refine A_iconst dX7_later_63 (by decide) ?_
            refine A_icmp_ne (tgt := 75) dX7_later_64 (by decide) (fun h64 => ?_) (fun h64 => ?_)
            · skip
              refine A_iload_n dX7_later_75 rfl ?_
              refine A_iconst dX7_later_76 (by decide) ?_
              refine A_icmp_ne (tgt := 90) dX7_later_77 (by decide) (fun h77 => ?_) (fun h77 => ?_)
              · skip
                refine A_aload dX7_later_90 rfl ?_
                refine A_getR dX7_later_92 fl_RX7_140 (by assumption) (by rfl) ?_
                refine A_iload_n dX7_later_95 rfl ?_
                refine A_iald dX7_later_96 (by assumption) (by omega) (by omega) ?_
                first | rw [(vf f (by omega) (by omega)).1] | skip
                exact A_iret hR dX7_later_97 rfl (by
      refine ⟨_, rfl, (rX_fr hY (fun y hy => y1 y (by omega))).1, (rX_fr hY (fun y hy => y1 y (by omega))).2, ?_⟩
      unfold f_later
      rw [if_pos da, if_pos dt, if_pos db, Int.toNat_natCast]
      first
      | rw [if_pos (by omega)]
      | rw [if_neg (by omega), if_pos (by omega)]
      | rw [if_neg (by omega), if_neg (by omega)])
              · skip
                refine A_aload dX7_later_80 rfl ?_
                refine A_getR dX7_later_82 fl_RX7_146 (by assumption) (by rfl) ?_
                refine A_iload_n dX7_later_85 rfl ?_
                refine A_iald dX7_later_86 (by assumption) (by omega) (by omega) ?_
                rw [(vf f (by omega) (by omega)).2.1]
                refine A_goto (tgt := 97) dX7_later_87 (by decide) ?_
                first | rw [(vf f (by omega) (by omega)).1] | skip
                exact A_iret hR dX7_later_97 rfl (by
      refine ⟨_, rfl, (rX_fr hY (fun y hy => y1 y (by omega))).1, (rX_fr hY (fun y hy => y1 y (by omega))).2, ?_⟩
      unfold f_later
      rw [if_pos da, if_pos dt, if_pos db, Int.toNat_natCast]
      first
      | rw [if_pos (by omega)]
      | rw [if_neg (by omega), if_pos (by omega)]
      | rw [if_neg (by omega), if_neg (by omega)])
            · skip
              refine A_aload dX7_later_67 rfl ?_
              refine A_getR dX7_later_69 fl_RX7_134 (by assumption) (by rfl) ?_
              refine A_iload_n dX7_later_72 rfl ?_
              refine A_iald dX7_later_73 (by assumption) (by omega) (by omega) ?_
              rw [vs f (by omega) (by omega)]
              exact A_iret hR dX7_later_74 rfl (by
      refine ⟨_, rfl, (rX_fr hY (fun y hy => y1 y (by omega))).1, (rX_fr hY (fun y hy => y1 y (by omega))).2, ?_⟩
      unfold f_later
      rw [if_pos da, if_pos dt, if_pos db, Int.toNat_natCast]
      first
      | rw [if_pos (by omega)]
      | rw [if_neg (by omega), if_pos (by omega)]
      | rw [if_neg (by omega), if_neg (by omega)])
          · skip
            refine A_bipush dX7_later_49 bp_m3 (by decide) ?_
            exact A_iret hR dX7_later_51 rfl ⟨_, rfl, hY, frX_r, by unfold f_later; rw [if_pos da, if_pos dt, if_neg (by omega)]⟩
      have j36 : ¬ (0 ≤ f ∧ ((w < 2 → f < oF (sT S)) ∧ (w = 2 → f < oT (sT S)))) → AW E mX7_later G 0 0 36 [vR 0, vI f, vI t, vI w, vU] [] M := by
        intro dt
        refine A_bipush dX7_later_36 bp_m2 (by decide) ?_
        exact A_iret hR dX7_later_38 rfl ⟨_, rfl, hY, frX_r, by unfold f_later; rw [if_pos da, if_neg dt]⟩
      refine A_iload_n dX7_later_12 rfl ?_
      refine A_iconst dX7_later_13 (by decide) ?_
      refine A_icmp_ne (tgt := 28) dX7_later_14 (by decide) (fun h14 => ?_) (fun h14 => ?_)
      · skip
        refine A_aload_n dX7_later_28 rfl ?_
        refine A_iload_n dX7_later_29 rfl ?_
        refine A_vI1 (mj := mX7_isFile) dX7_later_30 hR.rm (by decide) ok_X7_isFile mv_X7_isFile ml_RX7_137 (by assumption) rfl rfl rfl (x_isFile hO hY hw) (fun z30 M30 g30 k30 q30 => ?_)
        obtain ⟨e30, z30r, q30⟩ := q30
        subst M30
        refine A_if_ne (tgt := 39) dX7_later_33 (by decide) (fun h33 => ?_) (fun h33 => ?_)
        · skip
          first | exact j39 (by have := q19.mp (by omega); omega) | exact j39 (by have := q30.mp (by omega); omega)
        · skip
          first | exact j36 (fun q => by have := q19.mpr (by omega); omega) | exact j36 (fun q => by have := q30.mpr (by omega); omega)
      · skip
        refine A_aload_n dX7_later_17 rfl ?_
        refine A_iload_n dX7_later_18 rfl ?_
        refine A_vI1 (mj := mX7_isTrail) dX7_later_19 hR.rm (by decide) ok_X7_isTrail mv_X7_isTrail ml_RX7_125 (by assumption) rfl rfl rfl (x_isTrail hO hY hw) (fun z19 M19 g19 k19 q19 => ?_)
        obtain ⟨e19, z19r, q19⟩ := q19
        subst M19
        refine A_if_ne (tgt := 39) dX7_later_22 (by decide) (fun h22 => ?_) (fun h22 => ?_)
        · skip
          first | exact j39 (by have := q19.mp (by omega); omega) | exact j39 (by have := q30.mp (by omega); omega)
        · skip
          refine A_goto (tgt := 36) dX7_later_25 (by decide) ?_
          first | exact j36 (fun q => by have := q19.mpr (by omega); omega) | exact j36 (fun q => by have := q30.mpr (by omega); omega)
    · skip
      refine A_bipush dX7_later_9 bp_m3 (by decide) ?_
      exact A_iret hR dX7_later_11 rfl ⟨_, rfl, hY, frX_r, by unfold f_later; rw [if_neg (by omega)]⟩

set_option maxRecDepth 100000 in
set_option maxHeartbeats 4000000 in
theorem x_queue {E : EN} {l : Launch} {M : Mem} {S : GS} (hO : isApp E) (hY : rX M S) (hw : wS S) {d t : Int} : Cn E l mX7_queue 6 [vR 0, vI d, vI t] M (fun r M1 => ∃ z, r = vI z ∧ (rX M1 (S) ∧ frX M M1 ∧ z = f_queue S d t)) := by
  refine Cn.of (by decide) rfl (Nat.le_of_ble_eq_true rfl) 1 rfl (fun oka okm G hR => ?_)
  obtain ⟨p0, pX, pT, pD, pN, p28, pk0, pk1, p45, pF, pS, pR, p11⟩ := id hO
  obtain ⟨b0, b1, b2, b3, b4, b5, b6, b7⟩ := id pT
  obtain ⟨d0, d1, d2, d3, d4, d5, d6, d7⟩ := id pN
  obtain ⟨f0, fC, f9, f10, f11, f12⟩ := id pF
  obtain ⟨g0, gp1, gp2, gp3⟩ := id pS
  obtain ⟨h0', h1'⟩ := id pR
  obtain ⟨xt0, xt1⟩ := id pX
  obtain ⟨hrT, hrC, hk0, hk1, ⟨hb0, hb1⟩, ⟨hL, hX⟩, hrS, hcr⟩ := id hY
  obtain ⟨⟨t0, t1, t2, t3, t4⟩, tk, tt, tf⟩ := id hrT
  obtain ⟨⟨n0, n1, n2, n3⟩, ns, nf⟩ := id hrC
  obtain ⟨⟨r0, r1⟩, rs⟩ := id hrS
  obtain ⟨hwT, ⟨hwC, hwG⟩, ⟨wb0, wb1⟩, wk0, wk1, wL, ⟨wN, wsn⟩, wcr, wcr0⟩ := id hw
  obtain ⟨wt0, wtk, wtt, wtf⟩ := id hwT
  obtain ⟨wc0, wcs, wcf⟩ := id hwC
  refine A_aload_n dX7_queue_0 rfl ?_
  refine A_iload_n dX7_queue_1 rfl ?_
  refine A_vI1 (mj := mX7_isDesk) dX7_queue_2 hR.rm (by decide) ok_X7_isDesk mv_X7_isDesk ml_RX7_106 (by assumption) rfl rfl rfl (x_isDesk hO hY hw) (fun z2 M2 g2 k2 q2 => ?_)
  obtain ⟨e2, z2r, q2⟩ := q2
  subst M2
  refine A_if_ne (tgt := 11) dX7_queue_5 (by decide) (fun h5 => ?_) (fun h5 => ?_)
  · skip
    have dt : 0 ≤ d ∧ d < oD (sT S) := q2.mp (by omega)
    refine A_iload_n dX7_queue_11 rfl ?_
    refine A_if_lt (tgt := 21) dX7_queue_12 (by decide) (fun h12 => ?_) (fun h12 => ?_)
    · skip
      refine A_bipush dX7_queue_21 bp_m3 (by decide) ?_
      exact A_iret hR dX7_queue_23 rfl ⟨_, rfl, hY, frX_r, by unfold f_queue; rw [if_pos dt, if_neg (by omega)]⟩
    · skip
      refine A_iload_n dX7_queue_15 rfl ?_
      refine A_bipush dX7_queue_16 bp_99 (by decide) ?_
      refine A_icmp_le (tgt := 24) dX7_queue_18 (by decide) (fun h18 => ?_) (fun h18 => ?_)
      · skip
        have da : 0 ≤ t ∧ t ≤ 99 := by omega
        obtain ⟨t, rfl⟩ : ∃ j : Nat, t = j := ⟨t.toNat, by omega⟩
        refine A_aload_n dX7_queue_24 rfl ?_
        refine A_getR dX7_queue_25 fl_RX7_56 (by assumption) (by rfl) ?_
        refine A_iload_n dX7_queue_28 rfl ?_
        refine A_vR1 (mj := mX2_inMinutes) dX7_queue_29 hR.rm (by decide) ok_X2_inMinutes mv_X2_inMinutes ml_RX7_191 (by assumption) rfl rfl rfl (c_inMinutes (m := t) pF pT pN (by omega) (by omega) hrT hrC hwT hwC hwG (by omega)) (fun j29 M29 k29 q29 => ?_)
        obtain ⟨rfl, y1, y2⟩ := q29
        obtain ⟨c0, c1, c2, c3, c4, c5, c6, c7⟩ := id fC
        obtain ⟨⟨v0, v1, v2, v3⟩, vs, vf⟩ := id y2
        refine A_astore_n dX7_queue_32 (by decide) rfl ?_
        refine A_aload_n dX7_queue_33 rfl ?_
        refine A_iload_n dX7_queue_34 rfl ?_
        refine A_aload_n dX7_queue_35 rfl ?_
        refine A_getR dX7_queue_36 fl_RX7_19 (by assumption) (by rfl) ?_
        refine A_getI (ki := 2) dX7_queue_39 fl_RX7_114 (by assumption) (by rfl) rfl ?_
        rw [show M29 3 2 = oF (sT S) by rw [y1 3 (by omega)]; exact t2]
        refine A_vI2 (mj := mX0_filesAt) dX7_queue_42 hR.rm (by decide) ok_X0_filesAt mv_X0_filesAt ml_RX7_117 (by assumption) rfl rfl rfl (c_filesAt (n := oF (sT S)) fC (by omega)) (fun z42 M42 g42 k42 q42 => ?_)
        obtain ⟨e42, q42⟩ := q42
        subst M42
        rw [atB_ext _ (fun k x y => (vf k x y).1)] at q42
        subst z42
        have f6 := fs64 (F := csF (itC (sT S) (sC S) t)) hwT
        have a6 := atB_64 (csA (itC (sT S) (sC S) t)) d wt0.2.2.2.1
        refine A_aload_n dX7_queue_45 rfl ?_
        refine A_getI (ki := 3) dX7_queue_46 fl_RX7_198 (by assumption) (by rfl) rfl ?_
        rw [v3]
        refine A_iconst dX7_queue_49 (by decide) ?_
        refine A_ixor (z := (-1 - ((fsN (csF (itC (sT S) (sC S) t)) (oF (sT S)) : Nat) : Int))) dX7_queue_50 (b_not _ f6) ⟨by omega, by omega⟩ ?_
        refine A_iand (z := ((atB (csA (itC (sT S) (sC S) t)) d (oF (sT S)) &&& (63 - fsN (csF (itC (sT S) (sC S) t)) (oF (sT S))) : Nat) : Int)) dX7_queue_51 (b_nand _ a6 _ f6) (rng64 (Nat.lt_of_le_of_lt Nat.and_le_left a6)) ?_
        refine A_sI1 (mj := mJ6_bitCount_0f7a4) dX7_queue_52 hR.rm (by decide) ok_J6_bitCount_0f7a4 st_J6_bitCount_0f7a4 ml_RX7_201 rfl (c_bitCount (x := atB (csA (itC (sT S) (sC S) t)) d (oF (sT S)) &&& (63 - fsN (csF (itC (sT S) (sC S) t)) (oF (sT S)))) (Nat.lt_of_le_of_lt Nat.and_le_left (by omega))) (fun z52 M52 g52 k52 q52 => ?_)
        obtain ⟨e52, q52⟩ := q52
        subst M52
        rw [qu_pop hwT] at q52
        exact A_iret hR dX7_queue_55 rfl ⟨_, rfl, (rX_fr hY (fun y hy => y1 y (by omega))).1, (rX_fr hY (fun y hy => y1 y (by omega))).2, by unfold f_queue; rw [if_pos dt, if_pos da, Int.toNat_natCast]; exact q52⟩
      · skip
        refine A_bipush dX7_queue_21 bp_m3 (by decide) ?_
        exact A_iret hR dX7_queue_23 rfl ⟨_, rfl, hY, frX_r, by unfold f_queue; rw [if_pos dt, if_neg (by omega)]⟩
  · skip
    refine A_bipush dX7_queue_8 bp_m2 (by decide) ?_
    exact A_iret hR dX7_queue_10 rfl ⟨_, rfl, hY, frX_r, by unfold f_queue; rw [if_neg (fun q => by have := q2.mpr q; omega)]⟩

set_option maxRecDepth 100000 in
set_option maxHeartbeats 4000000 in
theorem x_worst {E : EN} {l : Launch} {M : Mem} {S : GS} (hO : isApp E) (hY : rX M S) (hw : wS S) {t : Int} : Cn E l mX7_worst 7 [vR 0, vI t] M (fun r M1 => ∃ z, r = vI z ∧ (rX M1 (S) ∧ frX M M1 ∧ z = f_worst S t)) := by
  refine Cn.of (by decide) rfl (Nat.le_of_ble_eq_true rfl) 0 rfl (fun oka okm G hR => ?_)
  obtain ⟨p0, pX, pT, pD, pN, p28, pk0, pk1, p45, pF, pS, pR, p11⟩ := id hO
  obtain ⟨b0, b1, b2, b3, b4, b5, b6, b7⟩ := id pT
  obtain ⟨d0, d1, d2, d3, d4, d5, d6, d7⟩ := id pN
  obtain ⟨f0, fC, f9, f10, f11, f12⟩ := id pF
  obtain ⟨g0, gp1, gp2, gp3⟩ := id pS
  obtain ⟨h0', h1'⟩ := id pR
  obtain ⟨xt0, xt1⟩ := id pX
  obtain ⟨hrT, hrC, hk0, hk1, ⟨hb0, hb1⟩, ⟨hL, hX⟩, hrS, hcr⟩ := id hY
  obtain ⟨⟨t0, t1, t2, t3, t4⟩, tk, tt, tf⟩ := id hrT
  obtain ⟨⟨n0, n1, n2, n3⟩, ns, nf⟩ := id hrC
  obtain ⟨⟨r0, r1⟩, rs⟩ := id hrS
  obtain ⟨hwT, ⟨hwC, hwG⟩, ⟨wb0, wb1⟩, wk0, wk1, wL, ⟨wN, wsn⟩, wcr, wcr0⟩ := id hw
  obtain ⟨wt0, wtk, wtt, wtf⟩ := id hwT
  obtain ⟨wc0, wcs, wcf⟩ := id hwC
  refine A_iload_n dX7_worst_0 rfl ?_
  refine A_iconst dX7_worst_1 (by decide) ?_
  refine A_icmp_lt (tgt := 11) dX7_worst_2 (by decide) (fun h2 => ?_) (fun h2 => ?_)
  · skip
    refine A_bipush dX7_worst_11 bp_m3 (by decide) ?_
    exact A_iret hR dX7_worst_13 rfl ⟨_, rfl, hY, frX_r, by unfold f_worst; rw [if_neg (by omega)]⟩
  · skip
    refine A_iload_n dX7_worst_5 rfl ?_
    refine A_bipush dX7_worst_6 bp_99 (by decide) ?_
    refine A_icmp_le (tgt := 14) dX7_worst_8 (by decide) (fun h8 => ?_) (fun h8 => ?_)
    · skip
      have da : 1 ≤ t ∧ t ≤ 99 := by omega
      obtain ⟨t, rfl⟩ : ∃ j : Nat, t = j := ⟨t.toNat, by omega⟩
      refine A_aload_n dX7_worst_14 rfl ?_
      refine A_getR dX7_worst_15 fl_RX7_56 (by assumption) (by rfl) ?_
      refine A_iload_n dX7_worst_18 rfl ?_
      refine A_vI1 (mj := mX2_worstDesk) dX7_worst_19 hR.rm (by decide) ok_X2_worstDesk mv_X2_worstDesk ml_RX7_226 (by assumption) rfl rfl rfl (c_worst (m := t) pF pT pN (by omega) (by omega) hrT hrC hwT hwC hwG (by omega)) (fun z19 M19 g19 k19 q19 => ?_)
      obtain ⟨y1, y2⟩ := q19
      exact A_iret hR dX7_worst_22 rfl ⟨_, rfl, (rX_fr hY (fun y hy => y1 y (by omega))).1, (rX_fr hY (fun y hy => y1 y (by omega))).2, by unfold f_worst; rw [if_pos da, Int.toNat_natCast]; exact y2⟩
    · skip
      refine A_bipush dX7_worst_11 bp_m3 (by decide) ?_
      exact A_iret hR dX7_worst_13 rfl ⟨_, rfl, hY, frX_r, by unfold f_worst; rw [if_neg (by omega)]⟩

set_option maxRecDepth 100000 in
set_option maxHeartbeats 4000000 in
theorem x_harm {E : EN} {l : Launch} {M : Mem} {S : GS} (hO : isApp E) (hY : rX M S) (hw : wS S) {d t : Int} : Cn E l mX7_harm 6 [vR 0, vI d, vI t] M (fun r M1 => ∃ z, r = vI z ∧ (rX M1 (S) ∧ frX M M1 ∧ z = f_harm S d t)) := by
  refine Cn.of (by decide) rfl (Nat.le_of_ble_eq_true rfl) 0 rfl (fun oka okm G hR => ?_)
  obtain ⟨p0, pX, pT, pD, pN, p28, pk0, pk1, p45, pF, pS, pR, p11⟩ := id hO
  obtain ⟨b0, b1, b2, b3, b4, b5, b6, b7⟩ := id pT
  obtain ⟨d0, d1, d2, d3, d4, d5, d6, d7⟩ := id pN
  obtain ⟨f0, fC, f9, f10, f11, f12⟩ := id pF
  obtain ⟨g0, gp1, gp2, gp3⟩ := id pS
  obtain ⟨h0', h1'⟩ := id pR
  obtain ⟨xt0, xt1⟩ := id pX
  obtain ⟨hrT, hrC, hk0, hk1, ⟨hb0, hb1⟩, ⟨hL, hX⟩, hrS, hcr⟩ := id hY
  obtain ⟨⟨t0, t1, t2, t3, t4⟩, tk, tt, tf⟩ := id hrT
  obtain ⟨⟨n0, n1, n2, n3⟩, ns, nf⟩ := id hrC
  obtain ⟨⟨r0, r1⟩, rs⟩ := id hrS
  obtain ⟨hwT, ⟨hwC, hwG⟩, ⟨wb0, wb1⟩, wk0, wk1, wL, ⟨wN, wsn⟩, wcr, wcr0⟩ := id hw
  obtain ⟨wt0, wtk, wtt, wtf⟩ := id hwT
  obtain ⟨wc0, wcs, wcf⟩ := id hwC
  have fp : ∀ p : Int, 0 ≤ ffl (sT S) (sC S) p t.toNat ∧ ffl (sT S) (sC S) p t.toNat ≤ 8 := fun p => popN_r _
  have fp1 := fp (-1)
  have fp2 := fp d
  refine A_aload_n dX7_harm_0 rfl ?_
  refine A_iload_n dX7_harm_1 rfl ?_
  refine A_vI1 (mj := mX7_isDesk) dX7_harm_2 hR.rm (by decide) ok_X7_isDesk mv_X7_isDesk ml_RX7_106 (by assumption) rfl rfl rfl (x_isDesk hO hY hw) (fun z2 M2 g2 k2 q2 => ?_)
  obtain ⟨e2, z2r, q2⟩ := q2
  subst M2
  refine A_if_ne (tgt := 11) dX7_harm_5 (by decide) (fun h5 => ?_) (fun h5 => ?_)
  · skip
    have dt : 0 ≤ d ∧ d < oD (sT S) := q2.mp (by omega)
    refine A_iload_n dX7_harm_11 rfl ?_
    refine A_iconst dX7_harm_12 (by decide) ?_
    refine A_icmp_lt (tgt := 22) dX7_harm_13 (by decide) (fun h13 => ?_) (fun h13 => ?_)
    · skip
      refine A_bipush dX7_harm_22 bp_m3 (by decide) ?_
      exact A_iret hR dX7_harm_24 rfl ⟨_, rfl, hY, frX_r, by unfold f_harm; rw [if_pos dt, if_neg (by omega)]⟩
    · skip
      refine A_iload_n dX7_harm_16 rfl ?_
      refine A_bipush dX7_harm_17 bp_99 (by decide) ?_
      refine A_icmp_le (tgt := 25) dX7_harm_19 (by decide) (fun h19 => ?_) (fun h19 => ?_)
      · skip
        have da : 1 ≤ t ∧ t ≤ 99 := by omega
        obtain ⟨t, rfl⟩ : ∃ j : Nat, t = j := ⟨t.toNat, by omega⟩
        rw [Int.toNat_natCast] at fp1 fp2
        refine A_aload_n dX7_harm_25 rfl ?_
        refine A_getR dX7_harm_26 fl_RX7_56 (by assumption) (by rfl) ?_
        refine A_iconst dX7_harm_29 (by decide) ?_
        refine A_iload_n dX7_harm_30 rfl ?_
        refine A_vI2 (mj := mX2_filesFiled) dX7_harm_31 hR.rm (by decide) ok_X2_filesFiled mv_X2_filesFiled ml_RX7_223 (by assumption) rfl rfl rfl (c_filesFiled (m := t) (q := -1) pF pT pN (by omega) (by omega) hrT hrC hwT hwC hwG (by omega) (by omega) (by omega)) (fun z31 M31 g31 k31 q31 => ?_)
        obtain ⟨y1, y2⟩ := q31
        have hT2 : rT M31 3 (sT S) := rT_fr hrT y1 (Or.inl (by omega))
        have hC2 : rC M31 20 (sT S) (sC S) := rC_fr hrC y1 (Or.inl (by omega))
        refine A_aload_n dX7_harm_34 rfl ?_
        refine A_getR dX7_harm_35 fl_RX7_56 (by assumption) (by rfl) ?_
        refine A_iload_n dX7_harm_38 rfl ?_
        refine A_iload_n dX7_harm_39 rfl ?_
        refine A_vI2 (mj := mX2_filesFiled) dX7_harm_40 hR.rm (by decide) ok_X2_filesFiled mv_X2_filesFiled ml_RX7_223 (by assumption) rfl rfl rfl (c_filesFiled (m := t) (q := d) pF pT pN (by omega) (by omega) hT2 hC2 hwT hwC hwG (by omega) (by omega) (by omega)) (fun z40 M40 g40 k40 q40 => ?_)
        obtain ⟨y3, y4⟩ := q40
        have y5 := fr_t y1 y3
        refine A_isub dX7_harm_43 ⟨by omega, by omega⟩ ?_
        refine A_bipush dX7_harm_44 bp_100 (by decide) ?_
        refine A_iadd dX7_harm_46 ⟨by omega, by omega⟩ ?_
        exact A_iret hR dX7_harm_47 rfl ⟨_, rfl, (rX_fr hY (fun y hy => y5 y (by omega))).1, (rX_fr hY (fun y hy => y5 y (by omega))).2, by unfold f_harm; rw [if_pos dt, if_pos da, Int.toNat_natCast, y2, y4]; omega⟩
      · skip
        refine A_bipush dX7_harm_22 bp_m3 (by decide) ?_
        exact A_iret hR dX7_harm_24 rfl ⟨_, rfl, hY, frX_r, by unfold f_harm; rw [if_pos dt, if_neg (by omega)]⟩
  · skip
    refine A_bipush dX7_harm_8 bp_m2 (by decide) ?_
    exact A_iret hR dX7_harm_10 rfl ⟨_, rfl, hY, frX_r, by unfold f_harm; rw [if_neg (fun q => by have := q2.mpr q; omega)]⟩

set_option maxRecDepth 100000 in
set_option maxHeartbeats 4000000 in
theorem x_stamps {E : EN} {l : Launch} {M : Mem} {S : GS} (hO : isApp E) (hY : rX M S) (hw : wS S) {f : Int} : Cn E l mX7_stamps 7 [vR 0, vI f] M (fun r M1 => ∃ z, r = vI z ∧ (rX M1 S ∧ frX M M1 ∧ R_stamps S f z)) := by
  refine Cn.of (by decide) rfl (Nat.le_of_ble_eq_true rfl) 0 rfl (fun oka okm G hR => ?_)
  obtain ⟨p0, pX, pT, pD, pN, p28, pk0, pk1, p45, pF, pS, pR, p11⟩ := id hO
  obtain ⟨b0, b1, b2, b3, b4, b5, b6, b7⟩ := id pT
  obtain ⟨d0, d1, d2, d3, d4, d5, d6, d7⟩ := id pN
  obtain ⟨f0, fC, f9, f10, f11, f12⟩ := id pF
  obtain ⟨g0, gp1, gp2, gp3⟩ := id pS
  obtain ⟨h0', h1'⟩ := id pR
  obtain ⟨xt0, xt1⟩ := id pX
  obtain ⟨hrT, hrC, hk0, hk1, ⟨hb0, hb1⟩, ⟨hL, hX⟩, hrS, hcr⟩ := id hY
  obtain ⟨⟨t0, t1, t2, t3, t4⟩, tk, tt, tf⟩ := id hrT
  obtain ⟨⟨n0, n1, n2, n3⟩, ns, nf⟩ := id hrC
  obtain ⟨⟨r0, r1⟩, rs⟩ := id hrS
  obtain ⟨hwT, ⟨hwC, hwG⟩, ⟨wb0, wb1⟩, wk0, wk1, wL, ⟨wN, wsn⟩, wcr, wcr0⟩ := id hw
  obtain ⟨wt0, wtk, wtt, wtf⟩ := id hwT
  obtain ⟨wc0, wcs, wcf⟩ := id hwC
  refine A_aload_n dX7_stamps_0 rfl ?_
  refine A_iload_n dX7_stamps_1 rfl ?_
  refine A_vI1 (mj := mX7_isFile) dX7_stamps_2 hR.rm (by decide) ok_X7_isFile mv_X7_isFile ml_RX7_137 (by assumption) rfl rfl rfl (x_isFile hO hY hw) (fun z2 M2 g2 k2 q2 => ?_)
  obtain ⟨e2, z2r, q2⟩ := q2
  subst M2
  refine A_if_ne (tgt := 11) dX7_stamps_5 (by decide) (fun h5 => ?_) (fun h5 => ?_)
  · skip
    have dt : 0 ≤ f ∧ f < oF (sT S) := q2.mp (by omega)
    obtain ⟨f, rfl⟩ : ∃ j : Nat, f = j := ⟨f.toNat, by omega⟩
    refine A_aload_n dX7_stamps_11 rfl ?_
    refine A_getR dX7_stamps_12 fl_RX7_56 (by assumption) (by rfl) ?_
    refine A_aload_n dX7_stamps_15 rfl ?_
    refine A_getR dX7_stamps_16 fl_RX7_63 (by assumption) (by rfl) ?_
    refine A_iload_n dX7_stamps_19 rfl ?_
    refine A_vI2 (mj := mX2_stampsBy) dX7_stamps_20 hR.rm (by decide) ok_X2_stampsBy mv_X2_stampsBy ml_RX7_236 (by assumption) rfl rfl rfl (c_stampsBy (g := f) pF pT pN (by omega) (by omega) hrT hrC hwT hwC hwG pS (by omega) hrS (fun k x y => (wsn k x y).2.2.2.2) (by omega)) (fun z20 M20 g20 k20 q20 => ?_)
    obtain ⟨y1, y2⟩ := q20
    exact A_iret hR dX7_stamps_23 rfl ⟨_, rfl, (rX_fr hY (fun y hy => y1 y (by omega))).1, (rX_fr hY (fun y hy => y1 y (by omega))).2, by unfold R_stamps; rw [if_pos dt]; exact y2⟩
  · skip
    refine A_bipush dX7_stamps_8 bp_m2 (by decide) ?_
    exact A_iret hR dX7_stamps_10 rfl ⟨_, rfl, hY, frX_r, by unfold R_stamps; rw [if_neg (fun q => by have := q2.mpr q; omega)]⟩

set_option maxRecDepth 100000 in
set_option maxHeartbeats 4000000 in
theorem x_quiet {E : EN} {l : Launch} {M : Mem} {S : GS} (hO : isApp E) (hY : rX M S) (hw : wS S) {a b : Int} : Cn E l mX7_quiet 3 [vR 0, vI a, vI b] M (fun r M1 => ∃ z, r = vI z ∧ (rX M1 S ∧ frX M M1 ∧ R_quiet S a b z)) := by
  refine Cn.of (by decide) rfl (Nat.le_of_ble_eq_true rfl) 0 rfl (fun oka okm G hR => ?_)
  obtain ⟨p0, pX, pT, pD, pN, p28, pk0, pk1, p45, pF, pS, pR, p11⟩ := id hO
  obtain ⟨b0, b1, b2, b3, b4, b5, b6, b7⟩ := id pT
  obtain ⟨d0, d1, d2, d3, d4, d5, d6, d7⟩ := id pN
  obtain ⟨f0, fC, f9, f10, f11, f12⟩ := id pF
  obtain ⟨g0, gp1, gp2, gp3⟩ := id pS
  obtain ⟨h0', h1'⟩ := id pR
  obtain ⟨xt0, xt1⟩ := id pX
  obtain ⟨hrT, hrC, hk0, hk1, ⟨hb0, hb1⟩, ⟨hL, hX⟩, hrS, hcr⟩ := id hY
  obtain ⟨⟨t0, t1, t2, t3, t4⟩, tk, tt, tf⟩ := id hrT
  obtain ⟨⟨n0, n1, n2, n3⟩, ns, nf⟩ := id hrC
  obtain ⟨⟨r0, r1⟩, rs⟩ := id hrS
  obtain ⟨hwT, ⟨hwC, hwG⟩, ⟨wb0, wb1⟩, wk0, wk1, wL, ⟨wN, wsn⟩, wcr, wcr0⟩ := id hw
  obtain ⟨wt0, wtk, wtt, wtf⟩ := id hwT
  obtain ⟨wc0, wcs, wcf⟩ := id hwC
  refine A_aload_n dX7_quiet_0 rfl ?_
  refine A_iload_n dX7_quiet_1 rfl ?_
  refine A_vI1 (mj := mX7_isDesk) dX7_quiet_2 hR.rm (by decide) ok_X7_isDesk mv_X7_isDesk ml_RX7_106 (by assumption) rfl rfl rfl (x_isDesk hO hY hw) (fun z2 M2 g2 k2 q2 => ?_)
  obtain ⟨e2, z2r, q2⟩ := q2
  subst M2
  refine A_if_eq (tgt := 16) dX7_quiet_5 (by decide) (fun h5 => ?_) (fun h5 => ?_)
  · skip
    refine A_bipush dX7_quiet_16 bp_m2 (by decide) ?_
    exact A_iret hR dX7_quiet_18 rfl ⟨_, rfl, hY, frX_r, by unfold R_quiet; rw [if_neg (fun q => by first | (have := q2.mpr q.1; omega) | (have := q10.mpr q.2; omega))]⟩
  · skip
    refine A_aload_n dX7_quiet_8 rfl ?_
    refine A_iload_n dX7_quiet_9 rfl ?_
    refine A_vI1 (mj := mX7_isDesk) dX7_quiet_10 hR.rm (by decide) ok_X7_isDesk mv_X7_isDesk ml_RX7_106 (by assumption) rfl rfl rfl (x_isDesk hO hY hw) (fun z10 M10 g10 k10 q10 => ?_)
    obtain ⟨e10, z10r, q10⟩ := q10
    subst M10
    refine A_if_ne (tgt := 19) dX7_quiet_13 (by decide) (fun h13 => ?_) (fun h13 => ?_)
    · skip
      have ha : 0 ≤ a ∧ a < oD (sT S) := q2.mp (by omega)
      have hb : 0 ≤ b ∧ b < oD (sT S) := q10.mp (by omega)
      refine A_aload_n dX7_quiet_19 rfl ?_
      refine A_getR dX7_quiet_20 fl_RX7_56 (by assumption) (by rfl) ?_
      refine A_iload_n dX7_quiet_23 rfl ?_
      refine A_iload_n dX7_quiet_24 rfl ?_
      refine A_iconst dX7_quiet_25 (by decide) ?_
      refine A_vI3 (mj := mX2_fewestTrails) dX7_quiet_26 hR.rm (by decide) ok_X2_fewestTrails mv_X2_fewestTrails ml_RX7_219 (by assumption) rfl rfl rfl (c_fewest (q := 1) pF pT pN (by omega) (by omega) hrT hrC hwT hwC hwG ha hb) (fun z26 M26 g26 k26 q26 => ?_)
      obtain ⟨y1, y2⟩ := q26
      exact A_iret hR dX7_quiet_29 rfl ⟨_, rfl, (rX_fr hY (fun y hy => y1 y (by omega))).1, (rX_fr hY (fun y hy => y1 y (by omega))).2, by unfold R_quiet; rw [if_pos ⟨ha, hb⟩]; exact y2⟩
    · skip
      refine A_bipush dX7_quiet_16 bp_m2 (by decide) ?_
      exact A_iret hR dX7_quiet_18 rfl ⟨_, rfl, hY, frX_r, by unfold R_quiet; rw [if_neg (fun q => by first | (have := q2.mpr q.1; omega) | (have := q10.mpr q.2; omega))]⟩

set_option maxRecDepth 100000 in
set_option maxHeartbeats 4000000 in
theorem x_smear {E : EN} {l : Launch} {M : Mem} {S : GS} (hO : isApp E) (hY : rX M S) (hw : wS S) {f t w : Int} : Cn E l mX7_smear 6 [vR 0, vI f, vI t, vI w] M (fun r M1 => ∃ z, r = vI z ∧ (rX M1 (S) ∧ frX M M1 ∧ z = f_smear S f t w)) := by
  refine Cn.of (by decide) rfl (Nat.le_of_ble_eq_true rfl) 0 rfl (fun oka okm G hR => ?_)
  obtain ⟨p0, pX, pT, pD, pN, p28, pk0, pk1, p45, pF, pS, pR, p11⟩ := id hO
  obtain ⟨b0, b1, b2, b3, b4, b5, b6, b7⟩ := id pT
  obtain ⟨d0, d1, d2, d3, d4, d5, d6, d7⟩ := id pN
  obtain ⟨f0, fC, f9, f10, f11, f12⟩ := id pF
  obtain ⟨g0, gp1, gp2, gp3⟩ := id pS
  obtain ⟨h0', h1'⟩ := id pR
  obtain ⟨xt0, xt1⟩ := id pX
  obtain ⟨hrT, hrC, hk0, hk1, ⟨hb0, hb1⟩, ⟨hL, hX⟩, hrS, hcr⟩ := id hY
  obtain ⟨⟨t0, t1, t2, t3, t4⟩, tk, tt, tf⟩ := id hrT
  obtain ⟨⟨n0, n1, n2, n3⟩, ns, nf⟩ := id hrC
  obtain ⟨⟨r0, r1⟩, rs⟩ := id hrS
  obtain ⟨hwT, ⟨hwC, hwG⟩, ⟨wb0, wb1⟩, wk0, wk1, wL, ⟨wN, wsn⟩, wcr, wcr0⟩ := id hw
  obtain ⟨wt0, wtk, wtt, wtf⟩ := id hwT
  obtain ⟨wc0, wcs, wcf⟩ := id hwC
  refine A_aload_n dX7_smear_0 rfl ?_
  refine A_iload_n dX7_smear_1 rfl ?_
  refine A_vI1 (mj := mX7_isFile) dX7_smear_2 hR.rm (by decide) ok_X7_isFile mv_X7_isFile ml_RX7_137 (by assumption) rfl rfl rfl (x_isFile hO hY hw) (fun z2 M2 g2 k2 q2 => ?_)
  obtain ⟨e2, z2r, q2⟩ := q2
  subst M2
  refine A_if_ne (tgt := 11) dX7_smear_5 (by decide) (fun h5 => ?_) (fun h5 => ?_)
  · skip
    have dt : 0 ≤ f ∧ f < oF (sT S) := q2.mp (by omega)
    obtain ⟨f, rfl⟩ : ∃ j : Nat, f = j := ⟨f.toNat, by omega⟩
    refine A_iload_n dX7_smear_11 rfl ?_
    refine A_iconst dX7_smear_12 (by decide) ?_
    refine A_icmp_lt (tgt := 31) dX7_smear_13 (by decide) (fun h13 => ?_) (fun h13 => ?_)
    · skip
      refine A_bipush dX7_smear_31 bp_m3 (by decide) ?_
      exact A_iret hR dX7_smear_33 rfl ⟨_, rfl, hY, frX_r, by unfold f_smear; rw [if_pos dt, if_neg (by omega)]⟩
    · skip
      refine A_iload_n dX7_smear_16 rfl ?_
      refine A_bipush dX7_smear_17 bp_99 (by decide) ?_
      refine A_icmp_gt (tgt := 31) dX7_smear_19 (by decide) (fun h19 => ?_) (fun h19 => ?_)
      · skip
        refine A_bipush dX7_smear_31 bp_m3 (by decide) ?_
        exact A_iret hR dX7_smear_33 rfl ⟨_, rfl, hY, frX_r, by unfold f_smear; rw [if_pos dt, if_neg (by omega)]⟩
      · skip
        refine A_iload_n dX7_smear_22 rfl ?_
        refine A_if_lt (tgt := 31) dX7_smear_23 (by decide) (fun h23 => ?_) (fun h23 => ?_)
        · skip
          refine A_bipush dX7_smear_31 bp_m3 (by decide) ?_
          exact A_iret hR dX7_smear_33 rfl ⟨_, rfl, hY, frX_r, by unfold f_smear; rw [if_pos dt, if_neg (by omega)]⟩
        · skip
          refine A_iload_n dX7_smear_26 rfl ?_
          refine A_iconst dX7_smear_27 (by decide) ?_
          refine A_icmp_le (tgt := 34) dX7_smear_28 (by decide) (fun h28 => ?_) (fun h28 => ?_)
          · skip
            have da : (1 ≤ t ∧ t ≤ 99) ∧ 0 ≤ w ∧ w ≤ 2 := by omega
            obtain ⟨t, rfl⟩ : ∃ j : Nat, t = j := ⟨t.toNat, by omega⟩
            refine A_aload_n dX7_smear_34 rfl ?_
            refine A_getR dX7_smear_35 fl_RX7_35 (by assumption) (by rfl) ?_
            refine A_iload_n dX7_smear_38 rfl ?_
            refine A_vI1 (mj := mX0_isFiled) dX7_smear_39 hR.rm (by decide) ok_X0_isFiled mv_X0_isFiled ml_RX7_176 (by assumption) rfl rfl rfl (c_isFiled pN (by omega) (by omega)) (fun z39 M39 g39 k39 q39 => ?_)
            obtain ⟨e39, q39a, q39b⟩ := q39
            subst M39
            rw [(nf f (by omega) (by omega)).2.2.2] at q39b
            refine A_if_eq (tgt := 48) dX7_smear_42 (by decide) (fun h42 => ?_) (fun h42 => ?_)
            · skip
              refine A_aload_n dX7_smear_48 rfl ?_
              refine A_getR dX7_smear_49 fl_RX7_56 (by assumption) (by rfl) ?_
              refine A_iload_n dX7_smear_52 rfl ?_
              refine A_iload_n dX7_smear_53 rfl ?_
              refine A_vV2 (mj := mX2_findSmear) dX7_smear_54 hR.rm (by decide) ok_X2_findSmear mv_X2_findSmear ml_RX7_212 (by assumption) rfl rfl rfl (c_findSmear (g := f) (m := t) pF pT pN (by omega) (by omega) hrT hrC hwT hwC hwG (by omega) (by omega) (by omega) (by omega)) (fun M54 k54 q54 => ?_)
              obtain ⟨y1, y2, y3⟩ := q54
              refine A_aload_n dX7_smear_57 rfl ?_
              refine A_getR dX7_smear_58 fl_RX7_56 (by assumption) (by rfl) ?_
              refine A_getR dX7_smear_61 fl_RX7_216 (by assumption) (by rfl) ?_
              refine A_iload_n dX7_smear_64 rfl ?_
              refine A_iald dX7_smear_65 (by assumption) (by omega) (by omega) ?_
              exact A_iret hR dX7_smear_66 rfl (by
      refine ⟨_, rfl, (rX_fr hY (fun y hy => y1 y (by omega))).1, (rX_fr hY (fun y hy => y1 y (by omega))).2, ?_⟩
      unfold f_smear
      rw [if_pos dt, if_pos da, if_pos (by omega), Int.toNat_natCast]
      by_cases e : bsm (sT S) (sC S) f t (100 * oT (sT S)) = -1
      · rw [if_pos e]
        have q := y2 e
        rcases (show w = 0 ∨ w = 1 ∨ w = 2 by omega) with rfl | rfl | rfl
        · exact q.1
        · exact q.2.1
        · exact q.2.2
      · rw [if_neg e]
        have q := y3 e
        rcases (show w = 0 ∨ w = 1 ∨ w = 2 by omega) with rfl | rfl | rfl
        · rw [if_pos rfl]; exact q.1
        · rw [if_neg (by decide), if_pos rfl]; exact q.2.1
        · rw [if_neg (by decide), if_neg (by decide)]; exact q.2.2)
            · skip
              refine A_bipush dX7_smear_45 bp_m4 (by decide) ?_
              exact A_iret hR dX7_smear_47 rfl ⟨_, rfl, hY, frX_r, by unfold f_smear; rw [if_pos dt, if_pos da, if_neg (by omega)]⟩
          · skip
            refine A_bipush dX7_smear_31 bp_m3 (by decide) ?_
            exact A_iret hR dX7_smear_33 rfl ⟨_, rfl, hY, frX_r, by unfold f_smear; rw [if_pos dt, if_neg (by omega)]⟩
  · skip
    refine A_bipush dX7_smear_8 bp_m2 (by decide) ?_
    exact A_iret hR dX7_smear_10 rfl ⟨_, rfl, hY, frX_r, by unfold f_smear; rw [if_neg (fun q => by have := q2.mpr q; omega)]⟩

set_option maxRecDepth 100000 in
set_option maxHeartbeats 4000000 in
theorem x_honey {E : EN} {l : Launch} {M : Mem} {S : GS} (hO : isApp E) (hY : rX M S) (hw : wS S) {s n i : Int} : Cn E l mX7_honey 11 [vR 0, vI s, vI n, vI i] M (fun r M1 => ∃ z, r = vI z ∧ (rX M1 S ∧ frX M M1 ∧ R_honey S s n i z)) := by
  refine Cn.of (by decide) rfl (Nat.le_of_ble_eq_true rfl) 2 rfl (fun oka okm G hR => ?_)
  obtain ⟨p0, pX, pT, pD, pN, p28, pk0, pk1, p45, pF, pS, pR, p11⟩ := id hO
  obtain ⟨b0, b1, b2, b3, b4, b5, b6, b7⟩ := id pT
  obtain ⟨d0, d1, d2, d3, d4, d5, d6, d7⟩ := id pN
  obtain ⟨f0, fC, f9, f10, f11, f12⟩ := id pF
  obtain ⟨g0, gp1, gp2, gp3⟩ := id pS
  obtain ⟨h0', h1'⟩ := id pR
  obtain ⟨xt0, xt1⟩ := id pX
  obtain ⟨hrT, hrC, hk0, hk1, ⟨hb0, hb1⟩, ⟨hL, hX⟩, hrS, hcr⟩ := id hY
  obtain ⟨⟨t0, t1, t2, t3, t4⟩, tk, tt, tf⟩ := id hrT
  obtain ⟨⟨n0, n1, n2, n3⟩, ns, nf⟩ := id hrC
  obtain ⟨⟨r0, r1⟩, rs⟩ := id hrS
  obtain ⟨hwT, ⟨hwC, hwG⟩, ⟨wb0, wb1⟩, wk0, wk1, wL, ⟨wN, wsn⟩, wcr, wcr0⟩ := id hw
  obtain ⟨wt0, wtk, wtt, wtf⟩ := id hwT
  obtain ⟨wc0, wcs, wcf⟩ := id hwC
  have p6 : 2 ^ oF (sT S) ≤ 2 ^ 6 := p2_le (by omega)
  have p61 : (0 : Int) ≤ ((2 ^ oF (sT S) : Nat) : Int) := Int.natCast_nonneg _
  have rs0 : rng s := oka (vI s) (by simp)
  refine A_iload_n dX7_honey_0 rfl ?_
  refine A_if_lt (tgt := 16) dX7_honey_1 (by decide) (fun h1 => ?_) (fun h1 => ?_)
  · skip
    refine A_bipush dX7_honey_16 bp_m2 (by decide) ?_
    exact A_iret hR dX7_honey_18 rfl (by refine ⟨_, rfl, hY, frX_r, ?_⟩; unfold R_honey; rw [if_neg (fun q => by first | omega | (have := dv.mpr (by omega); omega))])
  · skip
    obtain ⟨s, rfl⟩ : ∃ j : Nat, s = j := ⟨s.toNat, by omega⟩
    have sl : s < 2147483648 := by have := rs0.2; omega
    have dv : s / 2 ^ oF (sT S) = 0 ↔ s < 2 ^ oF (sT S) := Nat.div_eq_zero_iff_lt (Nat.two_pow_pos _)
    refine A_iload_n dX7_honey_4 rfl ?_
    refine A_aload_n dX7_honey_5 rfl ?_
    refine A_getR dX7_honey_6 fl_RX7_19 (by assumption) (by rfl) ?_
    refine A_getI (ki := 2) dX7_honey_9 fl_RX7_114 (by assumption) (by rfl) rfl ?_
    rw [t2]
    refine A_ishr (z := ((s / 2 ^ oF (sT S) : Nat) : Int)) dX7_honey_12 (b_shrG sl (by omega)) (rng_n (Nat.div_le_self _ _) sl) ?_
    refine A_if_eq (tgt := 19) dX7_honey_13 (by decide) (fun h13 => ?_) (fun h13 => ?_)
    · skip
      have hs : s < 2 ^ oF (sT S) := dv.mp (by omega)
      have dt : 0 ≤ (s : Int) ∧ (s : Int) < ((2 ^ oF (sT S) : Nat) : Int) := ⟨by omega, by omega⟩
      refine A_iload_n dX7_honey_19 rfl ?_
      refine A_iconst dX7_honey_20 (by decide) ?_
      refine A_icmp_lt (tgt := 35) dX7_honey_21 (by decide) (fun h21 => ?_) (fun h21 => ?_)
      · skip
        refine A_bipush dX7_honey_35 bp_m3 (by decide) ?_
        exact A_iret hR dX7_honey_37 rfl ⟨_, rfl, hY, frX_r, by unfold R_honey; rw [if_pos dt, if_neg (by omega)]⟩
      · skip
        refine A_iload_n dX7_honey_24 rfl ?_
        refine A_bipush dX7_honey_25 bp_60 (by decide) ?_
        refine A_icmp_gt (tgt := 35) dX7_honey_27 (by decide) (fun h27 => ?_) (fun h27 => ?_)
        · skip
          refine A_bipush dX7_honey_35 bp_m3 (by decide) ?_
          exact A_iret hR dX7_honey_37 rfl ⟨_, rfl, hY, frX_r, by unfold R_honey; rw [if_pos dt, if_neg (by omega)]⟩
        · skip
          refine A_iload_n dX7_honey_30 rfl ?_
          refine A_iconst dX7_honey_31 (by decide) ?_
          refine A_icmp_ge (tgt := 38) dX7_honey_32 (by decide) (fun h32 => ?_) (fun h32 => ?_)
          · skip
            obtain ⟨n, rfl⟩ : ∃ j : Nat, n = j := ⟨n.toNat, by omega⟩
            have da : (1 ≤ (n : Int) ∧ (n : Int) ≤ 60) ∧ -1 ≤ i := by omega
            have f6 := fs64 (F := csF (sC S)) hwT
            refine A_iload_n dX7_honey_38 rfl ?_
            refine A_sI1 (mj := mJ6_bitCount_0f7a4) dX7_honey_39 hR.rm (by decide) ok_J6_bitCount_0f7a4 st_J6_bitCount_0f7a4 ml_RX7_201 rfl (c_bitCount (x := s) (by omega)) (fun z39 M39 g39 k39 q39 => ?_)
            obtain ⟨e39, q39⟩ := q39
            subst M39
            rw [pop_rk hs (by omega)] at q39
            subst z39
            refine A_istore dX7_honey_42 (by decide) rfl ?_
            refine A_iload dX7_honey_44 rfl ?_
            refine A_iconst dX7_honey_46 (by decide) ?_
            refine A_icmp_gt (tgt := 62) dX7_honey_47 (by decide) (fun h47 => ?_) (fun h47 => ?_)
            · skip
              refine A_bipush dX7_honey_62 bp_m4 (by decide) ?_
              exact A_iret hR dX7_honey_64 rfl ⟨_, rfl, hY, frX_r, by unfold R_honey; rw [if_pos dt, if_pos da, Int.toNat_natCast, if_neg (by omega)]⟩
            · skip
              refine A_iload_n dX7_honey_50 rfl ?_
              refine A_aload_n dX7_honey_51 rfl ?_
              refine A_getR dX7_honey_52 fl_RX7_35 (by assumption) (by rfl) ?_
              refine A_getI (ki := 3) dX7_honey_55 fl_RX7_198 (by assumption) (by rfl) rfl ?_
              rw [n3]
              refine A_iand (z := ((s &&& fsN (csF (sC S)) (oF (sT S)) : Nat) : Int)) dX7_honey_58 (b_and _ _) (rng64 (Nat.lt_of_le_of_lt Nat.and_le_left (by omega))) ?_
              refine A_if_eq (tgt := 65) dX7_honey_59 (by decide) (fun h59 => ?_) (fun h59 => ?_)
              · skip
                have h49 : rkN s (oF (sT S)) ≤ 4 := by omega
                have hsf : s &&& fsN (csF (sC S)) (oF (sT S)) = 0 := by omega
                have hun : ∀ g : Nat, g < oF (sT S) → s.testBit g = true → csF (sC S) g = -1 := fun g g1 g2 => by
                  have e : (s &&& fsN (csF (sC S)) (oF (sT S))).testBit g = false := by rw [hsf]; exact Nat.zero_testBit g
                  rw [Nat.testBit_and, g2, (fsN_bit (csF (sC S)) (oF (sT S))).2] at e
                  simp [g1] at e
                  exact e
                refine A_iload_n dX7_honey_65 rfl ?_
                refine A_iload dX7_honey_66 rfl ?_
                refine A_icmp_lt (tgt := 73) dX7_honey_68 (by decide) (fun h68 => ?_) (fun h68 => ?_)
                · skip
                  refine A_aload_n dX7_honey_73 rfl ?_
                  refine A_getR dX7_honey_74 fl_RX7_56 (by assumption) (by rfl) ?_
                  refine A_iload_n dX7_honey_77 rfl ?_
                  refine A_iload_n dX7_honey_78 rfl ?_
                  refine A_vI2 (mj := mX2_leastHoney) dX7_honey_79 hR.rm (by decide) ok_X2_leastHoney mv_X2_leastHoney ml_RX7_206 (by assumption) rfl rfl rfl (c_leastHoney (s := s) (m := n) pF pT pN (by omega) (by omega) hrT hrC hwT hwC hwG h49 hs (by omega) hun) (fun z79 M79 g79 k79 q79 => ?_)
                  obtain ⟨y1, y2⟩ := q79
                  refine A_istore dX7_honey_82 (by decide) rfl ?_
                  refine A_iload dX7_honey_84 rfl ?_
                  refine A_iconst dX7_honey_86 (by decide) ?_
                  refine A_icmp_eq (tgt := 95) dX7_honey_87 (by decide) (fun h87 => ?_) (fun h87 => ?_)
                  · skip
                    refine A_iload dX7_honey_95 rfl ?_
                    refine A_goto (tgt := 109) dX7_honey_97 (by decide) ?_
                    exact A_iret hR dX7_honey_109 rfl (by
      refine ⟨_, rfl, (rX_fr hY (fun y hy => y1 y (by omega))).1, (rX_fr hY (fun y hy => y1 y (by omega))).2, ?_⟩
      unfold R_honey
      rw [if_pos dt, if_pos da, Int.toNat_natCast, Int.toNat_natCast, if_pos ⟨h49, hsf⟩, if_neg (by omega)]
      refine ⟨_, _, y2, ?_⟩
      first
      | (rw [if_pos (by omega)]; omega)
      | rw [if_neg (by omega), if_pos (by omega)]
      | rw [if_neg (by omega), if_neg (by omega)])
                  · skip
                    refine A_iload_n dX7_honey_90 rfl ?_
                    refine A_iconst dX7_honey_91 (by decide) ?_
                    refine A_icmp_ne (tgt := 100) dX7_honey_92 (by decide) (fun h92 => ?_) (fun h92 => ?_)
                    · skip
                      refine A_aload_n dX7_honey_100 rfl ?_
                      refine A_getR dX7_honey_101 fl_RX7_56 (by assumption) (by rfl) ?_
                      refine A_getR dX7_honey_104 fl_RX7_209 (by assumption) (by rfl) ?_
                      refine A_iload_n dX7_honey_107 rfl ?_
                      refine A_iald dX7_honey_108 (by assumption) (by omega) (by omega) ?_
                      exact A_iret hR dX7_honey_109 rfl (by
      refine ⟨_, rfl, (rX_fr hY (fun y hy => y1 y (by omega))).1, (rX_fr hY (fun y hy => y1 y (by omega))).2, ?_⟩
      unfold R_honey
      rw [if_pos dt, if_pos da, Int.toNat_natCast, Int.toNat_natCast, if_pos ⟨h49, hsf⟩, if_neg (by omega)]
      refine ⟨_, _, y2, ?_⟩
      first
      | (rw [if_pos (by omega)]; omega)
      | rw [if_neg (by omega), if_pos (by omega)]
      | rw [if_neg (by omega), if_neg (by omega)])
                    · skip
                      refine A_iload dX7_honey_95 rfl ?_
                      refine A_goto (tgt := 109) dX7_honey_97 (by decide) ?_
                      exact A_iret hR dX7_honey_109 rfl (by
      refine ⟨_, rfl, (rX_fr hY (fun y hy => y1 y (by omega))).1, (rX_fr hY (fun y hy => y1 y (by omega))).2, ?_⟩
      unfold R_honey
      rw [if_pos dt, if_pos da, Int.toNat_natCast, Int.toNat_natCast, if_pos ⟨h49, hsf⟩, if_neg (by omega)]
      refine ⟨_, _, y2, ?_⟩
      first
      | (rw [if_pos (by omega)]; omega)
      | rw [if_neg (by omega), if_pos (by omega)]
      | rw [if_neg (by omega), if_neg (by omega)])
                · skip
                  refine A_iconst dX7_honey_71 (by decide) ?_
                  exact A_iret hR dX7_honey_72 rfl ⟨_, rfl, hY, frX_r, by unfold R_honey; rw [if_pos dt, if_pos da, Int.toNat_natCast, Int.toNat_natCast, if_pos ⟨h49, hsf⟩, if_pos (by omega)]⟩
              · skip
                refine A_bipush dX7_honey_62 bp_m4 (by decide) ?_
                exact A_iret hR dX7_honey_64 rfl ⟨_, rfl, hY, frX_r, by unfold R_honey; rw [if_pos dt, if_pos da, Int.toNat_natCast, if_neg (by omega)]⟩
          · skip
            refine A_bipush dX7_honey_35 bp_m3 (by decide) ?_
            exact A_iret hR dX7_honey_37 rfl ⟨_, rfl, hY, frX_r, by unfold R_honey; rw [if_pos dt, if_neg (by omega)]⟩
    · skip
      refine A_bipush dX7_honey_16 bp_m2 (by decide) ?_
      exact A_iret hR dX7_honey_18 rfl (by refine ⟨_, rfl, hY, frX_r, ?_⟩; unfold R_honey; rw [if_neg (fun q => by first | omega | (have := dv.mpr (by omega); omega))])

