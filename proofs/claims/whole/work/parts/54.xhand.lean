/-! SUGARSTAMPS: by hand -/
theorem rC_up {M M1 : Mem} {T : TD} {C C' : CS} (h : rC M 20 T C) (h0 : M1 20 0 = csW C' ∧ M1 20 1 = csG C' ∧ M1 20 2 = csQ C') (h3 : M1 20 3 = M 20 3) (e : csF C' = csF C) (h4 : ∀ k : Int, 0 ≤ k → k < oT T → M1 (20 + 1) k = csS C' k) (h5 : ∀ k : Int, 0 ≤ k → k < oF T → M1 (20 + 2) k = csA C' k ∧ M1 (20 + 3) k = csSw C' k ∧ M1 (20 + 4) k = csC C' k ∧ M1 (20 + 5) k = csF C' k) : rC M1 20 T C' := ⟨⟨h0.1, h0.2.1, h0.2.2, by rw [h3, e]; exact h.1.2.2.2⟩, h4, h5⟩
set_option maxRecDepth 100000 in
set_option maxHeartbeats 4000000 in
theorem x_spill {E : EN} {l : Launch} {M : Mem} {S : GS} (hO : isApp E) (hY : rX M S) (hw : wS S) {t v : Int} : Cn E l mX7_spill 1 [vR 0, vI t, vI v] M (fun r M1 => ∃ z, r = vI z ∧ (rX M1 (g_spill S t v) ∧ frX M M1 ∧ z = f_spill S t v)) := by
  refine Cn.of (by decide) rfl (Nat.le_of_ble_eq_true rfl) 1 rfl (fun oka okm G hR => ?_)
  obtain ⟨p0, pX, pT, pD, pN, p28, pk0, pk1, p45, pF, pS, pR, p11⟩ := id hO
  obtain ⟨b0, b1, b2, b3, b4, b5, b6, b7⟩ := id pT
  obtain ⟨d0, d1, d2, d3, d4, d5, d6, d7⟩ := id pN
  obtain ⟨f0, fC, f9, f10, f11, f12⟩ := id pF
  obtain ⟨g0, gp1, gp2, gp3⟩ := id pS
  obtain ⟨h0', h1'⟩ := id pR
  obtain ⟨xt0, xt1⟩ := id pX
  obtain ⟨hrT, hrC, hk0, hk1, ⟨hb0, hb1⟩, ⟨hL, hX⟩, hrS, hcr⟩ := id hY
  obtain ⟨⟨t0, t1, t2, t3, t4⟩, tk, tt, tf⟩ := id hrT
  obtain ⟨⟨n0, n1, n2, n3⟩, ns, nf⟩ := id hrC
  obtain ⟨⟨r0, r1⟩, rs⟩ := id hrS
  obtain ⟨hwT, ⟨hwC, hwG⟩, ⟨wb0, wb1⟩, wk0, wk1, wL, ⟨wN, wsn⟩, wcr, wcr0⟩ := id hw
  obtain ⟨wt0, wtk, wtt, wtf⟩ := id hwT
  obtain ⟨wc0, wcs, wcf⟩ := id hwC
  refine A_aload_n dX7_spill_0 rfl ?_
  refine A_iload_n dX7_spill_1 rfl ?_
  refine A_vI1 (mj := mX7_isTrail) dX7_spill_2 hR.rm (by decide) ok_X7_isTrail mv_X7_isTrail ml_RX7_125 (by assumption) rfl rfl rfl (x_isTrail hO hY hw) (fun z2 M2 g2 k2 q2 => ?_)
  obtain ⟨e2, z2r, q2⟩ := q2
  subst M2
  refine A_if_ne (tgt := 11) dX7_spill_5 (by decide) (fun h5 => ?_) (fun h5 => ?_)
  · skip
    have dt : 0 ≤ t ∧ t < oT (sT S) := q2.mp (by omega)
    refine A_iload_n dX7_spill_11 rfl ?_
    refine A_if_lt (tgt := 21) dX7_spill_12 (by decide) (fun h12 => ?_) (fun h12 => ?_)
    · skip
      refine A_bipush dX7_spill_21 bp_m3 (by decide) ?_
      exact A_iret hR dX7_spill_23 rfl ⟨_, rfl, by unfold g_spill; rw [if_neg (by omega)]; exact hY, frX_r, by unfold f_spill; rw [if_pos dt, if_neg (by omega)]⟩
    · skip
      refine A_iload_n dX7_spill_15 rfl ?_
      refine A_bipush dX7_spill_16 bp_99 (by decide) ?_
      refine A_icmp_le (tgt := 24) dX7_spill_18 (by decide) (fun h18 => ?_) (fun h18 => ?_)
      · skip
        have da : 0 ≤ v ∧ v ≤ 99 := by omega
        refine A_aload_n dX7_spill_24 rfl ?_
        refine A_getR dX7_spill_25 fl_RX7_35 (by assumption) (by rfl) ?_
        refine A_getR dX7_spill_28 fl_RX7_134 (by assumption) (by rfl) ?_
        refine A_iload_n dX7_spill_31 rfl ?_
        refine A_iald dX7_spill_32 (by assumption) (by omega) (by omega) ?_
        rw [ns t (by omega) (by omega)]
        refine A_istore_n dX7_spill_33 (by decide) rfl ?_
        refine A_aload_n dX7_spill_34 rfl ?_
        refine A_getR dX7_spill_35 fl_RX7_35 (by assumption) (by rfl) ?_
        refine A_getR dX7_spill_38 fl_RX7_134 (by assumption) (by rfl) ?_
        refine A_iload_n dX7_spill_41 rfl ?_
        refine A_iload_n dX7_spill_42 rfl ?_
        refine A_iast dX7_spill_43 (by assumption) (by omega) (by omega) (fun M43 e43 k43 => ?_)
        refine A_iload_n dX7_spill_44 rfl ?_
        exact A_iret hR dX7_spill_45 rfl (by
      have u3 := rX_uC (M1 := M43) (C := spC (sC S) t v) hY (fun y hy => by rw [e43, upm_c (by omega)]) (rC_up hrC ⟨by rw [e43, upm_c (by omega)]; exact n0, by rw [e43, upm_c (by omega)]; exact n1, by rw [e43, upm_c (by omega)]; exact n2⟩ (by rw [e43, upm_c (by omega)]) rfl (fun k x y => by
        show _ = if k = t then v else csS (sC S) k
        rw [e43, upm_x]
        by_cases q : k = t
        · rw [if_pos ⟨rfl, q⟩, if_pos q]
        · rw [if_neg (fun z => q z.2), if_neg q]; exact ns k x y) (fun k x y => by rw [e43, upm_c (by omega), upm_c (by omega), upm_c (by omega), upm_c (by omega)]; exact nf k x y))
      exact ⟨_, rfl, by unfold g_spill; rw [if_pos ⟨dt, da⟩]; exact u3.1, u3.2, by unfold f_spill; rw [if_pos dt, if_pos da]⟩)
      · skip
        refine A_bipush dX7_spill_21 bp_m3 (by decide) ?_
        exact A_iret hR dX7_spill_23 rfl ⟨_, rfl, by unfold g_spill; rw [if_neg (by omega)]; exact hY, frX_r, by unfold f_spill; rw [if_pos dt, if_neg (by omega)]⟩
  · skip
    refine A_bipush dX7_spill_8 bp_m2 (by decide) ?_
    exact A_iret hR dX7_spill_10 rfl ⟨_, rfl, by unfold g_spill; rw [if_neg (fun q => by have := q2.mpr q.1; omega)]; exact hY, frX_r, by unfold f_spill; rw [if_neg (fun q => by have := q2.mpr q; omega)]⟩

set_option maxRecDepth 100000 in
set_option maxHeartbeats 4000000 in
theorem x_stamp {E : EN} {l : Launch} {M : Mem} {S : GS} (hO : isApp E) (hY : rX M S) (hw : wS S) {f v : Int} : Cn E l mX7_stamp 1 [vR 0, vI f, vI v] M (fun r M1 => ∃ z, r = vI z ∧ (rX M1 (g_stamp S f v) ∧ frX M M1 ∧ z = f_stamp S f v)) := by
  refine Cn.of (by decide) rfl (Nat.le_of_ble_eq_true rfl) 1 rfl (fun oka okm G hR => ?_)
  obtain ⟨p0, pX, pT, pD, pN, p28, pk0, pk1, p45, pF, pS, pR, p11⟩ := id hO
  obtain ⟨b0, b1, b2, b3, b4, b5, b6, b7⟩ := id pT
  obtain ⟨d0, d1, d2, d3, d4, d5, d6, d7⟩ := id pN
  obtain ⟨f0, fC, f9, f10, f11, f12⟩ := id pF
  obtain ⟨g0, gp1, gp2, gp3⟩ := id pS
  obtain ⟨h0', h1'⟩ := id pR
  obtain ⟨xt0, xt1⟩ := id pX
  obtain ⟨hrT, hrC, hk0, hk1, ⟨hb0, hb1⟩, ⟨hL, hX⟩, hrS, hcr⟩ := id hY
  obtain ⟨⟨t0, t1, t2, t3, t4⟩, tk, tt, tf⟩ := id hrT
  obtain ⟨⟨n0, n1, n2, n3⟩, ns, nf⟩ := id hrC
  obtain ⟨⟨r0, r1⟩, rs⟩ := id hrS
  obtain ⟨hwT, ⟨hwC, hwG⟩, ⟨wb0, wb1⟩, wk0, wk1, wL, ⟨wN, wsn⟩, wcr, wcr0⟩ := id hw
  obtain ⟨wt0, wtk, wtt, wtf⟩ := id hwT
  obtain ⟨wc0, wcs, wcf⟩ := id hwC
  refine A_aload_n dX7_stamp_0 rfl ?_
  refine A_iload_n dX7_stamp_1 rfl ?_
  refine A_vI1 (mj := mX7_isFile) dX7_stamp_2 hR.rm (by decide) ok_X7_isFile mv_X7_isFile ml_RX7_137 (by assumption) rfl rfl rfl (x_isFile hO hY hw) (fun z2 M2 g2 k2 q2 => ?_)
  obtain ⟨e2, z2r, q2⟩ := q2
  subst M2
  refine A_if_ne (tgt := 11) dX7_stamp_5 (by decide) (fun h5 => ?_) (fun h5 => ?_)
  · skip
    have dt : 0 ≤ f ∧ f < oF (sT S) := q2.mp (by omega)
    have f1 := nf f (by omega) (by omega)
    refine A_iload_n dX7_stamp_11 rfl ?_
    refine A_if_lt (tgt := 21) dX7_stamp_12 (by decide) (fun h12 => ?_) (fun h12 => ?_)
    · skip
      refine A_bipush dX7_stamp_21 bp_m3 (by decide) ?_
      exact A_iret hR dX7_stamp_23 rfl ⟨_, rfl, by unfold g_stamp; rw [if_neg (by omega)]; exact hY, frX_r, by unfold f_stamp; rw [if_pos dt, if_neg (by omega)]⟩
    · skip
      refine A_iload_n dX7_stamp_15 rfl ?_
      refine A_bipush dX7_stamp_16 bp_9 (by decide) ?_
      refine A_icmp_le (tgt := 24) dX7_stamp_18 (by decide) (fun h18 => ?_) (fun h18 => ?_)
      · skip
        have da : 0 ≤ v ∧ v ≤ 9 := by omega
        refine A_aload_n dX7_stamp_24 rfl ?_
        refine A_getR dX7_stamp_25 fl_RX7_35 (by assumption) (by rfl) ?_
        refine A_iload_n dX7_stamp_28 rfl ?_
        refine A_vI1 (mj := mX0_isFiled) dX7_stamp_29 hR.rm (by decide) ok_X0_isFiled mv_X0_isFiled ml_RX7_176 (by assumption) rfl rfl rfl (c_isFiled pN (by omega) (by omega)) (fun z29 M29 g29 k29 q29 => ?_)
        obtain ⟨e29, q29a, q29b⟩ := q29
        subst M29
        rw [f1.2.2.2] at q29b
        refine A_if_eq (tgt := 38) dX7_stamp_32 (by decide) (fun h32 => ?_) (fun h32 => ?_)
        · skip
          refine A_aload_n dX7_stamp_38 rfl ?_
          refine A_getR dX7_stamp_39 fl_RX7_35 (by assumption) (by rfl) ?_
          refine A_getR dX7_stamp_42 fl_RX7_146 (by assumption) (by rfl) ?_
          refine A_iload_n dX7_stamp_45 rfl ?_
          refine A_iald dX7_stamp_46 (by assumption) (by omega) (by omega) ?_
          rw [f1.2.1]
          refine A_istore_n dX7_stamp_47 (by decide) rfl ?_
          refine A_aload_n dX7_stamp_48 rfl ?_
          refine A_getR dX7_stamp_49 fl_RX7_35 (by assumption) (by rfl) ?_
          refine A_getR dX7_stamp_52 fl_RX7_146 (by assumption) (by rfl) ?_
          refine A_iload_n dX7_stamp_55 rfl ?_
          refine A_iload_n dX7_stamp_56 rfl ?_
          refine A_iast dX7_stamp_57 (by assumption) (by omega) (by omega) (fun M57 e57 k57 => ?_)
          refine A_iload_n dX7_stamp_58 rfl ?_
          exact A_iret hR dX7_stamp_59 rfl (by
      have u3 := rX_uC (M1 := M57) (C := stC (sC S) f v) hY (fun y hy => by rw [e57, upm_c (by omega)]) (rC_up hrC ⟨by rw [e57, upm_c (by omega)]; exact n0, by rw [e57, upm_c (by omega)]; exact n1, by rw [e57, upm_c (by omega)]; exact n2⟩ (by rw [e57, upm_c (by omega)]) rfl (fun k x y => by rw [e57, upm_c (by omega)]; exact ns k x y) (fun k x y => by
        have q0 := nf k x y
        refine ⟨by rw [e57, upm_c (by omega)]; exact q0.1, ?_, by rw [e57, upm_c (by omega)]; exact q0.2.2.1, by rw [e57, upm_c (by omega)]; exact q0.2.2.2⟩
        show _ = if k = f then v else csSw (sC S) k
        rw [e57, upm_x]
        by_cases q : k = f
        · rw [if_pos ⟨rfl, q⟩, if_pos q]
        · rw [if_neg (fun z => q z.2), if_neg q]; exact q0.2.1))
      exact ⟨_, rfl, by unfold g_stamp; rw [if_pos ⟨dt, da, by omega⟩]; exact u3.1, u3.2, by unfold f_stamp; rw [if_pos dt, if_pos da, if_pos (by omega)]⟩)
        · skip
          refine A_bipush dX7_stamp_35 bp_m4 (by decide) ?_
          exact A_iret hR dX7_stamp_37 rfl ⟨_, rfl, by unfold g_stamp; rw [if_neg (by omega)]; exact hY, frX_r, by unfold f_stamp; rw [if_pos dt, if_pos da, if_neg (by omega)]⟩
      · skip
        refine A_bipush dX7_stamp_21 bp_m3 (by decide) ?_
        exact A_iret hR dX7_stamp_23 rfl ⟨_, rfl, by unfold g_stamp; rw [if_neg (by omega)]; exact hY, frX_r, by unfold f_stamp; rw [if_pos dt, if_neg (by omega)]⟩
  · skip
    refine A_bipush dX7_stamp_8 bp_m2 (by decide) ?_
    exact A_iret hR dX7_stamp_10 rfl ⟨_, rfl, by unfold g_stamp; rw [if_neg (fun q => by have := q2.mpr q.1; omega)]; exact hY, frX_r, by unfold f_stamp; rw [if_neg (fun q => by have := q2.mpr q; omega)]⟩

set_option maxRecDepth 100000 in
set_option maxHeartbeats 4000000 in
theorem x_rain {E : EN} {l : Launch} {M : Mem} {S : GS} (hO : isApp E) (hY : rX M S) (hw : wS S) : Cn E l mX7_rain 1 [vR 0] M (fun r M1 => ∃ z, r = vI z ∧ (rX M1 (uC S (rnC (sC S))) ∧ frX M M1 ∧ z = hvN (csS (sC S)) (oT (sT S)))) := by
  refine Cn.of (by decide) rfl (Nat.le_of_ble_eq_true rfl) 0 rfl (fun oka okm G hR => ?_)
  obtain ⟨p0, pX, pT, pD, pN, p28, pk0, pk1, p45, pF, pS, pR, p11⟩ := id hO
  obtain ⟨b0, b1, b2, b3, b4, b5, b6, b7⟩ := id pT
  obtain ⟨d0, d1, d2, d3, d4, d5, d6, d7⟩ := id pN
  obtain ⟨f0, fC, f9, f10, f11, f12⟩ := id pF
  obtain ⟨g0, gp1, gp2, gp3⟩ := id pS
  obtain ⟨h0', h1'⟩ := id pR
  obtain ⟨xt0, xt1⟩ := id pX
  obtain ⟨hrT, hrC, hk0, hk1, ⟨hb0, hb1⟩, ⟨hL, hX⟩, hrS, hcr⟩ := id hY
  obtain ⟨⟨t0, t1, t2, t3, t4⟩, tk, tt, tf⟩ := id hrT
  obtain ⟨⟨n0, n1, n2, n3⟩, ns, nf⟩ := id hrC
  obtain ⟨⟨r0, r1⟩, rs⟩ := id hrS
  obtain ⟨hwT, ⟨hwC, hwG⟩, ⟨wb0, wb1⟩, wk0, wk1, wL, ⟨wN, wsn⟩, wcr, wcr0⟩ := id hw
  obtain ⟨wt0, wtk, wtt, wtf⟩ := id hwT
  obtain ⟨wc0, wcs, wcf⟩ := id hwC
  refine A_aload_n dX7_rain_0 rfl ?_
  refine A_getR dX7_rain_1 fl_RX7_35 (by assumption) (by rfl) ?_
  refine A_aload_n dX7_rain_4 rfl ?_
  refine A_getR dX7_rain_5 fl_RX7_19 (by assumption) (by rfl) ?_
  refine A_getI (ki := 1) dX7_rain_8 fl_RX7_179 (by assumption) (by rfl) rfl ?_
  rw [t1]
  refine A_vI1 (mj := mX0_halveScents) dX7_rain_11 hR.rm (by decide) ok_X0_halveScents mv_X0_halveScents ml_RX7_182 (by assumption) rfl rfl rfl (c_halve (n := oT (sT S)) (S := csS (sC S)) pN (by omega) (fun k x y => ⟨ns k x y, (wcs k x y).1, (wcs k x y).2⟩)) (fun z11 M11 g11 k11 q11 => ?_)
  obtain ⟨y1, y2, y3⟩ := q11
  exact A_iret hR dX7_rain_14 rfl (by
      have u3 := rX_uC (M1 := M11) (C := rnC (sC S)) hY (fun y hy => y2 y (by omega)) (rC_up hrC ⟨by rw [y2 20 (by omega)]; exact n0, by rw [y2 20 (by omega)]; exact n1, by rw [y2 20 (by omega)]; exact n2⟩ (by rw [y2 20 (by omega)]) rfl y3 (fun k x y => by rw [y2 (20 + 2) (by omega), y2 (20 + 3) (by omega), y2 (20 + 4) (by omega), y2 (20 + 5) (by omega)]; exact nf k x y))
      exact ⟨_, rfl, u3.1, u3.2, y1⟩)

set_option maxRecDepth 100000 in
set_option maxHeartbeats 4000000 in
theorem x_sit {E : EN} {l : Launch} {M : Mem} {S : GS} (hO : isApp E) (hY : rX M S) (hw : wS S) {d : Int} : Cn E l mX7_sit 1 [vR 0, vI d] M (fun r M1 => ∃ z, r = vI z ∧ (rX M1 (g_sit S d) ∧ frX M M1 ∧ z = f_sit S d)) := by
  refine Cn.of (by decide) rfl (Nat.le_of_ble_eq_true rfl) 1 rfl (fun oka okm G hR => ?_)
  obtain ⟨p0, pX, pT, pD, pN, p28, pk0, pk1, p45, pF, pS, pR, p11⟩ := id hO
  obtain ⟨b0, b1, b2, b3, b4, b5, b6, b7⟩ := id pT
  obtain ⟨d0, d1, d2, d3, d4, d5, d6, d7⟩ := id pN
  obtain ⟨f0, fC, f9, f10, f11, f12⟩ := id pF
  obtain ⟨g0, gp1, gp2, gp3⟩ := id pS
  obtain ⟨h0', h1'⟩ := id pR
  obtain ⟨xt0, xt1⟩ := id pX
  obtain ⟨hrT, hrC, hk0, hk1, ⟨hb0, hb1⟩, ⟨hL, hX⟩, hrS, hcr⟩ := id hY
  obtain ⟨⟨t0, t1, t2, t3, t4⟩, tk, tt, tf⟩ := id hrT
  obtain ⟨⟨n0, n1, n2, n3⟩, ns, nf⟩ := id hrC
  obtain ⟨⟨r0, r1⟩, rs⟩ := id hrS
  obtain ⟨hwT, ⟨hwC, hwG⟩, ⟨wb0, wb1⟩, wk0, wk1, wL, ⟨wN, wsn⟩, wcr, wcr0⟩ := id hw
  obtain ⟨wt0, wtk, wtt, wtf⟩ := id hwT
  obtain ⟨wc0, wcs, wcf⟩ := id hwC
  have j16 : (d = -1 ∨ (0 ≤ d ∧ d < oD (sT S))) → AW E mX7_sit G 0 0 16 [vR 0, vI d, vU] [] M := by
    intro dt
    refine A_aload_n dX7_sit_16 rfl ?_
    refine A_getR dX7_sit_17 fl_RX7_35 (by assumption) (by rfl) ?_
    refine A_getI (ki := 2) dX7_sit_20 fl_RX7_185 (by assumption) (by rfl) rfl ?_
    rw [n2]
    refine A_istore_n dX7_sit_23 (by decide) rfl ?_
    refine A_aload_n dX7_sit_24 rfl ?_
    refine A_getR dX7_sit_25 fl_RX7_35 (by assumption) (by rfl) ?_
    refine A_iload_n dX7_sit_28 rfl ?_
    refine A_putI (ki := 2) dX7_sit_29 fl_RX7_185 fi0_2 (by assumption) (by rfl) rfl (fun M29 e29 k29 => ?_)
    refine A_iload_n dX7_sit_32 rfl ?_
    exact A_iret hR dX7_sit_33 rfl (by
      have u3 := rX_uC (M1 := M29) (C := siC (sC S) d) hY (fun y hy => by rw [e29, upm_c (by omega)]) (rC_up hrC ⟨by rw [e29, upm_k (by omega)]; exact n0, by rw [e29, upm_k (by omega)]; exact n1, by rw [e29, upm_s]; rfl⟩ (by rw [e29, upm_k (by omega)]) rfl (fun k x y => by rw [e29, upm_c (by omega)]; exact ns k x y) (fun k x y => by rw [e29, upm_c (by omega), upm_c (by omega), upm_c (by omega), upm_c (by omega)]; exact nf k x y))
      exact ⟨_, rfl, by unfold g_sit; rw [if_pos dt]; exact u3.1, u3.2, by unfold f_sit; rw [if_pos dt]⟩)
  refine A_iload_n dX7_sit_0 rfl ?_
  refine A_iconst dX7_sit_1 (by decide) ?_
  refine A_icmp_eq (tgt := 16) dX7_sit_2 (by decide) (fun h2 => ?_) (fun h2 => ?_)
  · skip
    first | exact j16 (Or.inl (by omega)) | exact j16 (Or.inr (q7.mp (by omega)))
  · skip
    refine A_aload_n dX7_sit_5 rfl ?_
    refine A_iload_n dX7_sit_6 rfl ?_
    refine A_vI1 (mj := mX7_isDesk) dX7_sit_7 hR.rm (by decide) ok_X7_isDesk mv_X7_isDesk ml_RX7_106 (by assumption) rfl rfl rfl (x_isDesk hO hY hw) (fun z7 M7 g7 k7 q7 => ?_)
    obtain ⟨e7, z7r, q7⟩ := q7
    subst M7
    refine A_if_ne (tgt := 16) dX7_sit_10 (by decide) (fun h10 => ?_) (fun h10 => ?_)
    · skip
      first | exact j16 (Or.inl (by omega)) | exact j16 (Or.inr (q7.mp (by omega)))
    · skip
      refine A_bipush dX7_sit_13 bp_m2 (by decide) ?_
      exact A_iret hR dX7_sit_15 rfl ⟨_, rfl, by unfold g_sit; rw [if_neg (fun q => q.elim (fun z => by omega) (fun z => by have := q7.mpr z; omega))]; exact hY, frX_r, by unfold f_sit; rw [if_neg (fun q => q.elim (fun z => by omega) (fun z => by have := q7.mpr z; omega))]⟩

set_option maxRecDepth 100000 in
set_option maxHeartbeats 4000000 in
theorem x_keep {E : EN} {l : Launch} {M : Mem} {S : GS} (hO : isApp E) (hY : rX M S) (hw : wS S) {k : Int} : Cn E l mX7_keep 2 [vR 0, vI k] M (fun r M1 => ∃ z, r = vI z ∧ (rX M1 (g_keep S k) ∧ frX M M1 ∧ z = f_keep S k)) := by
  refine Cn.of (by decide) rfl (Nat.le_of_ble_eq_true rfl) 0 rfl (fun oka okm G hR => ?_)
  obtain ⟨p0, pX, pT, pD, pN, p28, pk0, pk1, p45, pF, pS, pR, p11⟩ := id hO
  obtain ⟨b0, b1, b2, b3, b4, b5, b6, b7⟩ := id pT
  obtain ⟨d0, d1, d2, d3, d4, d5, d6, d7⟩ := id pN
  obtain ⟨f0, fC, f9, f10, f11, f12⟩ := id pF
  obtain ⟨g0, gp1, gp2, gp3⟩ := id pS
  obtain ⟨h0', h1'⟩ := id pR
  obtain ⟨xt0, xt1⟩ := id pX
  obtain ⟨hrT, hrC, hk0, hk1, ⟨hb0, hb1⟩, ⟨hL, hX⟩, hrS, hcr⟩ := id hY
  obtain ⟨⟨t0, t1, t2, t3, t4⟩, tk, tt, tf⟩ := id hrT
  obtain ⟨⟨n0, n1, n2, n3⟩, ns, nf⟩ := id hrC
  obtain ⟨⟨r0, r1⟩, rs⟩ := id hrS
  obtain ⟨hwT, ⟨hwC, hwG⟩, ⟨wb0, wb1⟩, wk0, wk1, wL, ⟨wN, wsn⟩, wcr, wcr0⟩ := id hw
  obtain ⟨wt0, wtk, wtt, wtf⟩ := id hwT
  obtain ⟨wc0, wcs, wcf⟩ := id hwC
  obtain ⟨ak0, -⟩ := id pk0
  obtain ⟨ak1, -⟩ := id pk1
  have j0 : ∀ (k : Int) (cc : Nat), (kAr k.toNat = some cc) → (k = k) → At E cc (.inl (0, [none, none, none, none, rf (cc + 1), rf (cc + 2), rf (cc + 3), rf (cc + 4), rf (cc + 5), rf (cc + 6), rf (cc + 7)])) → isCrs E cc → (k = 0 ∨ k = 1) → (29 ≤ cc ∧ cc + 8 ≤ 45) → (∀ M1 : Mem, (∀ y, ¬ (cc ≤ y ∧ y < cc + 8) ∧ y ≠ 45 → M1 y = M y) → rC M1 cc (sT S) (sC S) → (M1 45 = upm M 45 k 1 45) → rX M1 (g_keep S k) ∧ frX M M1) → Okr E l 2 G (fun r M1 => ∃ z, r = vI z ∧ (rX M1 (g_keep S k) ∧ frX M M1 ∧ z = f_keep S k)) → AW E mX7_keep G 0 0 0 [vR 0, vI k] [] M := by
    intro k cc hg _ hca hc hkk hcc hQ hR
    refine A_iload_n dX7_keep_0 rfl ?_
    refine A_if_lt (tgt := 9) dX7_keep_1 (by decide) (fun h1 => ?_) (fun h1 => ?_)
    · skip
      exfalso; omega
    · skip
      refine A_iload_n dX7_keep_4 rfl ?_
      refine A_iconst dX7_keep_5 (by decide) ?_
      refine A_icmp_lt (tgt := 12) dX7_keep_6 (by decide) (fun h6 => ?_) (fun h6 => ?_)
      · skip
        refine A_aload_n dX7_keep_12 rfl ?_
        refine A_getR dX7_keep_13 fl_RX7_43 (by assumption) (by rfl) ?_
        refine A_iload_n dX7_keep_16 rfl ?_
        refine A_aald dX7_keep_17 (by assumption) (by omega) (by omega) hg ?_
        refine A_aload_n dX7_keep_18 rfl ?_
        refine A_getR dX7_keep_19 fl_RX7_35 (by assumption) (by rfl) ?_
        refine A_vV1 (mj := mX0_takeFrom) dX7_keep_22 hR.rm (by decide) ok_X0_takeFrom mv_X0_takeFrom ml_RX7_188 (by assumption) rfl rfl rfl (c_takeC (c := cc) (s := 20) hc pN (by omega)) (fun M22 k22 q22 => ?_)
        obtain ⟨y1, y2, y3, y4⟩ := q22
        have f2 : rC M22 cc (sT S) (sC S) := rC_cp hrC y2 y3 y4 hwT
        refine A_aload_n dX7_keep_25 rfl ?_
        refine A_getR dX7_keep_26 fl_RX7_47 (by assumption) (by rfl) ?_
        refine A_iload_n dX7_keep_29 rfl ?_
        refine A_iconst dX7_keep_30 (by decide) ?_
        refine A_zast dX7_keep_31 (by first | exact Or.inl rfl | exact Or.inr rfl) (by assumption) (by omega) (by omega) (fun M31 e31 k31 => ?_)
        refine A_aload_n dX7_keep_32 rfl ?_
        refine A_getR dX7_keep_33 fl_RX7_35 (by assumption) (by rfl) ?_
        refine A_getI (ki := 1) dX7_keep_36 fl_RX7_162 (by assumption) (by rfl) rfl ?_
        rw [show M31 20 1 = csG (sC S) by rw [e31, upm_c (by omega), y1 20 (by omega)]; exact n1]
        exact A_iret hR dX7_keep_39 rfl (by
      have u := hQ M31 (fun y hy => by rw [e31, upm_c (by omega), y1 y (by omega)]) (rC_6 f2 (fun y ya yb => by rw [e31, upm_c (by omega)])) (by rw [e31]; funext j; rw [upm_x, upm_x, y1 45 (by omega)])
      exact ⟨_, rfl, u.1, u.2, by unfold f_keep; rw [if_pos (by omega)]⟩)
      · skip
        exfalso; omega
  rcases (show k = 0 ∨ k = 1 ∨ ¬ (0 ≤ k ∧ k ≤ 1) by omega) with rfl | rfl | hk
  · exact j0 0 29 rfl rfl ak0 pk0 (Or.inl rfl) (by omega) (fun M1 f1 f2 e45 => by
      have g := hY
      refine ⟨?_, fun y hy => f1 y (by omega)⟩
      unfold g_keep uK
      rw [if_pos (by omega), if_pos rfl]
      exact rX_of g rfl (fun y _ _ => f1 y (by omega)) (rC_6 hrC (fun y _ _ => f1 y (by omega))) (fun _ => f2) (fun z => rC_6 (hk1 z) (fun y _ _ => f1 y (by omega))) ⟨by rw [e45, upm_s], by rw [e45, upm_k (by omega)]; exact hb1⟩ (by rw [f1 1 (by omega), f1 2 (by omega)]; exact ⟨hL, hX⟩) (rS_fr hrS (fun y _ _ => f1 y (by omega))) (by rw [f1 64 (by omega)]; exact hcr)) hR
  · exact j0 1 37 rfl rfl ak1 pk1 (Or.inr rfl) (by omega) (fun M1 f1 f2 e45 => by
      have g := hY
      refine ⟨?_, fun y hy => f1 y (by omega)⟩
      unfold g_keep uK
      rw [if_pos (by omega), if_neg (by omega)]
      exact rX_of g rfl (fun y _ _ => f1 y (by omega)) (rC_6 hrC (fun y _ _ => f1 y (by omega))) (fun z => rC_6 (hk0 z) (fun y _ _ => f1 y (by omega))) (fun _ => f2) ⟨by rw [e45, upm_k (by omega)]; exact hb0, by rw [e45, upm_s]⟩ (by rw [f1 1 (by omega), f1 2 (by omega)]; exact ⟨hL, hX⟩) (rS_fr hrS (fun y _ _ => f1 y (by omega))) (by rw [f1 64 (by omega)]; exact hcr)) hR
  · skip
    refine A_iload_n dX7_keep_0 rfl ?_
    refine A_if_lt (tgt := 9) dX7_keep_1 (by decide) (fun h1 => ?_) (fun h1 => ?_)
    · skip
      refine A_bipush dX7_keep_9 bp_m2 (by decide) ?_
      exact A_iret hR dX7_keep_11 rfl ⟨_, rfl, by unfold g_keep; rw [if_neg (by omega)]; exact hY, frX_r, by unfold f_keep; rw [if_neg (by omega)]⟩
    · skip
      refine A_iload_n dX7_keep_4 rfl ?_
      refine A_iconst dX7_keep_5 (by decide) ?_
      refine A_icmp_lt (tgt := 12) dX7_keep_6 (by decide) (fun h6 => ?_) (fun h6 => ?_)
      · skip
        exact absurd (show 0 ≤ k ∧ k ≤ 1 by omega) hk
      · skip
        refine A_bipush dX7_keep_9 bp_m2 (by decide) ?_
        exact A_iret hR dX7_keep_11 rfl ⟨_, rfl, by unfold g_keep; rw [if_neg (by omega)]; exact hY, frX_r, by unfold f_keep; rw [if_neg (by omega)]⟩

