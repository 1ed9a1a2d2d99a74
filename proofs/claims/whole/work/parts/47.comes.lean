/-! THE MODEL's answers: what comes, and the queen -/
theorem uS_0 {M M1 : Mem} {m : Nat} {S : GS} {n : Nat} {a b c : Fn} (h : rY M m S) (e : ∀ y, y ≠ m → y ≠ m + 11 → M1 y = M y) (e0 : ∀ k : Int, k ≠ 23 → M1 m k = M m k) (hn : M1 m 23 = n) (hs : ∀ k : Int, 0 ≤ k → k < n → M1 (m + 11) (3 * k) = a k ∧ M1 (m + 11) (3 * k + 1) = b k ∧ M1 (m + 11) (3 * k + 2) = c k) : rY M1 m (uS S n a b c) ∧ frY M M1 m := by
  obtain ⟨⟨⟨a1, a2, a3, a4⟩, a5, a6, a7⟩, b1, b2, b3, b4, b5, b6, b7, b8⟩ := h
  have r1 : M1 (m + 1) = M (m + 1) := e _ (by omega) (by omega)
  refine ⟨⟨⟨⟨by rw [e0 6 (by omega)]; exact a1, by rw [e0 10 (by omega)]; exact a2, by rw [e0 12 (by omega)]; exact a3, by rw [e0 13 (by omega)]; exact a4⟩, by rw [e (m + 5) (by omega) (by omega)]; exact a5, by rw [e (m + 6) (by omega) (by omega), e (m + 7) (by omega) (by omega)]; exact a6, by rw [e (m + 8) (by omega) (by omega)]; exact a7⟩,
    rM_w b1 r1, fun z => rM_w (b2 z) r1, fun z => rM_w (b3 z) r1, rM_w b4 r1, by rw [e (m + 2) (by omega) (by omega)]; exact b5, by rw [e0 3 (by omega), e (m + 3) (by omega) (by omega)]; exact b6, ⟨hn, hs⟩, by rw [e (m + 12) (by omega) (by omega)]; exact b8⟩, fun y hy => e y (by omega) (by omega)⟩
def f_harm (S : GS) (d t : Int) : Int := if 0 ≤ d ∧ d < oD (sT S) then (if 1 ≤ t ∧ t ≤ 99 then 100 + (ffl (sT S) (sC S) (-1) t.toNat - ffl (sT S) (sC S) d t.toNat) else -3) else -2
def f_worst (S : GS) (t : Int) : Int := if 1 ≤ t ∧ t ≤ 99 then wsN (sT S) (sC S) t.toNat (oD (sT S) - 1) else -3
def f_seen (S : GS) (f d t : Int) : Int := if (0 ≤ f ∧ f < oF (sT S)) ∧ 0 ≤ d ∧ d < oD (sT S) then (if 0 ≤ t ∧ t ≤ 99 then (if sN S = 6 then -5 else sN S + 1) else -3) else -2
def sn1 (S : GS) (f d t : Int) : GS := uS S (sN S + 1) (fun k => if k = sN S then f else sFl S k) (fun k => if k = sN S then d else sDk S k) (fun k => if k = sN S then t else sMn S k)
def g_seen (S : GS) (f d t : Int) : GS := if ((0 ≤ f ∧ f < oF (sT S)) ∧ 0 ≤ d ∧ d < oD (sT S)) ∧ (0 ≤ t ∧ t ≤ 99) ∧ ¬ sN S = 6 then sn1 S f d t else S
theorem w_seen {S : GS} (f d t : Int) (h : wS S) : wS (g_seen S f d t) := by
  unfold g_seen
  split
  · next q =>
    obtain ⟨h1, h2, h3, h4, h5, h6, h7, h8⟩ := h
    refine ⟨h1, h2, h3, h4, h5, h6, ⟨?_, fun k x y => ?_⟩, h8⟩
    · have := h7.1
      show sN S + 1 ≤ 6
      omega
    · have y : k < ((sN S + 1 : Nat) : Int) := y
      show 0 ≤ (if k = sN S then f else sFl S k) ∧ (if k = sN S then f else sFl S k) < oF (sT S) ∧ 0 ≤ (if k = sN S then d else sDk S k) ∧ (if k = sN S then d else sDk S k) < oD (sT S) ∧ 0 ≤ (if k = sN S then t else sMn S k) ∧ (if k = sN S then t else sMn S k) ≤ 99
      by_cases e : k = sN S
      · rw [if_pos e, if_pos e, if_pos e]; omega
      · rw [if_neg e, if_neg e, if_neg e]; exact h7.2 k x (by omega)
  · exact h
theorem w_forget {S : GS} {a b c : Fn} (h : wS S) : wS (uS S 0 a b c) := by
  obtain ⟨h1, h2, h3, h4, h5, h6, h7, h8⟩ := h
  exact ⟨h1, h2, h3, h4, h5, h6, ⟨by show 0 ≤ 6; omega, fun k x y => by have y : k < ((0 : Nat) : Int) := y; omega⟩, h8⟩
set_option maxRecDepth 100000 in
set_option maxHeartbeats 4000000 in
theorem m_filed {E : EN} {l : Launch} {M : Mem} {m : Nat} {S : GS} (hO : isMod E m) (hY : rY M m S) (hw : wS S) {f : Int} : Cn E l mX8_filed 5 [vR m, vI f] M (fun r M1 => ∃ z, r = vI z ∧ (rY M1 m (S) ∧ frY M M1 m ∧ z = f_filed S f)) := by
  refine Cn.of (by decide) rfl (Nat.le_of_ble_eq_true rfl) 0 rfl (fun oka okm G hR => ?_)
  obtain ⟨a0, a1, a2, a3, a4, a5, a6, a7, a8, a9, a10, a11, a12⟩ := id hO
  obtain ⟨hrI, hrM, hk0, hk1, hrb, ⟨hb0, hb1⟩, ⟨hL, hX⟩, ⟨hN, hsn⟩, hcr⟩ := id hY
  obtain ⟨hwT, ⟨hwC, hwG⟩, ⟨wb0, wb1⟩, wk0, wk1, wL, ⟨wN, wsn⟩, wcr, wcr0⟩ := id hw
  obtain ⟨⟨i0, i1, i2, i3⟩, ik, it, ie⟩ := id hrI
  obtain ⟨⟨c0, c1, c2⟩, cs, cf⟩ := rM_0 hrM
  obtain ⟨wt0, wtk, wtt, wtf⟩ := id hwT
  obtain ⟨wc0, wcs, wcf⟩ := id hwC
  refine A_aload_n dX8_filed_0 rfl ?_
  refine A_iload_n dX8_filed_1 rfl ?_
  refine A_vI1 (mj := mX8_isFile) dX8_filed_2 hR.rm (by decide) ok_X8_isFile mv_X8_isFile ml_RX8_160 (by assumption) rfl rfl rfl (m_isFile hO hrI hwT) (fun z2 M2 g2 k2 q2 => ?_)
  obtain ⟨e2, z2r, q2⟩ := q2
  subst M2
  refine A_if_ne (tgt := 11) dX8_filed_5 (by decide) (fun h5 => ?_) (fun h5 => ?_)
  · skip
    have dt : 0 ≤ f ∧ f < oF (sT S) := q2.mp (by omega)
    obtain ⟨f, rfl⟩ : ∃ j : Nat, f = j := ⟨f.toNat, by omega⟩
    refine A_aload_n dX8_filed_11 rfl ?_
    refine A_iconst dX8_filed_12 (by decide) ?_
    refine A_iconst dX8_filed_13 (by decide) ?_
    refine A_vV2 (mj := mX8_copy) dX8_filed_14 hR.rm (by decide) ok_X8_copy mv_X8_copy ml_RX8_67 (by assumption) rfl rfl rfl (m_copy (a := 0) (b := 3) hO (by omega) (by omega) (by omega)) (fun M14 k14 q14 => ?_)
    obtain ⟨f14, rM14⟩ := cp_3 hwT hrM q14
    have rI14 : rI M14 m (sT S) := rI_fr hrI (fun y hy => f14.1 y (by omega) (by omega))
    refine A_aload_n dX8_filed_17 rfl ?_
    refine A_iload_n dX8_filed_18 rfl ?_
    refine A_sipush dX8_filed_19 sp_200 (by decide) ?_
    refine A_vI2 (mj := mX8_filedIn) dX8_filed_22 hR.rm (by decide) ok_X8_filedIn mv_X8_filedIn ml_RX8_195 (by assumption) rfl rfl rfl (m_filedIn (n := 200) hO rI14 rM14 hwT hwC (by omega) (by omega) (by omega)) (fun z22 M22 g22 k22 q22 => ?_)
    obtain ⟨f22, q22⟩ := q22
    obtain ⟨u3, u4⟩ := rY_try hY hwT (frM_t f14 f22)
    exact A_iret hR dX8_filed_25 rfl ⟨_, rfl, u3, u4, by unfold f_filed; rw [if_pos dt]; exact q22⟩
  · skip
    refine A_bipush dX8_filed_8 bp_m2 (by decide) ?_
    exact A_iret hR dX8_filed_10 rfl ⟨_, rfl, hY, frY_r, by unfold f_filed; rw [if_neg (fun q => by have := q2.mpr q; omega)]⟩

set_option maxRecDepth 100000 in
set_option maxHeartbeats 4000000 in
theorem m_later {E : EN} {l : Launch} {M : Mem} {m : Nat} {S : GS} (hO : isMod E m) (hY : rY M m S) (hw : wS S) {f t w : Int} : Cn E l mX8_later 5 [vR m, vI f, vI t, vI w] M (fun r M1 => ∃ z, r = vI z ∧ (rY M1 m (S) ∧ frY M M1 m ∧ z = f_later S f t w)) := by
  refine Cn.of (by decide) rfl (Nat.le_of_ble_eq_true rfl) 1 rfl (fun oka okm G hR => ?_)
  obtain ⟨a0, a1, a2, a3, a4, a5, a6, a7, a8, a9, a10, a11, a12⟩ := id hO
  obtain ⟨hrI, hrM, hk0, hk1, hrb, ⟨hb0, hb1⟩, ⟨hL, hX⟩, ⟨hN, hsn⟩, hcr⟩ := id hY
  obtain ⟨hwT, ⟨hwC, hwG⟩, ⟨wb0, wb1⟩, wk0, wk1, wL, ⟨wN, wsn⟩, wcr, wcr0⟩ := id hw
  obtain ⟨⟨i0, i1, i2, i3⟩, ik, it, ie⟩ := id hrI
  obtain ⟨⟨c0, c1, c2⟩, cs, cf⟩ := rM_0 hrM
  obtain ⟨wt0, wtk, wtt, wtf⟩ := id hwT
  obtain ⟨wc0, wcs, wcf⟩ := id hwC
  refine A_iload_n dX8_later_0 rfl ?_
  refine A_i2l dX8_later_1 ?_
  refine A_lconst dX8_later_2 ?_
  refine A_ldc2 dX8_later_3 kc_RX8_190 (by decide) ?_
  refine A_sI3 (mj := mX8_in) dX8_later_6 hR.rm (by decide) ok_X8_in st_X8_in ml_RX8_73 rfl (m_in) (fun z6 M6 g6 k6 q6 => ?_)
  obtain ⟨e6, z6r, q6⟩ := q6
  subst M6
  refine A_if_ne (tgt := 15) dX8_later_9 (by decide) (fun h9 => ?_) (fun h9 => ?_)
  · skip
    have da : 0 ≤ w ∧ w ≤ 2 := by have := q6.mp (by omega); exact ⟨by omega, by omega⟩
    have j42 : (0 ≤ f ∧ ((w < 2 → f < oF (sT S)) ∧ (w = 2 → f < oT (sT S)))) → AW E mX8_later G 0 0 42 [vR m, vI f, vI t, vI w, vU] [] M := by
      intro dt
      refine A_iload_n dX8_later_42 rfl ?_
      refine A_i2l dX8_later_43 ?_
      refine A_lconst dX8_later_44 ?_
      refine A_ldc2 dX8_later_45 kc_RX8_183 (by decide) ?_
      refine A_sI3 (mj := mX8_in) dX8_later_48 hR.rm (by decide) ok_X8_in st_X8_in ml_RX8_73 rfl (m_in) (fun z48 M48 g48 k48 q48 => ?_)
      obtain ⟨e48, z48r, q48⟩ := q48
      subst M48
      refine A_if_ne (tgt := 57) dX8_later_51 (by decide) (fun h51 => ?_) (fun h51 => ?_)
      · skip
        have db : 0 ≤ t ∧ t ≤ 99 := by have := q48.mp (by omega); exact ⟨by omega, by omega⟩
        obtain ⟨t, rfl⟩ : ∃ j : Nat, t = j := ⟨t.toNat, by omega⟩
        refine A_aload_n dX8_later_57 rfl ?_
        refine A_iconst dX8_later_58 (by decide) ?_
        refine A_iconst dX8_later_59 (by decide) ?_
        refine A_vV2 (mj := mX8_copy) dX8_later_60 hR.rm (by decide) ok_X8_copy mv_X8_copy ml_RX8_67 (by assumption) rfl rfl rfl (m_copy (a := 0) (b := 3) hO (by omega) (by omega) (by omega)) (fun M60 k60 q60 => ?_)
        obtain ⟨f60, rM60⟩ := cp_3 hwT hrM q60
        have rI60 : rI M60 m (sT S) := rI_fr hrI (fun y hy => f60.1 y (by omega) (by omega))
        refine A_aload_n dX8_later_63 rfl ?_
        refine A_iload_n dX8_later_64 rfl ?_
        refine A_vV1 (mj := mX8_tryFor) dX8_later_65 hR.rm (by decide) ok_X8_tryFor mv_X8_tryFor ml_RX8_192 (by assumption) rfl rfl rfl (m_tryFor (n := t) hO rI60 rM60 hwT hwC (by omega) (by omega)) (fun M65 k65 q65 => ?_)
        obtain ⟨f65, q65⟩ := q65
        obtain ⟨u3, u4⟩ := rY_try hY hwT (frM_t f60 f65)
        refine A_bipush dX8_later_68 bp_117 (by decide) ?_
        refine A_istore dX8_later_70 (by decide) rfl ?_
        refine A_iload_n dX8_later_72 rfl ?_
        refine A_if_ne (tgt := 91) dX8_later_73 (by decide) (fun h73 => ?_) (fun h73 => ?_)
        · skip
          refine A_iload_n dX8_later_91 rfl ?_
          refine A_iconst dX8_later_92 (by decide) ?_
          refine A_icmp_ne (tgt := 111) dX8_later_93 (by decide) (fun h93 => ?_) (fun h93 => ?_)
          · skip
            refine A_aload_n dX8_later_111 rfl ?_
            refine A_getR dX8_later_112 fl_RX8_7 (by assumption) (by rfl) ?_
            refine A_iload dX8_later_115 rfl ?_
            refine A_iconst dX8_later_117 (by decide) ?_
            refine A_iadd dX8_later_118 ⟨by omega, by omega⟩ ?_
            refine A_iload_n dX8_later_119 rfl ?_
            refine A_iadd dX8_later_120 ⟨by omega, by omega⟩ ?_
            refine A_iald dX8_later_121 (by assumption) (by omega) (by omega) ?_
            skip
            exact A_iret hR dX8_later_122 rfl (by
      refine ⟨_, rfl, u3, u4, ?_⟩
      unfold f_later
      rw [if_pos da, if_pos dt, if_pos db, Int.toNat_natCast]
      first
      | rw [if_pos (by omega)]
      | rw [if_neg (by omega), if_pos (by omega)]
      | (rw [if_neg (by omega), if_neg (by omega)]; exact q65.2.1 f (by omega) (by omega)))
          · skip
            refine A_aload_n dX8_later_96 rfl ?_
            refine A_getR dX8_later_97 fl_RX8_7 (by assumption) (by rfl) ?_
            refine A_iload dX8_later_100 rfl ?_
            refine A_bipush dX8_later_102 bp_21 (by decide) ?_
            refine A_iadd dX8_later_104 ⟨by omega, by omega⟩ ?_
            refine A_iload_n dX8_later_105 rfl ?_
            refine A_iadd dX8_later_106 ⟨by omega, by omega⟩ ?_
            refine A_iald dX8_later_107 (by assumption) (by omega) (by omega) ?_
            rw [show M65 (m + 1) (117 + 21 + f) = csSw (itC (sT S) (sC S) t) f from (q65.2.2 f (by omega) (by omega)).2.1]
            refine A_goto (tgt := 122) dX8_later_108 (by decide) ?_
            skip
            exact A_iret hR dX8_later_122 rfl (by
      refine ⟨_, rfl, u3, u4, ?_⟩
      unfold f_later
      rw [if_pos da, if_pos dt, if_pos db, Int.toNat_natCast]
      first
      | rw [if_pos (by omega)]
      | rw [if_neg (by omega), if_pos (by omega)]
      | (rw [if_neg (by omega), if_neg (by omega)]; exact q65.2.1 f (by omega) (by omega)))
        · skip
          refine A_aload_n dX8_later_76 rfl ?_
          refine A_getR dX8_later_77 fl_RX8_7 (by assumption) (by rfl) ?_
          refine A_iload dX8_later_80 rfl ?_
          refine A_bipush dX8_later_82 bp_15 (by decide) ?_
          refine A_iadd dX8_later_84 ⟨by omega, by omega⟩ ?_
          refine A_iload_n dX8_later_85 rfl ?_
          refine A_iadd dX8_later_86 ⟨by omega, by omega⟩ ?_
          refine A_iald dX8_later_87 (by assumption) (by omega) (by omega) ?_
          rw [show M65 (m + 1) (117 + 15 + f) = csA (itC (sT S) (sC S) t) f from (q65.2.2 f (by omega) (by omega)).1]
          refine A_goto (tgt := 122) dX8_later_88 (by decide) ?_
          skip
          exact A_iret hR dX8_later_122 rfl (by
      refine ⟨_, rfl, u3, u4, ?_⟩
      unfold f_later
      rw [if_pos da, if_pos dt, if_pos db, Int.toNat_natCast]
      first
      | rw [if_pos (by omega)]
      | rw [if_neg (by omega), if_pos (by omega)]
      | (rw [if_neg (by omega), if_neg (by omega)]; exact q65.2.1 f (by omega) (by omega)))
      · skip
        refine A_bipush dX8_later_54 bp_m3 (by decide) ?_
        exact A_iret hR dX8_later_56 rfl ⟨_, rfl, hY, frY_r, by unfold f_later; rw [if_pos da, if_pos dt, if_neg (fun q => by have := q48.mpr ⟨by omega, by omega⟩; omega)]⟩
    have j39 : ¬ (0 ≤ f ∧ ((w < 2 → f < oF (sT S)) ∧ (w = 2 → f < oT (sT S)))) → AW E mX8_later G 0 0 39 [vR m, vI f, vI t, vI w, vU] [] M := by
      intro dt
      refine A_bipush dX8_later_39 bp_m2 (by decide) ?_
      exact A_iret hR dX8_later_41 rfl ⟨_, rfl, hY, frY_r, by unfold f_later; rw [if_pos da, if_neg dt]⟩
    refine A_iload_n dX8_later_15 rfl ?_
    refine A_iconst dX8_later_16 (by decide) ?_
    refine A_icmp_ge (tgt := 31) dX8_later_17 (by decide) (fun h17 => ?_) (fun h17 => ?_)
    · skip
      refine A_aload_n dX8_later_31 rfl ?_
      refine A_iload_n dX8_later_32 rfl ?_
      refine A_vI1 (mj := mX8_isTrail) dX8_later_33 hR.rm (by decide) ok_X8_isTrail mv_X8_isTrail ml_RX8_157 (by assumption) rfl rfl rfl (m_isTrail hO hrI hwT) (fun z33 M33 g33 k33 q33 => ?_)
      obtain ⟨e33, z33r, q33⟩ := q33
      subst M33
      refine A_if_ne (tgt := 42) dX8_later_36 (by decide) (fun h36 => ?_) (fun h36 => ?_)
      · skip
        first | exact j42 (by have := q22.mp (by omega); omega) | exact j42 (by have := q33.mp (by omega); omega)
      · skip
        first | exact j39 (fun q => by have := q22.mpr (by omega); omega) | exact j39 (fun q => by have := q33.mpr (by omega); omega)
    · skip
      refine A_aload_n dX8_later_20 rfl ?_
      refine A_iload_n dX8_later_21 rfl ?_
      refine A_vI1 (mj := mX8_isFile) dX8_later_22 hR.rm (by decide) ok_X8_isFile mv_X8_isFile ml_RX8_160 (by assumption) rfl rfl rfl (m_isFile hO hrI hwT) (fun z22 M22 g22 k22 q22 => ?_)
      obtain ⟨e22, z22r, q22⟩ := q22
      subst M22
      refine A_if_ne (tgt := 42) dX8_later_25 (by decide) (fun h25 => ?_) (fun h25 => ?_)
      · skip
        first | exact j42 (by have := q22.mp (by omega); omega) | exact j42 (by have := q33.mp (by omega); omega)
      · skip
        refine A_goto (tgt := 39) dX8_later_28 (by decide) ?_
        first | exact j39 (fun q => by have := q22.mpr (by omega); omega) | exact j39 (fun q => by have := q33.mpr (by omega); omega)
  · skip
    refine A_bipush dX8_later_12 bp_m3 (by decide) ?_
    exact A_iret hR dX8_later_14 rfl ⟨_, rfl, hY, frY_r, by unfold f_later; rw [if_neg (fun q => by have := q6.mpr ⟨by omega, by omega⟩; omega)]⟩

set_option maxRecDepth 100000 in
set_option maxHeartbeats 4000000 in
theorem m_queue {E : EN} {l : Launch} {M : Mem} {m : Nat} {S : GS} (hO : isMod E m) (hY : rY M m S) (hw : wS S) {d t : Int} : Cn E l mX8_queue 5 [vR m, vI d, vI t] M (fun r M1 => ∃ z, r = vI z ∧ (rY M1 m (S) ∧ frY M M1 m ∧ z = f_queue S d t)) := by
  refine Cn.of (by decide) rfl (Nat.le_of_ble_eq_true rfl) 3 rfl (fun oka okm G hR => ?_)
  obtain ⟨a0, a1, a2, a3, a4, a5, a6, a7, a8, a9, a10, a11, a12⟩ := id hO
  obtain ⟨hrI, hrM, hk0, hk1, hrb, ⟨hb0, hb1⟩, ⟨hL, hX⟩, ⟨hN, hsn⟩, hcr⟩ := id hY
  obtain ⟨hwT, ⟨hwC, hwG⟩, ⟨wb0, wb1⟩, wk0, wk1, wL, ⟨wN, wsn⟩, wcr, wcr0⟩ := id hw
  obtain ⟨⟨i0, i1, i2, i3⟩, ik, it, ie⟩ := id hrI
  obtain ⟨⟨c0, c1, c2⟩, cs, cf⟩ := rM_0 hrM
  obtain ⟨wt0, wtk, wtt, wtf⟩ := id hwT
  obtain ⟨wc0, wcs, wcf⟩ := id hwC
  refine A_aload_n dX8_queue_0 rfl ?_
  refine A_iload_n dX8_queue_1 rfl ?_
  refine A_vI1 (mj := mX8_isDesk) dX8_queue_2 hR.rm (by decide) ok_X8_isDesk mv_X8_isDesk ml_RX8_151 (by assumption) rfl rfl rfl (m_isDesk hO hrI hwT) (fun z2 M2 g2 k2 q2 => ?_)
  obtain ⟨e2, z2r, q2⟩ := q2
  subst M2
  refine A_if_ne (tgt := 11) dX8_queue_5 (by decide) (fun h5 => ?_) (fun h5 => ?_)
  · skip
    have dt : 0 ≤ d ∧ d < oD (sT S) := q2.mp (by omega)
    refine A_iload_n dX8_queue_11 rfl ?_
    refine A_i2l dX8_queue_12 ?_
    refine A_lconst dX8_queue_13 ?_
    refine A_ldc2 dX8_queue_14 kc_RX8_183 (by decide) ?_
    refine A_sI3 (mj := mX8_in) dX8_queue_17 hR.rm (by decide) ok_X8_in st_X8_in ml_RX8_73 rfl (m_in) (fun z17 M17 g17 k17 q17 => ?_)
    obtain ⟨e17, z17r, q17⟩ := q17
    subst M17
    refine A_if_ne (tgt := 26) dX8_queue_20 (by decide) (fun h20 => ?_) (fun h20 => ?_)
    · skip
      have da : 0 ≤ t ∧ t ≤ 99 := by have := q17.mp (by omega); exact ⟨by omega, by omega⟩
      obtain ⟨t, rfl⟩ : ∃ j : Nat, t = j := ⟨t.toNat, by omega⟩
      refine A_aload_n dX8_queue_26 rfl ?_
      refine A_iconst dX8_queue_27 (by decide) ?_
      refine A_iconst dX8_queue_28 (by decide) ?_
      refine A_vV2 (mj := mX8_copy) dX8_queue_29 hR.rm (by decide) ok_X8_copy mv_X8_copy ml_RX8_67 (by assumption) rfl rfl rfl (m_copy (a := 0) (b := 3) hO (by omega) (by omega) (by omega)) (fun M29 k29 q29 => ?_)
      obtain ⟨f29, rM29⟩ := cp_3 hwT hrM q29
      have rI29 : rI M29 m (sT S) := rI_fr hrI (fun y hy => f29.1 y (by omega) (by omega))
      refine A_aload_n dX8_queue_32 rfl ?_
      refine A_iload_n dX8_queue_33 rfl ?_
      refine A_vV1 (mj := mX8_tryFor) dX8_queue_34 hR.rm (by decide) ok_X8_tryFor mv_X8_tryFor ml_RX8_192 (by assumption) rfl rfl rfl (m_tryFor (n := t) hO rI29 rM29 hwT hwC (by omega) (by omega)) (fun M34 k34 q34 => ?_)
      obtain ⟨f34, q34⟩ := q34
      obtain ⟨u3, u4⟩ := rY_try hY hwT (frM_t f29 f34)
      refine A_bipush dX8_queue_37 bp_117 (by decide) ?_
      refine A_istore_n dX8_queue_39 (by decide) rfl ?_
      refine A_iconst dX8_queue_40 (by decide) ?_
      refine A_istore dX8_queue_41 (by decide) rfl ?_
      refine A_iconst dX8_queue_43 (by decide) ?_
      refine A_istore dX8_queue_44 (by decide) rfl ?_
      have lp : ∀ (k : Nat) (i : Nat) (x : Int), oF (sT S) - i = k → (i ≤ oF (sT S)) → (x = quN (itC (sT S) (sC S) t) d i) → AW E mX8_queue G 0 0 46 [vR m, vI d, vI t, vI 117, vI x, vI i] [] M34 := by
        intro k
        induction k using Nat.strongRecOn with
        | ind k ih =>
          intro i x hk h0 hx
          refine A_iload dX8_queue_46 rfl ?_
          refine A_aload_n dX8_queue_48 rfl ?_
          refine A_getI (ki := 12) dX8_queue_49 fl_RX8_64 (by assumption) (by rfl) rfl ?_
          rw [show M34 m 12 = oF (sT S) by rw [f34.1 m (by omega) (by omega)]; exact rI29.1.2.2.1]
          refine A_icmp_ge (tgt := 103) dX8_queue_52 (by decide) (fun h52 => ?_) (fun h52 => ?_)
          · skip
            have hi : i = oF (sT S) := by omega
            subst hi
            refine A_iload dX8_queue_103 rfl ?_
            exact A_iret hR dX8_queue_105 rfl ⟨_, rfl, u3, u4, by unfold f_queue; rw [if_pos dt, if_pos da, Int.toNat_natCast]; exact hx⟩
          · skip
            have g1 := q34.2.2 i (by omega) (by omega)
            have qr := quN_r (itC (sT S) (sC S) t) d i
            have j94 : ∀ u : Int, (x + u = quN (itC (sT S) (sC S) t) d (i + 1)) → AW E mX8_queue G 0 0 94 [vR m, vI d, vI t, vI 117, vI x, vI i] [vI u, vI x] M34 := by
              intro u hu
              have qr1 := quN_r (itC (sT S) (sC S) t) d (i + 1)
              refine A_iadd dX8_queue_94 ⟨by omega, by omega⟩ ?_
              refine A_istore dX8_queue_95 (by decide) rfl ?_
              refine A_iinc dX8_queue_97 (by decide) rfl rfl ⟨by omega, by omega⟩ ?_
              refine A_goto (tgt := 46) dX8_queue_100 (by decide) ?_
              exact ih _ (by omega) (i + 1) _ rfl (by omega) hu
            refine A_iload dX8_queue_55 rfl ?_
            refine A_aload_n dX8_queue_57 rfl ?_
            refine A_getR dX8_queue_58 fl_RX8_7 (by assumption) (by rfl) ?_
            refine A_iload_n dX8_queue_61 rfl ?_
            refine A_bipush dX8_queue_62 bp_15 (by decide) ?_
            refine A_iadd dX8_queue_64 ⟨by omega, by omega⟩ ?_
            refine A_iload dX8_queue_65 rfl ?_
            refine A_iadd dX8_queue_67 ⟨by omega, by omega⟩ ?_
            refine A_iald dX8_queue_68 (by assumption) (by omega) (by omega) ?_
            rw [show M34 (m + 1) (117 + 15 + i) = csA (itC (sT S) (sC S) t) i from g1.1]
            refine A_iload_n dX8_queue_69 rfl ?_
            refine A_icmp_ne (tgt := 93) dX8_queue_70 (by decide) (fun h70 => ?_) (fun h70 => ?_)
            · skip
              refine A_iconst dX8_queue_93 (by decide) ?_
              first | exact j94 1 (by rw [quN, if_pos ⟨by omega, by omega⟩]; omega) | exact j94 0 (by rw [quN, if_neg (by omega)]; omega)
            · skip
              refine A_aload_n dX8_queue_73 rfl ?_
              refine A_getR dX8_queue_74 fl_RX8_7 (by assumption) (by rfl) ?_
              refine A_iload_n dX8_queue_77 rfl ?_
              refine A_bipush dX8_queue_78 bp_33 (by decide) ?_
              refine A_iadd dX8_queue_80 ⟨by omega, by omega⟩ ?_
              refine A_iload dX8_queue_81 rfl ?_
              refine A_iadd dX8_queue_83 ⟨by omega, by omega⟩ ?_
              refine A_iald dX8_queue_84 (by assumption) (by omega) (by omega) ?_
              rw [show M34 (m + 1) (117 + 33 + i) = csF (itC (sT S) (sC S) t) i from g1.2.2.2]
              refine A_iconst dX8_queue_85 (by decide) ?_
              refine A_icmp_ne (tgt := 93) dX8_queue_86 (by decide) (fun h86 => ?_) (fun h86 => ?_)
              · skip
                refine A_iconst dX8_queue_93 (by decide) ?_
                first | exact j94 1 (by rw [quN, if_pos ⟨by omega, by omega⟩]; omega) | exact j94 0 (by rw [quN, if_neg (by omega)]; omega)
              · skip
                refine A_iconst dX8_queue_89 (by decide) ?_
                refine A_goto (tgt := 94) dX8_queue_90 (by decide) ?_
                first | exact j94 1 (by rw [quN, if_pos ⟨by omega, by omega⟩]; omega) | exact j94 0 (by rw [quN, if_neg (by omega)]; omega)
      exact lp _ 0 0 rfl (by omega) rfl
    · skip
      refine A_bipush dX8_queue_23 bp_m3 (by decide) ?_
      exact A_iret hR dX8_queue_25 rfl ⟨_, rfl, hY, frY_r, by unfold f_queue; rw [if_pos dt, if_neg (fun q => by have := q17.mpr ⟨by omega, by omega⟩; omega)]⟩
  · skip
    refine A_bipush dX8_queue_8 bp_m2 (by decide) ?_
    exact A_iret hR dX8_queue_10 rfl ⟨_, rfl, hY, frY_r, by unfold f_queue; rw [if_neg (fun q => by have := q2.mpr q; omega)]⟩

set_option maxRecDepth 100000 in
set_option maxHeartbeats 4000000 in
theorem m_filedBy {E : EN} {l : Launch} {M : Mem} {m t : Nat} {q : Int} {T : TD} {C : CS} (hO : isMod E m) (hrI : rI M m T) (hrM : rM M m 0 T C) (hwT : wT T) (hwC : wC T C) (hG : csG C ≤ 9999) (ht : t ≤ 99) (h0 : -1 ≤ q) (h1 : q < oD T) : Cn E l mX8_filedBy 5 [vR m, vI q, vI t] M (fun r M1 => ∃ z, r = vI z ∧ (frM M M1 m 117 ∧ z = ffl T C q t)) := by
  refine Cn.of (by decide) rfl (Nat.le_of_ble_eq_true rfl) 0 rfl (fun oka okm G hR => ?_)
  obtain ⟨a0, a1, a2, a3, a4, a5, a6, a7, a8, a9, a10, a11, a12⟩ := id hO
  refine A_aload_n dX8_filedBy_0 rfl ?_
  refine A_iconst dX8_filedBy_1 (by decide) ?_
  refine A_iconst dX8_filedBy_2 (by decide) ?_
  refine A_vV2 (mj := mX8_copy) dX8_filedBy_3 hR.rm (by decide) ok_X8_copy mv_X8_copy ml_RX8_67 (by assumption) rfl rfl rfl (m_copy (a := 0) (b := 3) hO (by omega) (by omega) (by omega)) (fun M3 k3 q3 => ?_)
  obtain ⟨f3, rM3⟩ := cp_3 hwT hrM q3
  refine A_aload_n dX8_filedBy_6 rfl ?_
  refine A_getR dX8_filedBy_7 fl_RX8_7 (by assumption) (by rfl) ?_
  refine A_bipush dX8_filedBy_10 bp_119 (by decide) ?_
  refine A_iload_n dX8_filedBy_12 rfl ?_
  refine A_iast dX8_filedBy_13 (by assumption) (by omega) (by omega) (fun M13 e13 k13 => ?_)
  have g13 : frM M M13 m 117 := frM_t f3 ⟨fun y y1 _ => by rw [e13, upm_c y1], fun k hk => by rw [e13, upm_k (by omega)]⟩
  have rM13 : rM M13 m 117 T (wq C q) := by
    obtain ⟨⟨x1, x2, x3⟩, x4, x5⟩ := rM3
    have w := hwT.1
    refine ⟨⟨by rw [e13, upm_k (by omega)]; exact x1, by rw [e13, upm_k (by omega)]; exact x2, by rw [e13, show ((117 : Nat) : Int) + 2 = 119 from rfl]; exact upm_s _ _ _ _⟩, fun k x y => by rw [e13, upm_k (by omega)]; exact x4 k x y, fun k x y => ?_⟩
    rw [e13, upm_k (by omega), upm_k (by omega), upm_k (by omega), upm_k (by omega)]
    exact x5 k x y
  refine A_aload_n dX8_filedBy_14 rfl ?_
  refine A_iload_n dX8_filedBy_15 rfl ?_
  refine A_vV1 (mj := mX8_tryFor) dX8_filedBy_16 hR.rm (by decide) ok_X8_tryFor mv_X8_tryFor ml_RX8_192 (by assumption) rfl rfl rfl (m_tryFor (n := t) (C := wq C q) hO (rI_fr hrI (fun y hy => g13.1 y (by omega) (by omega))) rM13 hwT (wq_w hwC h0 h1) (by show csG C < 100000; omega) (by omega)) (fun M16 k16 q16 => ?_)
  obtain ⟨f16, q16⟩ := q16
  refine A_aload_n dX8_filedBy_19 rfl ?_
  refine A_bipush dX8_filedBy_20 bp_117 (by decide) ?_
  refine A_vI1 (mj := mX8_filedSet) dX8_filedBy_22 hR.rm (by decide) ok_X8_filedSet mv_X8_filedSet ml_RX8_207 (by assumption) rfl rfl rfl (m_filedSet (b := 117) hO (rI_fr hrI (fun y hy => ((frM_t g13 f16).1 y (by omega) (by omega)))) q16 hwT (itC_w hwT (wq_w hwC h0 h1) t).1 (by omega)) (fun z22 M22 g22 k22 q22 => ?_)
  obtain ⟨e22, q22⟩ := q22
  subst M22
  subst z22
  have fs := fs64 (F := csF (itC T (wq C q) t)) hwT
  refine A_sI1 (mj := mX8_bits) dX8_filedBy_25 hR.rm (by decide) ok_X8_bits st_X8_bits ml_RX8_201 rfl (m_bits (s := fsN (csF (itC T (wq C q) t)) (oF T)) (by omega)) (fun z25 M25 g25 k25 q25 => ?_)
  obtain ⟨e25, q25⟩ := q25
  subst M25
  exact A_iret hR dX8_filedBy_28 rfl ⟨_, rfl, frM_t g13 f16, q25⟩

set_option maxRecDepth 100000 in
set_option maxHeartbeats 4000000 in
theorem m_harmOf {E : EN} {l : Launch} {M : Mem} {m t : Nat} {q : Int} {T : TD} {C : CS} (hO : isMod E m) (hrI : rI M m T) (hrM : rM M m 0 T C) (hwT : wT T) (hwC : wC T C) (hG : csG C ≤ 9999) (ht : t ≤ 99) (h0 : 0 ≤ q) (h1 : q < oD T) : Cn E l mX8_harmOf 6 [vR m, vI q, vI t] M (fun r M1 => ∃ z, r = vI z ∧ (frM M M1 m 117 ∧ z = ffl T C (-1) t - ffl T C q t)) := by
  refine Cn.of (by decide) rfl (Nat.le_of_ble_eq_true rfl) 0 rfl (fun oka okm G hR => ?_)
  obtain ⟨a0, a1, a2, a3, a4, a5, a6, a7, a8, a9, a10, a11, a12⟩ := id hO
  have fp : ∀ p : Int, 0 ≤ ffl T C p t ∧ ffl T C p t ≤ 8 := fun p => popN_r _
  have fp1 := fp (-1)
  have fp2 := fp q
  refine A_aload_n dX8_harmOf_0 rfl ?_
  refine A_iconst dX8_harmOf_1 (by decide) ?_
  refine A_iload_n dX8_harmOf_2 rfl ?_
  refine A_vI2 (mj := mX8_filedBy) dX8_harmOf_3 hR.rm (by decide) ok_X8_filedBy mv_X8_filedBy ml_RX8_216 (by assumption) rfl rfl rfl (m_filedBy (q := -1) (t := t) hO hrI hrM hwT hwC hG ht (by omega) (by have := hwT.1; omega)) (fun z3 M3 g3 k3 q3 => ?_)
  obtain ⟨f3, q3⟩ := q3
  refine A_aload_n dX8_harmOf_6 rfl ?_
  refine A_iload_n dX8_harmOf_7 rfl ?_
  refine A_iload_n dX8_harmOf_8 rfl ?_
  refine A_vI2 (mj := mX8_filedBy) dX8_harmOf_9 hR.rm (by decide) ok_X8_filedBy mv_X8_filedBy ml_RX8_216 (by assumption) rfl rfl rfl (m_filedBy (q := q) (t := t) hO (rI_fr hrI (fun y hy => f3.1 y (by omega) (by omega))) (rM_fr hrM hwT (fun k x y => f3.2 k (by omega))) hwT hwC hG ht (by omega) h1) (fun z9 M9 g9 k9 q9 => ?_)
  obtain ⟨f9, q9⟩ := q9
  refine A_isub dX8_harmOf_12 ⟨by omega, by omega⟩ ?_
  exact A_iret hR dX8_harmOf_13 rfl ⟨_, rfl, frM_t f3 f9, by rw [q3, q9]⟩

