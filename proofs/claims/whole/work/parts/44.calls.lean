/-! THE MODEL's answers -/
theorem frY_r {M : Mem} {m : Nat} : frY M M m := fun _ _ => rfl
set_option maxRecDepth 100000 in
set_option maxHeartbeats 4000000 in
theorem m_isDesk {E : EN} {l : Launch} {M : Mem} {m : Nat} {T : TD} {d : Int} (hO : isMod E m) (hrI : rI M m T) (hwT : wT T) : Cn E l mX8_isDesk 1 [vR m, vI d] M (fun r M1 => ∃ z, r = vI z ∧ (M1 = M ∧ (z = 0 ∨ z = 1) ∧ (z = 1 ↔ 0 ≤ d ∧ d < oD T))) := by
  refine Cn.of (by decide) rfl (Nat.le_of_ble_eq_true rfl) 0 rfl (fun oka okm G hR => ?_)
  obtain ⟨a0, a1, a2, a3, a4, a5, a6, a7, a8, a9, a10, a11, a12⟩ := id hO
  obtain ⟨⟨i0, i1, i2, i3⟩, ik, it, ie⟩ := id hrI
  obtain ⟨wt0, wtk, wtt, wtf⟩ := id hwT
  refine A_iload_n dX8_isDesk_0 rfl ?_
  refine A_i2l dX8_isDesk_1 ?_
  refine A_lconst dX8_isDesk_2 ?_
  refine A_aload_n dX8_isDesk_3 rfl ?_
  refine A_getI (ki := 6) dX8_isDesk_4 fl_RX8_23 (by assumption) (by rfl) rfl ?_
  refine A_iconst dX8_isDesk_7 (by decide) ?_
  rw [i0]
  refine A_isub dX8_isDesk_8 ⟨by omega, by omega⟩ ?_
  refine A_i2l dX8_isDesk_9 ?_
  refine A_sI3 (mj := mX8_in) dX8_isDesk_10 hR.rm (by decide) ok_X8_in st_X8_in ml_RX8_73 rfl (m_in) (fun z10 M10 g10 k10 q10 => ?_)
  obtain ⟨e10, z0, q10⟩ := q10
  subst M10
  exact A_zret hR dX8_isDesk_13 rfl (by first | exact Or.inl rfl | exact Or.inr rfl | omega) ⟨_, rfl, rfl, z0, by omega⟩

set_option maxRecDepth 100000 in
set_option maxHeartbeats 4000000 in
theorem m_isTrail {E : EN} {l : Launch} {M : Mem} {m : Nat} {T : TD} {d : Int} (hO : isMod E m) (hrI : rI M m T) (hwT : wT T) : Cn E l mX8_isTrail 1 [vR m, vI d] M (fun r M1 => ∃ z, r = vI z ∧ (M1 = M ∧ (z = 0 ∨ z = 1) ∧ (z = 1 ↔ 0 ≤ d ∧ d < oT T))) := by
  refine Cn.of (by decide) rfl (Nat.le_of_ble_eq_true rfl) 0 rfl (fun oka okm G hR => ?_)
  obtain ⟨a0, a1, a2, a3, a4, a5, a6, a7, a8, a9, a10, a11, a12⟩ := id hO
  obtain ⟨⟨i0, i1, i2, i3⟩, ik, it, ie⟩ := id hrI
  obtain ⟨wt0, wtk, wtt, wtf⟩ := id hwT
  refine A_iload_n dX8_isTrail_0 rfl ?_
  refine A_i2l dX8_isTrail_1 ?_
  refine A_lconst dX8_isTrail_2 ?_
  refine A_aload_n dX8_isTrail_3 rfl ?_
  refine A_getI (ki := 10) dX8_isTrail_4 fl_RX8_61 (by assumption) (by rfl) rfl ?_
  refine A_iconst dX8_isTrail_7 (by decide) ?_
  rw [i1]
  refine A_isub dX8_isTrail_8 ⟨by omega, by omega⟩ ?_
  refine A_i2l dX8_isTrail_9 ?_
  refine A_sI3 (mj := mX8_in) dX8_isTrail_10 hR.rm (by decide) ok_X8_in st_X8_in ml_RX8_73 rfl (m_in) (fun z10 M10 g10 k10 q10 => ?_)
  obtain ⟨e10, z0, q10⟩ := q10
  subst M10
  exact A_zret hR dX8_isTrail_13 rfl (by first | exact Or.inl rfl | exact Or.inr rfl | omega) ⟨_, rfl, rfl, z0, by omega⟩

set_option maxRecDepth 100000 in
set_option maxHeartbeats 4000000 in
theorem m_isFile {E : EN} {l : Launch} {M : Mem} {m : Nat} {T : TD} {d : Int} (hO : isMod E m) (hrI : rI M m T) (hwT : wT T) : Cn E l mX8_isFile 1 [vR m, vI d] M (fun r M1 => ∃ z, r = vI z ∧ (M1 = M ∧ (z = 0 ∨ z = 1) ∧ (z = 1 ↔ 0 ≤ d ∧ d < oF T))) := by
  refine Cn.of (by decide) rfl (Nat.le_of_ble_eq_true rfl) 0 rfl (fun oka okm G hR => ?_)
  obtain ⟨a0, a1, a2, a3, a4, a5, a6, a7, a8, a9, a10, a11, a12⟩ := id hO
  obtain ⟨⟨i0, i1, i2, i3⟩, ik, it, ie⟩ := id hrI
  obtain ⟨wt0, wtk, wtt, wtf⟩ := id hwT
  refine A_iload_n dX8_isFile_0 rfl ?_
  refine A_i2l dX8_isFile_1 ?_
  refine A_lconst dX8_isFile_2 ?_
  refine A_aload_n dX8_isFile_3 rfl ?_
  refine A_getI (ki := 12) dX8_isFile_4 fl_RX8_64 (by assumption) (by rfl) rfl ?_
  refine A_iconst dX8_isFile_7 (by decide) ?_
  rw [i2]
  refine A_isub dX8_isFile_8 ⟨by omega, by omega⟩ ?_
  refine A_i2l dX8_isFile_9 ?_
  refine A_sI3 (mj := mX8_in) dX8_isFile_10 hR.rm (by decide) ok_X8_in st_X8_in ml_RX8_73 rfl (m_in) (fun z10 M10 g10 k10 q10 => ?_)
  obtain ⟨e10, z0, q10⟩ := q10
  subst M10
  exact A_zret hR dX8_isFile_13 rfl (by first | exact Or.inl rfl | exact Or.inr rfl | omega) ⟨_, rfl, rfl, z0, by omega⟩

set_option maxRecDepth 100000 in
set_option maxHeartbeats 4000000 in
theorem m_trail {E : EN} {l : Launch} {M : Mem} {m : Nat} {S : GS} (hO : isMod E m) (hY : rY M m S) (hw : wS S) {t w : Int} : Cn E l mX8_trail 2 [vR m, vI t, vI w] M (fun r M1 => ∃ z, r = vI z ∧ (M1 = M ∧ z = f_trail S t w)) := by
  refine Cn.of (by decide) rfl (Nat.le_of_ble_eq_true rfl) 0 rfl (fun oka okm G hR => ?_)
  obtain ⟨a0, a1, a2, a3, a4, a5, a6, a7, a8, a9, a10, a11, a12⟩ := id hO
  obtain ⟨hrI, hrM, hk0, hk1, hrb, ⟨hb0, hb1⟩, ⟨hL, hX⟩, ⟨hN, hsn⟩, hcr⟩ := id hY
  obtain ⟨hwT, ⟨hwC, hwG⟩, ⟨wb0, wb1⟩, wk0, wk1, wL, ⟨wN, wsn⟩, wcr, wcr0⟩ := id hw
  obtain ⟨⟨i0, i1, i2, i3⟩, ik, it, ie⟩ := id hrI
  obtain ⟨⟨c0, c1, c2⟩, cs, cf⟩ := rM_0 hrM
  obtain ⟨wt0, wtk, wtt, wtf⟩ := id hwT
  obtain ⟨wc0, wcs, wcf⟩ := id hwC
  refine A_aload_n dX8_trail_0 rfl ?_
  refine A_iload_n dX8_trail_1 rfl ?_
  refine A_vI1 (mj := mX8_isTrail) dX8_trail_2 hR.rm (by decide) ok_X8_isTrail mv_X8_isTrail ml_RX8_157 (by assumption) rfl rfl rfl (m_isTrail hO hrI hwT) (fun z2 M2 g2 k2 q2 => ?_)
  obtain ⟨e2, z2r, q2⟩ := q2
  subst M2
  refine A_if_ne (tgt := 11) dX8_trail_5 (by decide) (fun h5 => ?_) (fun h5 => ?_)
  · skip
    have dt : 0 ≤ t ∧ t < oT (sT S) := q2.mp (by omega)
    refine A_iload_n dX8_trail_11 rfl ?_
    refine A_if_ne (tgt := 24) dX8_trail_12 (by decide) (fun h12 => ?_) (fun h12 => ?_)
    · skip
      refine A_iload_n dX8_trail_24 rfl ?_
      refine A_iconst dX8_trail_25 (by decide) ?_
      refine A_icmp_ne (tgt := 38) dX8_trail_26 (by decide) (fun h26 => ?_) (fun h26 => ?_)
      · skip
        refine A_iload_n dX8_trail_38 rfl ?_
        refine A_iconst dX8_trail_39 (by decide) ?_
        refine A_icmp_ne (tgt := 54) dX8_trail_40 (by decide) (fun h40 => ?_) (fun h40 => ?_)
        · skip
          refine A_bipush dX8_trail_54 bp_m3 (by decide) ?_
          exact A_iret hR dX8_trail_56 rfl ⟨_, rfl, rfl, by unfold f_trail; rw [if_pos dt]; first | rw [if_pos (by omega)] | rw [if_neg (by omega), if_pos (by omega)] | rw [if_neg (by omega), if_neg (by omega), if_pos (by omega)] | rw [if_neg (by omega), if_neg (by omega), if_neg (by omega)]⟩
        · skip
          refine A_aload_n dX8_trail_43 rfl ?_
          refine A_getR dX8_trail_44 fl_RX8_7 (by assumption) (by rfl) ?_
          refine A_iconst dX8_trail_47 (by decide) ?_
          refine A_iload_n dX8_trail_48 rfl ?_
          refine A_iadd dX8_trail_49 ⟨by omega, by omega⟩ ?_
          refine A_iald dX8_trail_50 (by assumption) (by omega) (by omega) ?_
          rw [cs t (by omega) (by omega)]
          refine A_goto (tgt := 56) dX8_trail_51 (by decide) ?_
          exact A_iret hR dX8_trail_56 rfl ⟨_, rfl, rfl, by unfold f_trail; rw [if_pos dt]; first | rw [if_pos (by omega)] | rw [if_neg (by omega), if_pos (by omega)] | rw [if_neg (by omega), if_neg (by omega), if_pos (by omega)] | rw [if_neg (by omega), if_neg (by omega), if_neg (by omega)]⟩
      · skip
        refine A_aload_n dX8_trail_29 rfl ?_
        refine A_getR dX8_trail_30 fl_RX8_33 (by assumption) (by rfl) ?_
        refine A_iload_n dX8_trail_33 rfl ?_
        refine A_iald dX8_trail_34 (by assumption) (by omega) (by omega) ?_
        rw [(it t (by omega) (by omega)).2]
        refine A_goto (tgt := 56) dX8_trail_35 (by decide) ?_
        exact A_iret hR dX8_trail_56 rfl ⟨_, rfl, rfl, by unfold f_trail; rw [if_pos dt]; first | rw [if_pos (by omega)] | rw [if_neg (by omega), if_pos (by omega)] | rw [if_neg (by omega), if_neg (by omega), if_pos (by omega)] | rw [if_neg (by omega), if_neg (by omega), if_neg (by omega)]⟩
    · skip
      refine A_aload_n dX8_trail_15 rfl ?_
      refine A_getR dX8_trail_16 fl_RX8_30 (by assumption) (by rfl) ?_
      refine A_iload_n dX8_trail_19 rfl ?_
      refine A_iald dX8_trail_20 (by assumption) (by omega) (by omega) ?_
      rw [(it t (by omega) (by omega)).1]
      refine A_goto (tgt := 56) dX8_trail_21 (by decide) ?_
      exact A_iret hR dX8_trail_56 rfl ⟨_, rfl, rfl, by unfold f_trail; rw [if_pos dt]; first | rw [if_pos (by omega)] | rw [if_neg (by omega), if_pos (by omega)] | rw [if_neg (by omega), if_neg (by omega), if_pos (by omega)] | rw [if_neg (by omega), if_neg (by omega), if_neg (by omega)]⟩
  · skip
    refine A_bipush dX8_trail_8 bp_m2 (by decide) ?_
    exact A_iret hR dX8_trail_10 rfl ⟨_, rfl, rfl, by unfold f_trail; rw [if_neg (fun q => by have := q2.mpr q; omega)]⟩

set_option maxRecDepth 100000 in
set_option maxHeartbeats 4000000 in
theorem m_file {E : EN} {l : Launch} {M : Mem} {m : Nat} {S : GS} (hO : isMod E m) (hY : rY M m S) (hw : wS S) {t w : Int} : Cn E l mX8_file 2 [vR m, vI t, vI w] M (fun r M1 => ∃ z, r = vI z ∧ (M1 = M ∧ z = f_file S t w)) := by
  refine Cn.of (by decide) rfl (Nat.le_of_ble_eq_true rfl) 0 rfl (fun oka okm G hR => ?_)
  obtain ⟨a0, a1, a2, a3, a4, a5, a6, a7, a8, a9, a10, a11, a12⟩ := id hO
  obtain ⟨hrI, hrM, hk0, hk1, hrb, ⟨hb0, hb1⟩, ⟨hL, hX⟩, ⟨hN, hsn⟩, hcr⟩ := id hY
  obtain ⟨hwT, ⟨hwC, hwG⟩, ⟨wb0, wb1⟩, wk0, wk1, wL, ⟨wN, wsn⟩, wcr, wcr0⟩ := id hw
  obtain ⟨⟨i0, i1, i2, i3⟩, ik, it, ie⟩ := id hrI
  obtain ⟨⟨c0, c1, c2⟩, cs, cf⟩ := rM_0 hrM
  obtain ⟨wt0, wtk, wtt, wtf⟩ := id hwT
  obtain ⟨wc0, wcs, wcf⟩ := id hwC
  refine A_aload_n dX8_file_0 rfl ?_
  refine A_iload_n dX8_file_1 rfl ?_
  refine A_vI1 (mj := mX8_isFile) dX8_file_2 hR.rm (by decide) ok_X8_isFile mv_X8_isFile ml_RX8_160 (by assumption) rfl rfl rfl (m_isFile hO hrI hwT) (fun z2 M2 g2 k2 q2 => ?_)
  obtain ⟨e2, z2r, q2⟩ := q2
  subst M2
  refine A_if_ne (tgt := 11) dX8_file_5 (by decide) (fun h5 => ?_) (fun h5 => ?_)
  · skip
    have dt : 0 ≤ t ∧ t < oF (sT S) := q2.mp (by omega)
    have f1 := cf t (by omega) (by omega)
    refine A_iload_n dX8_file_11 rfl ?_
    rcases (show w = 0 ∨ w = 1 ∨ w = 2 ∨ w = 3 ∨ w = 4 ∨ (w < 0 ∨ 4 < w) by omega) with h12 | h12 | h12 | h12 | h12 | h12
    · refine A_tsIn (tgt := 48) dX8_file_12 0 (by omega) (by omega) rfl (by decide) ?_
      refine A_aload_n dX8_file_48 rfl ?_
      refine A_getR dX8_file_49 fl_RX8_7 (by assumption) (by rfl) ?_
      refine A_bipush dX8_file_52 bp_15 (by decide) ?_
      refine A_iload_n dX8_file_54 rfl ?_
      refine A_iadd dX8_file_55 ⟨by omega, by omega⟩ ?_
      refine A_iald dX8_file_56 (by assumption) (by omega) (by omega) ?_
      rw [f1.1]
      exact A_iret hR dX8_file_57 rfl ⟨_, rfl, rfl, (by unfold f_file; rw [if_pos dt]; first | rw [if_pos (by omega)] | rw [if_neg (by omega), if_pos (by omega)] | rw [if_neg (by omega), if_neg (by omega), if_pos (by omega)] | rw [if_neg (by omega), if_neg (by omega), if_neg (by omega), if_pos (by omega)] | rw [if_neg (by omega), if_neg (by omega), if_neg (by omega), if_neg (by omega), if_pos (by omega)] | rw [if_neg (by omega), if_neg (by omega), if_neg (by omega), if_neg (by omega), if_neg (by omega)])⟩
    · refine A_tsIn (tgt := 58) dX8_file_12 1 (by omega) (by omega) rfl (by decide) ?_
      refine A_aload_n dX8_file_58 rfl ?_
      refine A_getR dX8_file_59 fl_RX8_36 (by assumption) (by rfl) ?_
      refine A_iload_n dX8_file_62 rfl ?_
      refine A_iald dX8_file_63 (by assumption) (by omega) (by omega) ?_
      rw [ie t (by omega) (by omega)]
      exact A_iret hR dX8_file_64 rfl ⟨_, rfl, rfl, (by unfold f_file; rw [if_pos dt]; first | rw [if_pos (by omega)] | rw [if_neg (by omega), if_pos (by omega)] | rw [if_neg (by omega), if_neg (by omega), if_pos (by omega)] | rw [if_neg (by omega), if_neg (by omega), if_neg (by omega), if_pos (by omega)] | rw [if_neg (by omega), if_neg (by omega), if_neg (by omega), if_neg (by omega), if_pos (by omega)] | rw [if_neg (by omega), if_neg (by omega), if_neg (by omega), if_neg (by omega), if_neg (by omega)])⟩
    · refine A_tsIn (tgt := 65) dX8_file_12 2 (by omega) (by omega) rfl (by decide) ?_
      refine A_aload_n dX8_file_65 rfl ?_
      refine A_getR dX8_file_66 fl_RX8_7 (by assumption) (by rfl) ?_
      refine A_bipush dX8_file_69 bp_21 (by decide) ?_
      refine A_iload_n dX8_file_71 rfl ?_
      refine A_iadd dX8_file_72 ⟨by omega, by omega⟩ ?_
      refine A_iald dX8_file_73 (by assumption) (by omega) (by omega) ?_
      rw [f1.2.1]
      exact A_iret hR dX8_file_74 rfl ⟨_, rfl, rfl, (by unfold f_file; rw [if_pos dt]; first | rw [if_pos (by omega)] | rw [if_neg (by omega), if_pos (by omega)] | rw [if_neg (by omega), if_neg (by omega), if_pos (by omega)] | rw [if_neg (by omega), if_neg (by omega), if_neg (by omega), if_pos (by omega)] | rw [if_neg (by omega), if_neg (by omega), if_neg (by omega), if_neg (by omega), if_pos (by omega)] | rw [if_neg (by omega), if_neg (by omega), if_neg (by omega), if_neg (by omega), if_neg (by omega)])⟩
    · refine A_tsIn (tgt := 75) dX8_file_12 3 (by omega) (by omega) rfl (by decide) ?_
      refine A_aload_n dX8_file_75 rfl ?_
      refine A_getR dX8_file_76 fl_RX8_7 (by assumption) (by rfl) ?_
      refine A_bipush dX8_file_79 bp_27 (by decide) ?_
      refine A_iload_n dX8_file_81 rfl ?_
      refine A_iadd dX8_file_82 ⟨by omega, by omega⟩ ?_
      refine A_iald dX8_file_83 (by assumption) (by omega) (by omega) ?_
      rw [f1.2.2.1]
      exact A_iret hR dX8_file_84 rfl ⟨_, rfl, rfl, (by unfold f_file; rw [if_pos dt]; first | rw [if_pos (by omega)] | rw [if_neg (by omega), if_pos (by omega)] | rw [if_neg (by omega), if_neg (by omega), if_pos (by omega)] | rw [if_neg (by omega), if_neg (by omega), if_neg (by omega), if_pos (by omega)] | rw [if_neg (by omega), if_neg (by omega), if_neg (by omega), if_neg (by omega), if_pos (by omega)] | rw [if_neg (by omega), if_neg (by omega), if_neg (by omega), if_neg (by omega), if_neg (by omega)])⟩
    · refine A_tsIn (tgt := 85) dX8_file_12 4 (by omega) (by omega) rfl (by decide) ?_
      refine A_aload_n dX8_file_85 rfl ?_
      refine A_getR dX8_file_86 fl_RX8_7 (by assumption) (by rfl) ?_
      refine A_bipush dX8_file_89 bp_33 (by decide) ?_
      refine A_iload_n dX8_file_91 rfl ?_
      refine A_iadd dX8_file_92 ⟨by omega, by omega⟩ ?_
      refine A_iald dX8_file_93 (by assumption) (by omega) (by omega) ?_
      rw [f1.2.2.2]
      exact A_iret hR dX8_file_94 rfl ⟨_, rfl, rfl, (by unfold f_file; rw [if_pos dt]; first | rw [if_pos (by omega)] | rw [if_neg (by omega), if_pos (by omega)] | rw [if_neg (by omega), if_neg (by omega), if_pos (by omega)] | rw [if_neg (by omega), if_neg (by omega), if_neg (by omega), if_pos (by omega)] | rw [if_neg (by omega), if_neg (by omega), if_neg (by omega), if_neg (by omega), if_pos (by omega)] | rw [if_neg (by omega), if_neg (by omega), if_neg (by omega), if_neg (by omega), if_neg (by omega)])⟩
    · refine A_tsOut (tgt := 95) dX8_file_12 (by omega) (by decide) ?_
      refine A_bipush dX8_file_95 bp_m3 (by decide) ?_
      exact A_iret hR dX8_file_97 rfl ⟨_, rfl, rfl, (by unfold f_file; rw [if_pos dt]; first | rw [if_pos (by omega)] | rw [if_neg (by omega), if_pos (by omega)] | rw [if_neg (by omega), if_neg (by omega), if_pos (by omega)] | rw [if_neg (by omega), if_neg (by omega), if_neg (by omega), if_pos (by omega)] | rw [if_neg (by omega), if_neg (by omega), if_neg (by omega), if_neg (by omega), if_pos (by omega)] | rw [if_neg (by omega), if_neg (by omega), if_neg (by omega), if_neg (by omega), if_neg (by omega)])⟩
  · skip
    refine A_bipush dX8_file_8 bp_m2 (by decide) ?_
    exact A_iret hR dX8_file_10 rfl ⟨_, rfl, rfl, by unfold f_file; rw [if_neg (fun q => by have := q2.mpr q; omega)]⟩

set_option maxRecDepth 100000 in
set_option maxHeartbeats 4000000 in
theorem m_as {E : EN} {l : Launch} {M : Mem} {m : Nat} {S : GS} (hO : isMod E m) (hY : rY M m S) (hw : wS S) {d a : Int} : Cn E l mX8_as 2 [vR m, vI d, vI a] M (fun r M1 => ∃ z, r = vI z ∧ (M1 = M ∧ z = f_as S d a)) := by
  refine Cn.of (by decide) rfl (Nat.le_of_ble_eq_true rfl) 2 rfl (fun oka okm G hR => ?_)
  obtain ⟨a0, a1, a2, a3, a4, a5, a6, a7, a8, a9, a10, a11, a12⟩ := id hO
  obtain ⟨hrI, hrM, hk0, hk1, hrb, ⟨hb0, hb1⟩, ⟨hL, hX⟩, ⟨hN, hsn⟩, hcr⟩ := id hY
  obtain ⟨hwT, ⟨hwC, hwG⟩, ⟨wb0, wb1⟩, wk0, wk1, wL, ⟨wN, wsn⟩, wcr, wcr0⟩ := id hw
  obtain ⟨⟨i0, i1, i2, i3⟩, ik, it, ie⟩ := id hrI
  obtain ⟨⟨c0, c1, c2⟩, cs, cf⟩ := rM_0 hrM
  obtain ⟨wt0, wtk, wtt, wtf⟩ := id hwT
  obtain ⟨wc0, wcs, wcf⟩ := id hwC
  refine A_aload_n dX8_as_0 rfl ?_
  refine A_iload_n dX8_as_1 rfl ?_
  refine A_vI1 (mj := mX8_isDesk) dX8_as_2 hR.rm (by decide) ok_X8_isDesk mv_X8_isDesk ml_RX8_151 (by assumption) rfl rfl rfl (m_isDesk hO hrI hwT) (fun z2 M2 g2 k2 q2 => ?_)
  obtain ⟨e2, z2r, q2⟩ := q2
  subst M2
  refine A_if_ne (tgt := 11) dX8_as_5 (by decide) (fun h5 => ?_) (fun h5 => ?_)
  · skip
    have dt : 0 ≤ d ∧ d < oD (sT S) := q2.mp (by omega)
    refine A_iload_n dX8_as_11 rfl ?_
    refine A_i2l dX8_as_12 ?_
    refine A_lconst dX8_as_13 ?_
    refine A_ldc2 dX8_as_14 kc_RX8_163 (by decide) ?_
    refine A_sI3 (mj := mX8_in) dX8_as_17 hR.rm (by decide) ok_X8_in st_X8_in ml_RX8_73 rfl (m_in) (fun z17 M17 g17 k17 q17 => ?_)
    obtain ⟨e17, z17r, q17⟩ := q17
    subst M17
    refine A_if_ne (tgt := 26) dX8_as_20 (by decide) (fun h20 => ?_) (fun h20 => ?_)
    · skip
      have da : 0 ≤ a ∧ a ≤ 4 := q17.mp (by omega)
      refine A_aload_n dX8_as_26 rfl ?_
      refine A_getR dX8_as_27 fl_RX8_27 (by assumption) (by rfl) ?_
      refine A_iload_n dX8_as_30 rfl ?_
      refine A_iald dX8_as_31 (by assumption) (by omega) (by omega) ?_
      rw [ik d (by omega) (by omega)]
      have kd := wtk d (by omega) (by omega)
      have j82 : ∀ z : Int, (z = 0 ∨ z = 1) → (z = 1 ↔ (a = 0 ∨ a = 1 ∧ oK (sT S) d ≠ 3 ∨ a = 2 ∧ oK (sT S) d = 1 ∨ a = 3 ∧ oK (sT S) d = 2 ∨ a = 4 ∧ oK (sT S) d = 3)) → AW E mX8_as G 0 0 82 [vR m, vI d, vI a, vI (oK (sT S) d), vU] [vI z] M := by
        intro z hz0 hz
        refine A_istore dX8_as_82 (by decide) rfl ?_
        refine A_iload dX8_as_84 rfl ?_
        refine A_if_eq (tgt := 98) dX8_as_86 (by decide) (fun h86 => ?_) (fun h86 => ?_)
        · skip
          refine A_bipush dX8_as_98 bp_m4 (by decide) ?_
          exact A_iret hR dX8_as_100 rfl ⟨_, rfl, rfl, by unfold f_as; rw [if_pos dt, if_pos da]; first | (rw [if_neg (fun q => by have := hz.mpr q; omega)]; done) | (rw [if_pos (hz.mp (by omega))]; exact q92)⟩
        · skip
          refine A_aload_n dX8_as_89 rfl ?_
          refine A_iload_n dX8_as_90 rfl ?_
          refine A_iconst dX8_as_91 (by decide) ?_
          refine A_vI2 (mj := mX8_sweetAt) dX8_as_92 hR.rm (by decide) ok_X8_sweetAt mv_X8_sweetAt ml_RX8_165 (by assumption) rfl rfl rfl (m_sweetAt hO (by omega) (by omega) (by omega) (by omega)) (fun z92 M92 g92 k92 q92 => ?_)
          obtain ⟨e92, q92⟩ := q92
          subst M92
          rw [ik d (by omega) (by omega)] at q92
          refine A_goto (tgt := 100) dX8_as_95 (by decide) ?_
          exact A_iret hR dX8_as_100 rfl ⟨_, rfl, rfl, by unfold f_as; rw [if_pos dt, if_pos da]; first | (rw [if_neg (fun q => by have := hz.mpr q; omega)]; done) | (rw [if_pos (hz.mp (by omega))]; exact q92)⟩
      refine A_istore_n dX8_as_32 (by decide) rfl ?_
      refine A_iload_n dX8_as_33 rfl ?_
      refine A_if_eq (tgt := 77) dX8_as_34 (by decide) (fun h34 => ?_) (fun h34 => ?_)
      · skip
        refine A_iconst dX8_as_77 (by decide) ?_
        refine A_goto (tgt := 82) dX8_as_78 (by decide) ?_
        first | exact j82 1 (Or.inr rfl) ⟨fun _ => by omega, fun _ => rfl⟩ | exact j82 0 (Or.inl rfl) ⟨fun q => absurd q (by decide), fun q => by omega⟩
      · skip
        refine A_iload_n dX8_as_37 rfl ?_
        refine A_iconst dX8_as_38 (by decide) ?_
        refine A_icmp_ne (tgt := 47) dX8_as_39 (by decide) (fun h39 => ?_) (fun h39 => ?_)
        · skip
          refine A_iload_n dX8_as_47 rfl ?_
          refine A_iconst dX8_as_48 (by decide) ?_
          refine A_icmp_ne (tgt := 57) dX8_as_49 (by decide) (fun h49 => ?_) (fun h49 => ?_)
          · skip
            refine A_iload_n dX8_as_57 rfl ?_
            refine A_iconst dX8_as_58 (by decide) ?_
            refine A_icmp_ne (tgt := 67) dX8_as_59 (by decide) (fun h59 => ?_) (fun h59 => ?_)
            · skip
              refine A_iload_n dX8_as_67 rfl ?_
              refine A_iconst dX8_as_68 (by decide) ?_
              refine A_icmp_ne (tgt := 81) dX8_as_69 (by decide) (fun h69 => ?_) (fun h69 => ?_)
              · skip
                refine A_iconst dX8_as_81 (by decide) ?_
                first | exact j82 1 (Or.inr rfl) ⟨fun _ => by omega, fun _ => rfl⟩ | exact j82 0 (Or.inl rfl) ⟨fun q => absurd q (by decide), fun q => by omega⟩
              · skip
                refine A_iload_n dX8_as_72 rfl ?_
                refine A_iconst dX8_as_73 (by decide) ?_
                refine A_icmp_ne (tgt := 81) dX8_as_74 (by decide) (fun h74 => ?_) (fun h74 => ?_)
                · skip
                  refine A_iconst dX8_as_81 (by decide) ?_
                  first | exact j82 1 (Or.inr rfl) ⟨fun _ => by omega, fun _ => rfl⟩ | exact j82 0 (Or.inl rfl) ⟨fun q => absurd q (by decide), fun q => by omega⟩
                · skip
                  refine A_iconst dX8_as_77 (by decide) ?_
                  refine A_goto (tgt := 82) dX8_as_78 (by decide) ?_
                  first | exact j82 1 (Or.inr rfl) ⟨fun _ => by omega, fun _ => rfl⟩ | exact j82 0 (Or.inl rfl) ⟨fun q => absurd q (by decide), fun q => by omega⟩
            · skip
              refine A_iload_n dX8_as_62 rfl ?_
              refine A_iconst dX8_as_63 (by decide) ?_
              refine A_icmp_eq (tgt := 77) dX8_as_64 (by decide) (fun h64 => ?_) (fun h64 => ?_)
              · skip
                refine A_iconst dX8_as_77 (by decide) ?_
                refine A_goto (tgt := 82) dX8_as_78 (by decide) ?_
                first | exact j82 1 (Or.inr rfl) ⟨fun _ => by omega, fun _ => rfl⟩ | exact j82 0 (Or.inl rfl) ⟨fun q => absurd q (by decide), fun q => by omega⟩
              · skip
                refine A_iload_n dX8_as_67 rfl ?_
                refine A_iconst dX8_as_68 (by decide) ?_
                refine A_icmp_ne (tgt := 81) dX8_as_69 (by decide) (fun h69 => ?_) (fun h69 => ?_)
                · skip
                  refine A_iconst dX8_as_81 (by decide) ?_
                  first | exact j82 1 (Or.inr rfl) ⟨fun _ => by omega, fun _ => rfl⟩ | exact j82 0 (Or.inl rfl) ⟨fun q => absurd q (by decide), fun q => by omega⟩
                · skip
                  refine A_iload_n dX8_as_72 rfl ?_
                  refine A_iconst dX8_as_73 (by decide) ?_
                  refine A_icmp_ne (tgt := 81) dX8_as_74 (by decide) (fun h74 => ?_) (fun h74 => ?_)
                  · skip
                    refine A_iconst dX8_as_81 (by decide) ?_
                    first | exact j82 1 (Or.inr rfl) ⟨fun _ => by omega, fun _ => rfl⟩ | exact j82 0 (Or.inl rfl) ⟨fun q => absurd q (by decide), fun q => by omega⟩
                  · skip
                    refine A_iconst dX8_as_77 (by decide) ?_
                    refine A_goto (tgt := 82) dX8_as_78 (by decide) ?_
                    first | exact j82 1 (Or.inr rfl) ⟨fun _ => by omega, fun _ => rfl⟩ | exact j82 0 (Or.inl rfl) ⟨fun q => absurd q (by decide), fun q => by omega⟩
          · skip
            refine A_iload_n dX8_as_52 rfl ?_
            refine A_iconst dX8_as_53 (by decide) ?_
            refine A_icmp_eq (tgt := 77) dX8_as_54 (by decide) (fun h54 => ?_) (fun h54 => ?_)
            · skip
              refine A_iconst dX8_as_77 (by decide) ?_
              refine A_goto (tgt := 82) dX8_as_78 (by decide) ?_
              first | exact j82 1 (Or.inr rfl) ⟨fun _ => by omega, fun _ => rfl⟩ | exact j82 0 (Or.inl rfl) ⟨fun q => absurd q (by decide), fun q => by omega⟩
            · skip
              refine A_iload_n dX8_as_57 rfl ?_
              refine A_iconst dX8_as_58 (by decide) ?_
              refine A_icmp_ne (tgt := 67) dX8_as_59 (by decide) (fun h59 => ?_) (fun h59 => ?_)
              · skip
                refine A_iload_n dX8_as_67 rfl ?_
                refine A_iconst dX8_as_68 (by decide) ?_
                refine A_icmp_ne (tgt := 81) dX8_as_69 (by decide) (fun h69 => ?_) (fun h69 => ?_)
                · skip
                  refine A_iconst dX8_as_81 (by decide) ?_
                  first | exact j82 1 (Or.inr rfl) ⟨fun _ => by omega, fun _ => rfl⟩ | exact j82 0 (Or.inl rfl) ⟨fun q => absurd q (by decide), fun q => by omega⟩
                · skip
                  refine A_iload_n dX8_as_72 rfl ?_
                  refine A_iconst dX8_as_73 (by decide) ?_
                  refine A_icmp_ne (tgt := 81) dX8_as_74 (by decide) (fun h74 => ?_) (fun h74 => ?_)
                  · skip
                    refine A_iconst dX8_as_81 (by decide) ?_
                    first | exact j82 1 (Or.inr rfl) ⟨fun _ => by omega, fun _ => rfl⟩ | exact j82 0 (Or.inl rfl) ⟨fun q => absurd q (by decide), fun q => by omega⟩
                  · skip
                    refine A_iconst dX8_as_77 (by decide) ?_
                    refine A_goto (tgt := 82) dX8_as_78 (by decide) ?_
                    first | exact j82 1 (Or.inr rfl) ⟨fun _ => by omega, fun _ => rfl⟩ | exact j82 0 (Or.inl rfl) ⟨fun q => absurd q (by decide), fun q => by omega⟩
              · skip
                refine A_iload_n dX8_as_62 rfl ?_
                refine A_iconst dX8_as_63 (by decide) ?_
                refine A_icmp_eq (tgt := 77) dX8_as_64 (by decide) (fun h64 => ?_) (fun h64 => ?_)
                · skip
                  refine A_iconst dX8_as_77 (by decide) ?_
                  refine A_goto (tgt := 82) dX8_as_78 (by decide) ?_
                  first | exact j82 1 (Or.inr rfl) ⟨fun _ => by omega, fun _ => rfl⟩ | exact j82 0 (Or.inl rfl) ⟨fun q => absurd q (by decide), fun q => by omega⟩
                · skip
                  refine A_iload_n dX8_as_67 rfl ?_
                  refine A_iconst dX8_as_68 (by decide) ?_
                  refine A_icmp_ne (tgt := 81) dX8_as_69 (by decide) (fun h69 => ?_) (fun h69 => ?_)
                  · skip
                    refine A_iconst dX8_as_81 (by decide) ?_
                    first | exact j82 1 (Or.inr rfl) ⟨fun _ => by omega, fun _ => rfl⟩ | exact j82 0 (Or.inl rfl) ⟨fun q => absurd q (by decide), fun q => by omega⟩
                  · skip
                    refine A_iload_n dX8_as_72 rfl ?_
                    refine A_iconst dX8_as_73 (by decide) ?_
                    refine A_icmp_ne (tgt := 81) dX8_as_74 (by decide) (fun h74 => ?_) (fun h74 => ?_)
                    · skip
                      refine A_iconst dX8_as_81 (by decide) ?_
                      first | exact j82 1 (Or.inr rfl) ⟨fun _ => by omega, fun _ => rfl⟩ | exact j82 0 (Or.inl rfl) ⟨fun q => absurd q (by decide), fun q => by omega⟩
                    · skip
                      refine A_iconst dX8_as_77 (by decide) ?_
                      refine A_goto (tgt := 82) dX8_as_78 (by decide) ?_
                      first | exact j82 1 (Or.inr rfl) ⟨fun _ => by omega, fun _ => rfl⟩ | exact j82 0 (Or.inl rfl) ⟨fun q => absurd q (by decide), fun q => by omega⟩
        · skip
          refine A_iload_n dX8_as_42 rfl ?_
          refine A_iconst dX8_as_43 (by decide) ?_
          refine A_icmp_ne (tgt := 77) dX8_as_44 (by decide) (fun h44 => ?_) (fun h44 => ?_)
          · skip
            refine A_iconst dX8_as_77 (by decide) ?_
            refine A_goto (tgt := 82) dX8_as_78 (by decide) ?_
            first | exact j82 1 (Or.inr rfl) ⟨fun _ => by omega, fun _ => rfl⟩ | exact j82 0 (Or.inl rfl) ⟨fun q => absurd q (by decide), fun q => by omega⟩
          · skip
            refine A_iload_n dX8_as_47 rfl ?_
            refine A_iconst dX8_as_48 (by decide) ?_
            refine A_icmp_ne (tgt := 57) dX8_as_49 (by decide) (fun h49 => ?_) (fun h49 => ?_)
            · skip
              refine A_iload_n dX8_as_57 rfl ?_
              refine A_iconst dX8_as_58 (by decide) ?_
              refine A_icmp_ne (tgt := 67) dX8_as_59 (by decide) (fun h59 => ?_) (fun h59 => ?_)
              · skip
                refine A_iload_n dX8_as_67 rfl ?_
                refine A_iconst dX8_as_68 (by decide) ?_
                refine A_icmp_ne (tgt := 81) dX8_as_69 (by decide) (fun h69 => ?_) (fun h69 => ?_)
                · skip
                  refine A_iconst dX8_as_81 (by decide) ?_
                  first | exact j82 1 (Or.inr rfl) ⟨fun _ => by omega, fun _ => rfl⟩ | exact j82 0 (Or.inl rfl) ⟨fun q => absurd q (by decide), fun q => by omega⟩
                · skip
                  refine A_iload_n dX8_as_72 rfl ?_
                  refine A_iconst dX8_as_73 (by decide) ?_
                  refine A_icmp_ne (tgt := 81) dX8_as_74 (by decide) (fun h74 => ?_) (fun h74 => ?_)
                  · skip
                    refine A_iconst dX8_as_81 (by decide) ?_
                    first | exact j82 1 (Or.inr rfl) ⟨fun _ => by omega, fun _ => rfl⟩ | exact j82 0 (Or.inl rfl) ⟨fun q => absurd q (by decide), fun q => by omega⟩
                  · skip
                    refine A_iconst dX8_as_77 (by decide) ?_
                    refine A_goto (tgt := 82) dX8_as_78 (by decide) ?_
                    first | exact j82 1 (Or.inr rfl) ⟨fun _ => by omega, fun _ => rfl⟩ | exact j82 0 (Or.inl rfl) ⟨fun q => absurd q (by decide), fun q => by omega⟩
              · skip
                refine A_iload_n dX8_as_62 rfl ?_
                refine A_iconst dX8_as_63 (by decide) ?_
                refine A_icmp_eq (tgt := 77) dX8_as_64 (by decide) (fun h64 => ?_) (fun h64 => ?_)
                · skip
                  refine A_iconst dX8_as_77 (by decide) ?_
                  refine A_goto (tgt := 82) dX8_as_78 (by decide) ?_
                  first | exact j82 1 (Or.inr rfl) ⟨fun _ => by omega, fun _ => rfl⟩ | exact j82 0 (Or.inl rfl) ⟨fun q => absurd q (by decide), fun q => by omega⟩
                · skip
                  refine A_iload_n dX8_as_67 rfl ?_
                  refine A_iconst dX8_as_68 (by decide) ?_
                  refine A_icmp_ne (tgt := 81) dX8_as_69 (by decide) (fun h69 => ?_) (fun h69 => ?_)
                  · skip
                    refine A_iconst dX8_as_81 (by decide) ?_
                    first | exact j82 1 (Or.inr rfl) ⟨fun _ => by omega, fun _ => rfl⟩ | exact j82 0 (Or.inl rfl) ⟨fun q => absurd q (by decide), fun q => by omega⟩
                  · skip
                    refine A_iload_n dX8_as_72 rfl ?_
                    refine A_iconst dX8_as_73 (by decide) ?_
                    refine A_icmp_ne (tgt := 81) dX8_as_74 (by decide) (fun h74 => ?_) (fun h74 => ?_)
                    · skip
                      refine A_iconst dX8_as_81 (by decide) ?_
                      first | exact j82 1 (Or.inr rfl) ⟨fun _ => by omega, fun _ => rfl⟩ | exact j82 0 (Or.inl rfl) ⟨fun q => absurd q (by decide), fun q => by omega⟩
                    · skip
                      refine A_iconst dX8_as_77 (by decide) ?_
                      refine A_goto (tgt := 82) dX8_as_78 (by decide) ?_
                      first | exact j82 1 (Or.inr rfl) ⟨fun _ => by omega, fun _ => rfl⟩ | exact j82 0 (Or.inl rfl) ⟨fun q => absurd q (by decide), fun q => by omega⟩
            · skip
              refine A_iload_n dX8_as_52 rfl ?_
              refine A_iconst dX8_as_53 (by decide) ?_
              refine A_icmp_eq (tgt := 77) dX8_as_54 (by decide) (fun h54 => ?_) (fun h54 => ?_)
              · skip
                refine A_iconst dX8_as_77 (by decide) ?_
                refine A_goto (tgt := 82) dX8_as_78 (by decide) ?_
                first | exact j82 1 (Or.inr rfl) ⟨fun _ => by omega, fun _ => rfl⟩ | exact j82 0 (Or.inl rfl) ⟨fun q => absurd q (by decide), fun q => by omega⟩
              · skip
                refine A_iload_n dX8_as_57 rfl ?_
                refine A_iconst dX8_as_58 (by decide) ?_
                refine A_icmp_ne (tgt := 67) dX8_as_59 (by decide) (fun h59 => ?_) (fun h59 => ?_)
                · skip
                  refine A_iload_n dX8_as_67 rfl ?_
                  refine A_iconst dX8_as_68 (by decide) ?_
                  refine A_icmp_ne (tgt := 81) dX8_as_69 (by decide) (fun h69 => ?_) (fun h69 => ?_)
                  · skip
                    refine A_iconst dX8_as_81 (by decide) ?_
                    first | exact j82 1 (Or.inr rfl) ⟨fun _ => by omega, fun _ => rfl⟩ | exact j82 0 (Or.inl rfl) ⟨fun q => absurd q (by decide), fun q => by omega⟩
                  · skip
                    refine A_iload_n dX8_as_72 rfl ?_
                    refine A_iconst dX8_as_73 (by decide) ?_
                    refine A_icmp_ne (tgt := 81) dX8_as_74 (by decide) (fun h74 => ?_) (fun h74 => ?_)
                    · skip
                      refine A_iconst dX8_as_81 (by decide) ?_
                      first | exact j82 1 (Or.inr rfl) ⟨fun _ => by omega, fun _ => rfl⟩ | exact j82 0 (Or.inl rfl) ⟨fun q => absurd q (by decide), fun q => by omega⟩
                    · skip
                      refine A_iconst dX8_as_77 (by decide) ?_
                      refine A_goto (tgt := 82) dX8_as_78 (by decide) ?_
                      first | exact j82 1 (Or.inr rfl) ⟨fun _ => by omega, fun _ => rfl⟩ | exact j82 0 (Or.inl rfl) ⟨fun q => absurd q (by decide), fun q => by omega⟩
                · skip
                  refine A_iload_n dX8_as_62 rfl ?_
                  refine A_iconst dX8_as_63 (by decide) ?_
                  refine A_icmp_eq (tgt := 77) dX8_as_64 (by decide) (fun h64 => ?_) (fun h64 => ?_)
                  · skip
                    refine A_iconst dX8_as_77 (by decide) ?_
                    refine A_goto (tgt := 82) dX8_as_78 (by decide) ?_
                    first | exact j82 1 (Or.inr rfl) ⟨fun _ => by omega, fun _ => rfl⟩ | exact j82 0 (Or.inl rfl) ⟨fun q => absurd q (by decide), fun q => by omega⟩
                  · skip
                    refine A_iload_n dX8_as_67 rfl ?_
                    refine A_iconst dX8_as_68 (by decide) ?_
                    refine A_icmp_ne (tgt := 81) dX8_as_69 (by decide) (fun h69 => ?_) (fun h69 => ?_)
                    · skip
                      refine A_iconst dX8_as_81 (by decide) ?_
                      first | exact j82 1 (Or.inr rfl) ⟨fun _ => by omega, fun _ => rfl⟩ | exact j82 0 (Or.inl rfl) ⟨fun q => absurd q (by decide), fun q => by omega⟩
                    · skip
                      refine A_iload_n dX8_as_72 rfl ?_
                      refine A_iconst dX8_as_73 (by decide) ?_
                      refine A_icmp_ne (tgt := 81) dX8_as_74 (by decide) (fun h74 => ?_) (fun h74 => ?_)
                      · skip
                        refine A_iconst dX8_as_81 (by decide) ?_
                        first | exact j82 1 (Or.inr rfl) ⟨fun _ => by omega, fun _ => rfl⟩ | exact j82 0 (Or.inl rfl) ⟨fun q => absurd q (by decide), fun q => by omega⟩
                      · skip
                        refine A_iconst dX8_as_77 (by decide) ?_
                        refine A_goto (tgt := 82) dX8_as_78 (by decide) ?_
                        first | exact j82 1 (Or.inr rfl) ⟨fun _ => by omega, fun _ => rfl⟩ | exact j82 0 (Or.inl rfl) ⟨fun q => absurd q (by decide), fun q => by omega⟩
    · skip
      refine A_bipush dX8_as_23 bp_m3 (by decide) ?_
      exact A_iret hR dX8_as_25 rfl ⟨_, rfl, rfl, by unfold f_as; rw [if_pos dt, if_neg (fun q => by have := q17.mpr q; omega)]⟩
  · skip
    refine A_bipush dX8_as_8 bp_m2 (by decide) ?_
    exact A_iret hR dX8_as_10 rfl ⟨_, rfl, rfl, by unfold f_as; rw [if_neg (fun q => by have := q2.mpr q; omega)]⟩

set_option maxRecDepth 100000 in
set_option maxHeartbeats 4000000 in
theorem m_next {E : EN} {l : Launch} {M : Mem} {m : Nat} {S : GS} (hO : isMod E m) (hY : rY M m S) (hw : wS S) {f : Int} : Cn E l mX8_next 3 [vR m, vI f] M (fun r M1 => ∃ z, r = vI z ∧ (rY M1 m (S) ∧ frY M M1 m ∧ z = f_next S f)) := by
  refine Cn.of (by decide) rfl (Nat.le_of_ble_eq_true rfl) 0 rfl (fun oka okm G hR => ?_)
  obtain ⟨a0, a1, a2, a3, a4, a5, a6, a7, a8, a9, a10, a11, a12⟩ := id hO
  obtain ⟨hrI, hrM, hk0, hk1, hrb, ⟨hb0, hb1⟩, ⟨hL, hX⟩, ⟨hN, hsn⟩, hcr⟩ := id hY
  obtain ⟨hwT, ⟨hwC, hwG⟩, ⟨wb0, wb1⟩, wk0, wk1, wL, ⟨wN, wsn⟩, wcr, wcr0⟩ := id hw
  obtain ⟨⟨i0, i1, i2, i3⟩, ik, it, ie⟩ := id hrI
  obtain ⟨⟨c0, c1, c2⟩, cs, cf⟩ := rM_0 hrM
  obtain ⟨wt0, wtk, wtt, wtf⟩ := id hwT
  obtain ⟨wc0, wcs, wcf⟩ := id hwC
  refine A_aload_n dX8_next_0 rfl ?_
  refine A_iload_n dX8_next_1 rfl ?_
  refine A_vI1 (mj := mX8_isFile) dX8_next_2 hR.rm (by decide) ok_X8_isFile mv_X8_isFile ml_RX8_160 (by assumption) rfl rfl rfl (m_isFile hO hrI hwT) (fun z2 M2 g2 k2 q2 => ?_)
  obtain ⟨e2, z2r, q2⟩ := q2
  subst M2
  refine A_if_ne (tgt := 11) dX8_next_5 (by decide) (fun h5 => ?_) (fun h5 => ?_)
  · skip
    have dt : 0 ≤ f ∧ f < oF (sT S) := q2.mp (by omega)
    refine A_aload_n dX8_next_11 rfl ?_
    refine A_iconst dX8_next_12 (by decide) ?_
    refine A_vV1 (mj := mX8_layCarried) dX8_next_13 hR.rm (by decide) ok_X8_layCarried mv_X8_layCarried ml_RX8_176 (by assumption) rfl rfl rfl (m_lay (b := 0) hO hrI hrM hwT hwC (by omega)) (fun M13 k13 q13 => ?_)
    obtain ⟨f13, q13⟩ := q13
    refine A_aload_n dX8_next_16 rfl ?_
    refine A_getR dX8_next_17 fl_RX8_42 (by assumption) (by rfl) ?_
    refine A_iload_n dX8_next_20 rfl ?_
    refine A_iald dX8_next_21 (by assumption) (by omega) (by omega) ?_
    rw [q13 f dt.1 dt.2]
    exact A_iret hR dX8_next_22 rfl ⟨_, rfl, rY_fr hY hwT (fun k _ => by rw [f13 m (by omega)]) (fun y hy => f13 y (by omega)) (fun k hk => by rw [f13 (m + 1) (by omega)]), fun y hy => f13 y (by omega), by unfold f_next; rw [if_pos dt]⟩
  · skip
    refine A_bipush dX8_next_8 bp_m2 (by decide) ?_
    exact A_iret hR dX8_next_10 rfl ⟨_, rfl, hY, frY_r, by unfold f_next; rw [if_neg (fun q => by have := q2.mpr q; omega)]⟩

