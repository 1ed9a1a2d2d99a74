/-! THE MODEL's answers: by hand -/
/-- what is kept is copied out, or in -/
theorem cp_0 {M M1 : Mem} {m a : Nat} {T : TD} {C : CS} (hT : wT T) (h : rM M m (39 * a) T C) (q : (∀ y, y ≠ m + 1 → M1 y = M y) ∧ (∀ k : Int, k < 39 * (0 : Nat) ∨ 39 * ((0 : Nat) : Int) + 39 ≤ k → M1 (m + 1) k = M (m + 1) k) ∧ ∀ k : Int, 0 ≤ k → k < 39 → M1 (m + 1) (39 * (0 : Nat) + k) = M (m + 1) (39 * a + k)) : frM M M1 m 0 ∧ rM M1 m 0 T C :=
  ⟨⟨fun y y1 _ => q.1 y y1, fun k hk => q.2.1 k (by omega)⟩, rM_cp (b := 0) hT h q.2.2⟩
theorem rY_K {M M1 : Mem} {m : Nat} {S : GS} {k : Nat} (h : rY M m S) (hT : wT (sT S)) (hk : k = 0 ∨ k = 1) (e : ∀ y, y ≠ m + 1 → y ≠ m + 2 → M1 y = M y) (e2 : M1 (m + 2) = fun i : Int => if i = k then 1 else M (m + 2) i) (q : (∀ j : Int, j < 39 * ((1 + k : Nat) : Int) ∨ 39 * ((1 + k : Nat) : Int) + 39 ≤ j → M1 (m + 1) j = M (m + 1) j) ∧ ∀ j : Int, 0 ≤ j → j < 39 → M1 (m + 1) (39 * ((1 + k : Nat) : Int) + j) = M (m + 1) (39 * (0 : Nat) + j)) : rY M1 m (uK S k) := by
  obtain ⟨a, b1, b2, b3, b4, b5, b6, b7, b8⟩ := h
  have cc : rM M1 m (39 * (1 + k)) (sT S) (sC S) := rM_cp (a := 0) (b := 1 + k) hT (rM_NT b1) q.2
  have f1 : rM M1 m 0 (sT S) (sC S) := rM_fr b1 hT (fun j x y => q.1 j (by omega))
  have f4 : rM M1 m 156 (sT S) (bgC (sT S)) := rM_fr b4 hT (fun j x y => q.1 j (by omega))
  have ri : rI M1 m (sT S) := rI_fr a (fun y hy => e y (by omega) (by omega))
  unfold uK
  rcases hk with rfl | rfl
  · rw [if_pos (by omega)]
    refine ⟨ri, f1, fun _ => cc, fun z => rM_fr (b3 z) hT (fun j x y => q.1 j (by omega)), f4, ?_, ?_, ?_, ?_⟩
    · rw [e2]; exact ⟨rfl, b5.2⟩
    · rw [e m (by omega) (by omega), e (m + 3) (by omega) (by omega)]; exact b6
    · rw [e m (by omega) (by omega), e (m + 11) (by omega) (by omega)]; exact b7
    · rw [e (m + 12) (by omega) (by omega)]; exact b8
  · rw [if_neg (by omega)]
    refine ⟨ri, f1, fun z => rM_fr (b2 z) hT (fun j x y => q.1 j (by omega)), fun _ => cc, f4, ?_, ?_, ?_, ?_⟩
    · rw [e2]; exact ⟨b5.1, rfl⟩
    · rw [e m (by omega) (by omega), e (m + 3) (by omega) (by omega)]; exact b6
    · rw [e m (by omega) (by omega), e (m + 11) (by omega) (by omega)]; exact b7
    · rw [e (m + 12) (by omega) (by omega)]; exact b8
set_option maxRecDepth 100000 in
set_option maxHeartbeats 4000000 in
theorem m_spill {E : EN} {l : Launch} {M : Mem} {m : Nat} {S : GS} (hO : isMod E m) (hY : rY M m S) (hw : wS S) {t v : Int} : Cn E l mX8_spill 2 [vR m, vI t, vI v] M (fun r M1 => ∃ z, r = vI z ∧ (rY M1 m (g_spill S t v) ∧ frY M M1 m ∧ z = f_spill S t v)) := by
  refine Cn.of (by decide) rfl (Nat.le_of_ble_eq_true rfl) 1 rfl (fun oka okm G hR => ?_)
  obtain ⟨a0, a1, a2, a3, a4, a5, a6, a7, a8, a9, a10, a11, a12⟩ := id hO
  obtain ⟨hrI, hrM, hk0, hk1, hrb, ⟨hb0, hb1⟩, ⟨hL, hX⟩, ⟨hN, hsn⟩, hcr⟩ := id hY
  obtain ⟨hwT, ⟨hwC, hwG⟩, ⟨wb0, wb1⟩, wk0, wk1, wL, ⟨wN, wsn⟩, wcr, wcr0⟩ := id hw
  obtain ⟨⟨i0, i1, i2, i3⟩, ik, it, ie⟩ := id hrI
  obtain ⟨⟨c0, c1, c2⟩, cs, cf⟩ := rM_0 hrM
  obtain ⟨wt0, wtk, wtt, wtf⟩ := id hwT
  obtain ⟨wc0, wcs, wcf⟩ := id hwC
  refine A_aload_n dX8_spill_0 rfl ?_
  refine A_iload_n dX8_spill_1 rfl ?_
  refine A_vI1 (mj := mX8_isTrail) dX8_spill_2 hR.rm (by decide) ok_X8_isTrail mv_X8_isTrail ml_RX8_157 (by assumption) rfl rfl rfl (m_isTrail hO hrI hwT) (fun z2 M2 g2 k2 q2 => ?_)
  obtain ⟨e2, z2r, q2⟩ := q2
  subst M2
  refine A_if_ne (tgt := 11) dX8_spill_5 (by decide) (fun h5 => ?_) (fun h5 => ?_)
  · skip
    have dt : 0 ≤ t ∧ t < oT (sT S) := q2.mp (by omega)
    refine A_iload_n dX8_spill_11 rfl ?_
    refine A_i2l dX8_spill_12 ?_
    refine A_lconst dX8_spill_13 ?_
    refine A_ldc2 dX8_spill_14 kc_RX8_183 (by decide) ?_
    refine A_sI3 (mj := mX8_in) dX8_spill_17 hR.rm (by decide) ok_X8_in st_X8_in ml_RX8_73 rfl (m_in) (fun z17 M17 g17 k17 q17 => ?_)
    obtain ⟨e17, z17r, q17⟩ := q17
    subst M17
    refine A_if_ne (tgt := 26) dX8_spill_20 (by decide) (fun h20 => ?_) (fun h20 => ?_)
    · skip
      have da : 0 ≤ v ∧ v ≤ 99 := by have := q17.mp (by omega); exact ⟨by omega, by omega⟩
      refine A_aload_n dX8_spill_26 rfl ?_
      refine A_getR dX8_spill_27 fl_RX8_7 (by assumption) (by rfl) ?_
      refine A_iconst dX8_spill_30 (by decide) ?_
      refine A_iload_n dX8_spill_31 rfl ?_
      refine A_iadd dX8_spill_32 ⟨by omega, by omega⟩ ?_
      refine A_iald dX8_spill_33 (by assumption) (by omega) (by omega) ?_
      rw [cs t (by omega) (by omega)]
      refine A_istore_n dX8_spill_34 (by decide) rfl ?_
      refine A_aload_n dX8_spill_35 rfl ?_
      refine A_getR dX8_spill_36 fl_RX8_7 (by assumption) (by rfl) ?_
      refine A_iconst dX8_spill_39 (by decide) ?_
      refine A_iload_n dX8_spill_40 rfl ?_
      refine A_iadd dX8_spill_41 ⟨by omega, by omega⟩ ?_
      refine A_iload_n dX8_spill_42 rfl ?_
      refine A_iast dX8_spill_43 (by assumption) (by omega) (by omega) (fun M43 e43 k43 => ?_)
      refine A_iload_n dX8_spill_44 rfl ?_
      exact A_iret hR dX8_spill_45 rfl (by
      obtain ⟨u1, u2⟩ := up_0 (j := 3 + t) (v := v) (C' := spC (sC S) t v) hrM (by omega) ⟨by rw [if_neg (by omega)]; rfl, by rw [if_neg (by omega)]; rfl, by rw [if_neg (by omega)]; rfl⟩ (fun k x y => by
        show _ = if k = t then v else csS (sC S) k
        by_cases q : k = t
        · rw [if_pos (by omega), if_pos q]
        · rw [if_neg (by omega), if_neg q]) (fun k x y => ⟨by rw [if_neg (by omega)]; rfl, by rw [if_neg (by omega)]; rfl, by rw [if_neg (by omega)]; rfl, by rw [if_neg (by omega)]; rfl⟩)
      rw [← e43] at u1 u2
      have u3 := uC_0 hY hwT u1 u2
      exact ⟨_, rfl, by unfold g_spill; rw [if_pos ⟨dt, da⟩]; exact u3.1, u3.2, by unfold f_spill; rw [if_pos dt, if_pos da]⟩)
    · skip
      refine A_bipush dX8_spill_23 bp_m3 (by decide) ?_
      exact A_iret hR dX8_spill_25 rfl ⟨_, rfl, by unfold g_spill; rw [if_neg (fun q => by have := q17.mpr ⟨by omega, by omega⟩; omega)]; exact hY, frY_r, by unfold f_spill; rw [if_pos dt, if_neg (fun q => by have := q17.mpr ⟨by omega, by omega⟩; omega)]⟩
  · skip
    refine A_bipush dX8_spill_8 bp_m2 (by decide) ?_
    exact A_iret hR dX8_spill_10 rfl ⟨_, rfl, by unfold g_spill; rw [if_neg (fun q => by have := q2.mpr q.1; omega)]; exact hY, frY_r, by unfold f_spill; rw [if_neg (fun q => by have := q2.mpr q; omega)]⟩

set_option maxRecDepth 100000 in
set_option maxHeartbeats 4000000 in
theorem m_stamp {E : EN} {l : Launch} {M : Mem} {m : Nat} {S : GS} (hO : isMod E m) (hY : rY M m S) (hw : wS S) {f v : Int} : Cn E l mX8_stamp 2 [vR m, vI f, vI v] M (fun r M1 => ∃ z, r = vI z ∧ (rY M1 m (g_stamp S f v) ∧ frY M M1 m ∧ z = f_stamp S f v)) := by
  refine Cn.of (by decide) rfl (Nat.le_of_ble_eq_true rfl) 1 rfl (fun oka okm G hR => ?_)
  obtain ⟨a0, a1, a2, a3, a4, a5, a6, a7, a8, a9, a10, a11, a12⟩ := id hO
  obtain ⟨hrI, hrM, hk0, hk1, hrb, ⟨hb0, hb1⟩, ⟨hL, hX⟩, ⟨hN, hsn⟩, hcr⟩ := id hY
  obtain ⟨hwT, ⟨hwC, hwG⟩, ⟨wb0, wb1⟩, wk0, wk1, wL, ⟨wN, wsn⟩, wcr, wcr0⟩ := id hw
  obtain ⟨⟨i0, i1, i2, i3⟩, ik, it, ie⟩ := id hrI
  obtain ⟨⟨c0, c1, c2⟩, cs, cf⟩ := rM_0 hrM
  obtain ⟨wt0, wtk, wtt, wtf⟩ := id hwT
  obtain ⟨wc0, wcs, wcf⟩ := id hwC
  refine A_aload_n dX8_stamp_0 rfl ?_
  refine A_iload_n dX8_stamp_1 rfl ?_
  refine A_vI1 (mj := mX8_isFile) dX8_stamp_2 hR.rm (by decide) ok_X8_isFile mv_X8_isFile ml_RX8_160 (by assumption) rfl rfl rfl (m_isFile hO hrI hwT) (fun z2 M2 g2 k2 q2 => ?_)
  obtain ⟨e2, z2r, q2⟩ := q2
  subst M2
  refine A_if_ne (tgt := 11) dX8_stamp_5 (by decide) (fun h5 => ?_) (fun h5 => ?_)
  · skip
    have dt : 0 ≤ f ∧ f < oF (sT S) := q2.mp (by omega)
    have f1 := cf f (by omega) (by omega)
    refine A_iload_n dX8_stamp_11 rfl ?_
    refine A_i2l dX8_stamp_12 ?_
    refine A_lconst dX8_stamp_13 ?_
    refine A_ldc2 dX8_stamp_14 kc_RX8_188 (by decide) ?_
    refine A_sI3 (mj := mX8_in) dX8_stamp_17 hR.rm (by decide) ok_X8_in st_X8_in ml_RX8_73 rfl (m_in) (fun z17 M17 g17 k17 q17 => ?_)
    obtain ⟨e17, z17r, q17⟩ := q17
    subst M17
    refine A_if_ne (tgt := 26) dX8_stamp_20 (by decide) (fun h20 => ?_) (fun h20 => ?_)
    · skip
      have da : 0 ≤ v ∧ v ≤ 9 := by have := q17.mp (by omega); exact ⟨by omega, by omega⟩
      refine A_aload_n dX8_stamp_26 rfl ?_
      refine A_getR dX8_stamp_27 fl_RX8_7 (by assumption) (by rfl) ?_
      refine A_bipush dX8_stamp_30 bp_33 (by decide) ?_
      refine A_iload_n dX8_stamp_32 rfl ?_
      refine A_iadd dX8_stamp_33 ⟨by omega, by omega⟩ ?_
      refine A_iald dX8_stamp_34 (by assumption) (by omega) (by omega) ?_
      rw [f1.2.2.2]
      refine A_iconst dX8_stamp_35 (by decide) ?_
      refine A_icmp_eq (tgt := 42) dX8_stamp_36 (by decide) (fun h36 => ?_) (fun h36 => ?_)
      · skip
        refine A_aload_n dX8_stamp_42 rfl ?_
        refine A_getR dX8_stamp_43 fl_RX8_7 (by assumption) (by rfl) ?_
        refine A_bipush dX8_stamp_46 bp_21 (by decide) ?_
        refine A_iload_n dX8_stamp_48 rfl ?_
        refine A_iadd dX8_stamp_49 ⟨by omega, by omega⟩ ?_
        refine A_iald dX8_stamp_50 (by assumption) (by omega) (by omega) ?_
        rw [f1.2.1]
        refine A_istore_n dX8_stamp_51 (by decide) rfl ?_
        refine A_aload_n dX8_stamp_52 rfl ?_
        refine A_getR dX8_stamp_53 fl_RX8_7 (by assumption) (by rfl) ?_
        refine A_bipush dX8_stamp_56 bp_21 (by decide) ?_
        refine A_iload_n dX8_stamp_58 rfl ?_
        refine A_iadd dX8_stamp_59 ⟨by omega, by omega⟩ ?_
        refine A_iload_n dX8_stamp_60 rfl ?_
        refine A_iast dX8_stamp_61 (by assumption) (by omega) (by omega) (fun M61 e61 k61 => ?_)
        refine A_iload_n dX8_stamp_62 rfl ?_
        exact A_iret hR dX8_stamp_63 rfl (by
      obtain ⟨u1, u2⟩ := up_0 (j := 21 + f) (v := v) (C' := stC (sC S) f v) hrM (by omega) ⟨by rw [if_neg (by omega)]; rfl, by rw [if_neg (by omega)]; rfl, by rw [if_neg (by omega)]; rfl⟩ (fun k x y => by rw [if_neg (by omega)]; rfl) (fun k x y => ⟨by rw [if_neg (by omega)]; rfl, by
        show _ = if k = f then v else csSw (sC S) k
        by_cases q : k = f
        · rw [if_pos (by omega), if_pos q]
        · rw [if_neg (by omega), if_neg q], by rw [if_neg (by omega)]; rfl, by rw [if_neg (by omega)]; rfl⟩)
      rw [← e61] at u1 u2
      have u3 := uC_0 hY hwT u1 u2
      exact ⟨_, rfl, by unfold g_stamp; rw [if_pos ⟨dt, da, by omega⟩]; exact u3.1, u3.2, by unfold f_stamp; rw [if_pos dt, if_pos da, if_pos (by omega)]⟩)
      · skip
        refine A_bipush dX8_stamp_39 bp_m4 (by decide) ?_
        exact A_iret hR dX8_stamp_41 rfl ⟨_, rfl, by unfold g_stamp; rw [if_neg (by omega)]; exact hY, frY_r, by unfold f_stamp; rw [if_pos dt, if_pos da, if_neg (by omega)]⟩
    · skip
      refine A_bipush dX8_stamp_23 bp_m3 (by decide) ?_
      exact A_iret hR dX8_stamp_25 rfl ⟨_, rfl, by unfold g_stamp; rw [if_neg (fun q => by have := q17.mpr ⟨by omega, by omega⟩; omega)]; exact hY, frY_r, by unfold f_stamp; rw [if_pos dt, if_neg (fun q => by have := q17.mpr ⟨by omega, by omega⟩; omega)]⟩
  · skip
    refine A_bipush dX8_stamp_8 bp_m2 (by decide) ?_
    exact A_iret hR dX8_stamp_10 rfl ⟨_, rfl, by unfold g_stamp; rw [if_neg (fun q => by have := q2.mpr q.1; omega)]; exact hY, frY_r, by unfold f_stamp; rw [if_neg (fun q => by have := q2.mpr q; omega)]⟩

set_option maxRecDepth 100000 in
set_option maxHeartbeats 4000000 in
theorem m_sit {E : EN} {l : Launch} {M : Mem} {m : Nat} {S : GS} (hO : isMod E m) (hY : rY M m S) (hw : wS S) {d : Int} : Cn E l mX8_sit 2 [vR m, vI d] M (fun r M1 => ∃ z, r = vI z ∧ (rY M1 m (g_sit S d) ∧ frY M M1 m ∧ z = f_sit S d)) := by
  refine Cn.of (by decide) rfl (Nat.le_of_ble_eq_true rfl) 1 rfl (fun oka okm G hR => ?_)
  obtain ⟨a0, a1, a2, a3, a4, a5, a6, a7, a8, a9, a10, a11, a12⟩ := id hO
  obtain ⟨hrI, hrM, hk0, hk1, hrb, ⟨hb0, hb1⟩, ⟨hL, hX⟩, ⟨hN, hsn⟩, hcr⟩ := id hY
  obtain ⟨hwT, ⟨hwC, hwG⟩, ⟨wb0, wb1⟩, wk0, wk1, wL, ⟨wN, wsn⟩, wcr, wcr0⟩ := id hw
  obtain ⟨⟨i0, i1, i2, i3⟩, ik, it, ie⟩ := id hrI
  obtain ⟨⟨c0, c1, c2⟩, cs, cf⟩ := rM_0 hrM
  obtain ⟨wt0, wtk, wtt, wtf⟩ := id hwT
  obtain ⟨wc0, wcs, wcf⟩ := id hwC
  have j16 : (d = -1 ∨ (0 ≤ d ∧ d < oD (sT S))) → AW E mX8_sit G 0 0 16 [vR m, vI d, vU] [] M := by
    intro dt
    refine A_aload_n dX8_sit_16 rfl ?_
    refine A_getR dX8_sit_17 fl_RX8_7 (by assumption) (by rfl) ?_
    refine A_iconst dX8_sit_20 (by decide) ?_
    refine A_iald dX8_sit_21 (by assumption) (by omega) (by omega) ?_
    rw [c2]
    refine A_istore_n dX8_sit_22 (by decide) rfl ?_
    refine A_aload_n dX8_sit_23 rfl ?_
    refine A_getR dX8_sit_24 fl_RX8_7 (by assumption) (by rfl) ?_
    refine A_iconst dX8_sit_27 (by decide) ?_
    refine A_iload_n dX8_sit_28 rfl ?_
    refine A_iast dX8_sit_29 (by assumption) (by omega) (by omega) (fun M29 e29 k29 => ?_)
    refine A_iload_n dX8_sit_30 rfl ?_
    exact A_iret hR dX8_sit_31 rfl (by
      obtain ⟨u1, u2⟩ := up_0 (j := 2) (v := d) (C' := siC (sC S) d) hrM (by omega) ⟨rfl, rfl, rfl⟩ (fun k x y => by rw [if_neg (by omega)]; rfl) (fun k x y => ⟨by rw [if_neg (by omega)]; rfl, by rw [if_neg (by omega)]; rfl, by rw [if_neg (by omega)]; rfl, by rw [if_neg (by omega)]; rfl⟩)
      rw [← e29] at u1 u2
      have u3 := uC_0 hY hwT u1 u2
      exact ⟨_, rfl, by unfold g_sit; rw [if_pos dt]; exact u3.1, u3.2, by unfold f_sit; rw [if_pos dt]⟩)
  refine A_iload_n dX8_sit_0 rfl ?_
  refine A_iconst dX8_sit_1 (by decide) ?_
  refine A_icmp_eq (tgt := 16) dX8_sit_2 (by decide) (fun h2 => ?_) (fun h2 => ?_)
  · skip
    first | exact j16 (Or.inl (by omega)) | exact j16 (Or.inr (q7.mp (by omega)))
  · skip
    refine A_aload_n dX8_sit_5 rfl ?_
    refine A_iload_n dX8_sit_6 rfl ?_
    refine A_vI1 (mj := mX8_isDesk) dX8_sit_7 hR.rm (by decide) ok_X8_isDesk mv_X8_isDesk ml_RX8_151 (by assumption) rfl rfl rfl (m_isDesk hO hrI hwT) (fun z7 M7 g7 k7 q7 => ?_)
    obtain ⟨e7, z7r, q7⟩ := q7
    subst M7
    refine A_if_ne (tgt := 16) dX8_sit_10 (by decide) (fun h10 => ?_) (fun h10 => ?_)
    · skip
      first | exact j16 (Or.inl (by omega)) | exact j16 (Or.inr (q7.mp (by omega)))
    · skip
      refine A_bipush dX8_sit_13 bp_m2 (by decide) ?_
      exact A_iret hR dX8_sit_15 rfl ⟨_, rfl, by unfold g_sit; rw [if_neg (fun q => q.elim (fun z => by omega) (fun z => by have := q7.mpr z; omega))]; exact hY, frY_r, by unfold f_sit; rw [if_neg (fun q => q.elim (fun z => by omega) (fun z => by have := q7.mpr z; omega))]⟩

set_option maxRecDepth 100000 in
set_option maxHeartbeats 4000000 in
theorem m_rain {E : EN} {l : Launch} {M : Mem} {m : Nat} {S : GS} (hO : isMod E m) (hY : rY M m S) (hw : wS S) : Cn E l mX8_rain 0 [vR m] M (fun r M1 => ∃ z, r = vI z ∧ (rY M1 m (uC S (rnC (sC S))) ∧ frY M M1 m ∧ z = hvN (csS (sC S)) (oT (sT S)))) := by
  refine Cn.of (by decide) rfl (Nat.le_of_ble_eq_true rfl) 2 rfl (fun oka okm G hR => ?_)
  obtain ⟨a0, a1, a2, a3, a4, a5, a6, a7, a8, a9, a10, a11, a12⟩ := id hO
  obtain ⟨hrI, hrM, hk0, hk1, hrb, ⟨hb0, hb1⟩, ⟨hL, hX⟩, ⟨hN, hsn⟩, hcr⟩ := id hY
  obtain ⟨hwT, ⟨hwC, hwG⟩, ⟨wb0, wb1⟩, wk0, wk1, wL, ⟨wN, wsn⟩, wcr, wcr0⟩ := id hw
  obtain ⟨⟨i0, i1, i2, i3⟩, ik, it, ie⟩ := id hrI
  obtain ⟨⟨c0, c1, c2⟩, cs, cf⟩ := rM_0 hrM
  obtain ⟨wt0, wtk, wtt, wtf⟩ := id hwT
  obtain ⟨wc0, wcs, wcf⟩ := id hwC
  refine A_iconst dX8_rain_0 (by decide) ?_
  refine A_istore_n dX8_rain_1 (by decide) rfl ?_
  refine A_iconst dX8_rain_2 (by decide) ?_
  refine A_istore_n dX8_rain_3 (by decide) rfl ?_
  have lp : ∀ (k : Nat) (i : Nat) (x : Int) (M1 : Mem), oT (sT S) - i = k → (i ≤ oT (sT S)) → (x = hvN (csS (sC S)) i) → (∀ y, y ≠ m + 1 → M1 y = M y) → (∀ k : Int, M1 (m + 1) k = if 3 ≤ k ∧ k < 3 + i then csS (sC S) (k - 3) / 2 else M (m + 1) k) → AW E mX8_rain G 0 0 4 [vR m, vI x, vI i] [] M1 := by
    intro k
    induction k using Nat.strongRecOn with
    | ind k ih =>
      intro i x M1 hk h0 hx he hk
      refine A_iload_n dX8_rain_4 rfl ?_
      refine A_aload_n dX8_rain_5 rfl ?_
      refine A_getI (ki := 10) dX8_rain_6 fl_RX8_61 (by assumption) (by rfl) rfl ?_
      rw [he m (by omega), i1]
      refine A_icmp_ge (tgt := 49) dX8_rain_9 (by decide) (fun h9 => ?_) (fun h9 => ?_)
      · skip
        have hi : i = oT (sT S) := by omega
        subst hi
        refine A_iload_n dX8_rain_49 rfl ?_
        exact A_iret hR dX8_rain_50 rfl (by
      have u2 : rM M1 m 0 (sT S) (rnC (sC S)) := rM_0i ⟨by rw [hk, if_neg (by omega)]; exact c0, by rw [hk, if_neg (by omega)]; exact c1, by rw [hk, if_neg (by omega)]; exact c2⟩ (fun k x y => by
        rw [hk, if_pos (by omega), show 3 + k - 3 = k by omega]; rfl) (fun k x y => by
        rw [hk, hk, hk, hk, if_neg (by omega), if_neg (by omega), if_neg (by omega), if_neg (by omega)]
        exact cf k x y)
      have u3 := uC_0 hY hwT ⟨fun y y1 _ => he y y1, fun k z => by rw [hk, if_neg (by omega)]⟩ u2
      exact ⟨_, rfl, u3.1, u3.2, hx⟩)
      · skip
        have hv := hvN_r (csS (sC S)) i
        have sv := wcs i (by omega) (by omega)
        have v1 : M1 (m + 1) (3 + i) = csS (sC S) i := by rw [hk, if_neg (by omega)]; exact cs i (by omega) (by omega)
        refine A_aload_n dX8_rain_12 rfl ?_
        refine A_getR dX8_rain_13 fl_RX8_7 (by assumption) (by rfl) ?_
        refine A_iconst dX8_rain_16 (by decide) ?_
        refine A_iload_n dX8_rain_17 rfl ?_
        refine A_iadd dX8_rain_18 ⟨by omega, by omega⟩ ?_
        refine A_dup2 dX8_rain_19 rfl rfl ?_
        refine A_iald dX8_rain_20 (by assumption) (by omega) (by omega) ?_
        rw [v1]
        refine A_iconst dX8_rain_21 (by decide) ?_
        refine A_idiv  dX8_rain_22 (by decide) (by rw [Int.tdiv_eq_ediv_of_nonneg sv.1]; exact ⟨by omega, by omega⟩) ?_
        rw [Int.tdiv_eq_ediv_of_nonneg sv.1]
        refine A_iast dX8_rain_23 (by assumption) (by omega) (by omega) (fun M23 e23 k23 => ?_)
        have j41 : ∀ u : Int, (x + u = hvN (csS (sC S)) (i + 1)) → AW E mX8_rain G 0 0 41 [vR m, vI x, vI i] [vI u, vI x] M23 := by
          intro u hu
          have hv1 := hvN_r (csS (sC S)) (i + 1)
          refine A_iadd dX8_rain_41 ⟨by omega, by omega⟩ ?_
          refine A_istore_n dX8_rain_42 (by decide) rfl ?_
          refine A_iinc dX8_rain_43 (by decide) rfl rfl ⟨by omega, by omega⟩ ?_
          refine A_goto (tgt := 4) dX8_rain_46 (by decide) ?_
          exact ih _ (by omega) (i + 1) _ M23 rfl (by omega) hu (fun y hy => by rw [e23, upm_c hy]; exact he y hy) (fun k => by
            rw [e23, upm_x]
            by_cases q : k = 3 + i
            · rw [if_pos ⟨rfl, q⟩, if_pos (by omega), q, show (3 + (i : Int)) - 3 = i by omega]
            · rw [if_neg (fun z => q z.2), hk k]
              by_cases z : 3 ≤ k ∧ k < 3 + i
              · rw [if_pos z, if_pos (by omega)]
              · rw [if_neg z, if_neg (by omega)])
        refine A_iload_n dX8_rain_24 rfl ?_
        refine A_aload_n dX8_rain_25 rfl ?_
        refine A_getR dX8_rain_26 fl_RX8_7 (by assumption) (by rfl) ?_
        refine A_iconst dX8_rain_29 (by decide) ?_
        refine A_iload_n dX8_rain_30 rfl ?_
        refine A_iadd dX8_rain_31 ⟨by omega, by omega⟩ ?_
        refine A_iald dX8_rain_32 (by assumption) (by omega) (by omega) ?_
        rw [show M23 (m + 1) (3 + i) = csS (sC S) i / 2 by rw [e23, upm_s]]
        refine A_if_le (tgt := 40) dX8_rain_33 (by decide) (fun h33 => ?_) (fun h33 => ?_)
        · skip
          refine A_iconst dX8_rain_40 (by decide) ?_
          first | exact j41 1 (by rw [hvN, if_pos (by omega)]; omega) | exact j41 0 (by rw [hvN, if_neg (by omega)]; omega)
        · skip
          refine A_iconst dX8_rain_36 (by decide) ?_
          refine A_goto (tgt := 41) dX8_rain_37 (by decide) ?_
          first | exact j41 1 (by rw [hvN, if_pos (by omega)]; omega) | exact j41 0 (by rw [hvN, if_neg (by omega)]; omega)
  exact lp _ 0 0 M rfl (by omega) rfl (fun _ _ => rfl) (fun k => by rw [if_neg (by omega)])

set_option maxRecDepth 100000 in
set_option maxHeartbeats 4000000 in
theorem m_keep {E : EN} {l : Launch} {M : Mem} {m : Nat} {S : GS} (hO : isMod E m) (hY : rY M m S) (hw : wS S) {k : Int} : Cn E l mX8_keep 2 [vR m, vI k] M (fun r M1 => ∃ z, r = vI z ∧ (rY M1 m (g_keep S k) ∧ frY M M1 m ∧ z = f_keep S k)) := by
  refine Cn.of (by decide) rfl (Nat.le_of_ble_eq_true rfl) 0 rfl (fun oka okm G hR => ?_)
  obtain ⟨a0, a1, a2, a3, a4, a5, a6, a7, a8, a9, a10, a11, a12⟩ := id hO
  obtain ⟨hrI, hrM, hk0, hk1, hrb, ⟨hb0, hb1⟩, ⟨hL, hX⟩, ⟨hN, hsn⟩, hcr⟩ := id hY
  obtain ⟨hwT, ⟨hwC, hwG⟩, ⟨wb0, wb1⟩, wk0, wk1, wL, ⟨wN, wsn⟩, wcr, wcr0⟩ := id hw
  obtain ⟨⟨i0, i1, i2, i3⟩, ik, it, ie⟩ := id hrI
  obtain ⟨⟨c0, c1, c2⟩, cs, cf⟩ := rM_0 hrM
  obtain ⟨wt0, wtk, wtt, wtf⟩ := id hwT
  obtain ⟨wc0, wcs, wcf⟩ := id hwC
  refine A_iload_n dX8_keep_0 rfl ?_
  refine A_i2l dX8_keep_1 ?_
  refine A_lconst dX8_keep_2 ?_
  refine A_lconst dX8_keep_3 ?_
  refine A_sI3 (mj := mX8_in) dX8_keep_4 hR.rm (by decide) ok_X8_in st_X8_in ml_RX8_73 rfl (m_in) (fun z4 M4 g4 k4 q4 => ?_)
  obtain ⟨e4, z4r, q4⟩ := q4
  subst M4
  refine A_if_ne (tgt := 13) dX8_keep_7 (by decide) (fun h7 => ?_) (fun h7 => ?_)
  · skip
    have da : 0 ≤ k ∧ k ≤ 1 := by have := q4.mp (by omega); exact ⟨by omega, by omega⟩
    obtain ⟨k, rfl⟩ : ∃ j : Nat, k = j := ⟨k.toNat, by omega⟩
    refine A_aload_n dX8_keep_13 rfl ?_
    refine A_iconst dX8_keep_14 (by decide) ?_
    refine A_iconst dX8_keep_15 (by decide) ?_
    refine A_iload_n dX8_keep_16 rfl ?_
    refine A_iadd dX8_keep_17 ⟨by omega, by omega⟩ ?_
    refine A_vV2 (mj := mX8_copy) dX8_keep_18 hR.rm (by decide) ok_X8_copy mv_X8_copy ml_RX8_67 (by assumption) rfl rfl rfl (m_copy (a := 0) (b := 1 + k) hO (by omega) (by omega) (by omega)) (fun M18 k18 q18 => ?_)
    obtain ⟨q18a, q18b, q18c⟩ := q18
    refine A_aload_n dX8_keep_21 rfl ?_
    refine A_getR dX8_keep_22 fl_RX8_13 (by assumption) (by rfl) ?_
    refine A_iload_n dX8_keep_25 rfl ?_
    refine A_iconst dX8_keep_26 (by decide) ?_
    refine A_zast dX8_keep_27 (by first | exact Or.inl rfl | exact Or.inr rfl) (by assumption) (by omega) (by omega) (fun M27 e27 k27 => ?_)
    refine A_aload_n dX8_keep_28 rfl ?_
    refine A_getR dX8_keep_29 fl_RX8_7 (by assumption) (by rfl) ?_
    refine A_iconst dX8_keep_32 (by decide) ?_
    refine A_iald dX8_keep_33 (by assumption) (by omega) (by omega) ?_
    rw [show M27 (m + 1) 0 = csG (sC S) by rw [e27, upm_c (by omega), q18b 0 (by omega), c0]]
    exact A_iret hR dX8_keep_34 rfl (by
      have u := rY_K (M1 := M27) (k := k) hY hwT (by omega) (fun y y1 y2 => by rw [e27, upm_c y2]; exact q18a y y1) (by
        funext i
        rw [e27, upm_x, q18a _ (by omega)]
        by_cases q : i = k
        · rw [if_pos ⟨rfl, q⟩, if_pos q]
        · rw [if_neg (fun z => q z.2), if_neg q]) ⟨fun j hj => by rw [e27, upm_c (by omega)]; exact q18b j hj, fun j x y => by rw [e27, upm_c (by omega)]; exact q18c j x y⟩
      exact ⟨_, rfl, by unfold g_keep; rw [if_pos da]; exact u, fun y hy => by rw [e27, upm_c (by omega)]; exact q18a y (by omega), by unfold f_keep; rw [if_pos da]⟩)
  · skip
    refine A_bipush dX8_keep_10 bp_m2 (by decide) ?_
    exact A_iret hR dX8_keep_12 rfl ⟨_, rfl, by unfold g_keep; rw [if_neg (fun q => by have := q4.mpr ⟨by omega, by omega⟩; omega)]; exact hY, frY_r, by unfold f_keep; rw [if_neg (fun q => by have := q4.mpr ⟨by omega, by omega⟩; omega)]⟩

set_option maxRecDepth 100000 in
set_option maxHeartbeats 4000000 in
theorem m_back {E : EN} {l : Launch} {M : Mem} {m : Nat} {S : GS} (hO : isMod E m) (hY : rY M m S) (hw : wS S) {k : Int} : Cn E l mX8_back 2 [vR m, vI k] M (fun r M1 => ∃ z, r = vI z ∧ (rY M1 m (g_back S k) ∧ frY M M1 m ∧ z = f_back S k)) := by
  refine Cn.of (by decide) rfl (Nat.le_of_ble_eq_true rfl) 0 rfl (fun oka okm G hR => ?_)
  obtain ⟨a0, a1, a2, a3, a4, a5, a6, a7, a8, a9, a10, a11, a12⟩ := id hO
  obtain ⟨hrI, hrM, hk0, hk1, hrb, ⟨hb0, hb1⟩, ⟨hL, hX⟩, ⟨hN, hsn⟩, hcr⟩ := id hY
  obtain ⟨hwT, ⟨hwC, hwG⟩, ⟨wb0, wb1⟩, wk0, wk1, wL, ⟨wN, wsn⟩, wcr, wcr0⟩ := id hw
  obtain ⟨⟨i0, i1, i2, i3⟩, ik, it, ie⟩ := id hrI
  obtain ⟨⟨c0, c1, c2⟩, cs, cf⟩ := rM_0 hrM
  obtain ⟨wt0, wtk, wtt, wtf⟩ := id hwT
  obtain ⟨wc0, wcs, wcf⟩ := id hwC
  refine A_iload_n dX8_back_0 rfl ?_
  refine A_i2l dX8_back_1 ?_
  refine A_lconst dX8_back_2 ?_
  refine A_lconst dX8_back_3 ?_
  refine A_sI3 (mj := mX8_in) dX8_back_4 hR.rm (by decide) ok_X8_in st_X8_in ml_RX8_73 rfl (m_in) (fun z4 M4 g4 k4 q4 => ?_)
  obtain ⟨e4, z4r, q4⟩ := q4
  subst M4
  refine A_if_ne (tgt := 13) dX8_back_7 (by decide) (fun h7 => ?_) (fun h7 => ?_)
  · skip
    have da : 0 ≤ k ∧ k ≤ 1 := by have := q4.mp (by omega); exact ⟨by omega, by omega⟩
    obtain ⟨k, rfl⟩ : ∃ j : Nat, k = j := ⟨k.toNat, by omega⟩
    have bk : M (m + 2) k = if k = 0 then sb0 S else sb1 S := by
      split
      · next q => rw [q]; exact hb0
      · rw [show k = 1 by omega]; exact hb1
    refine A_aload_n dX8_back_13 rfl ?_
    refine A_getR dX8_back_14 fl_RX8_13 (by assumption) (by rfl) ?_
    refine A_iload_n dX8_back_17 rfl ?_
    refine A_zald dX8_back_18 (by assumption) (by omega) (by omega) ?_
    rw [bk]
    refine A_if_ne (tgt := 25) dX8_back_19 (by decide) (fun h19 => ?_) (fun h19 => ?_)
    · skip
      refine A_aload_n dX8_back_25 rfl ?_
      refine A_iconst dX8_back_26 (by decide) ?_
      refine A_iload_n dX8_back_27 rfl ?_
      refine A_iadd dX8_back_28 ⟨by omega, by omega⟩ ?_
      refine A_iconst dX8_back_29 (by decide) ?_
      refine A_vV2 (mj := mX8_copy) dX8_back_30 hR.rm (by decide) ok_X8_copy mv_X8_copy ml_RX8_67 (by assumption) rfl rfl rfl (m_copy (a := 1 + k) (b := 0) hO (by omega) (by omega) (by omega)) (fun M30 k30 q30 => ?_)
      skip
      have u : frM M M30 m 0 ∧ rM M30 m 0 (sT S) (if k = 0 then sK0 S else sK1 S) := by
        refine cp_0 (a := 1 + k) hwT ?_ q30
        rcases (show k = 0 ∨ k = 1 by omega) with rfl | rfl
        · exact hk0 (by rw [if_pos rfl] at h19; omega)
        · exact hk1 (by rw [if_neg (by omega)] at h19; omega)
      have u3 := uC_0 hY hwT u.1 u.2
      refine A_aload_n dX8_back_33 rfl ?_
      refine A_getR dX8_back_34 fl_RX8_7 (by assumption) (by rfl) ?_
      refine A_iconst dX8_back_37 (by decide) ?_
      refine A_iald dX8_back_38 (by assumption) (by omega) (by omega) ?_
      rw [(rM_0 u.2).1.1]
      exact A_iret hR dX8_back_39 rfl (by
      refine ⟨_, rfl, ?_⟩
      unfold g_back f_back
      rcases (show k = 0 ∨ k = 1 by omega) with rfl | rfl
      · rw [if_pos rfl] at h19 u3
        refine ⟨by rw [if_pos ⟨by omega, by omega⟩]; exact u3.1, u3.2, ?_⟩
        show csG (sK0 S) = _
        rw [if_pos (by omega), if_pos (by omega)]
      · rw [if_neg (by omega)] at h19 u3
        refine ⟨by rw [if_neg (by omega), if_pos ⟨by omega, by omega⟩]; exact u3.1, u3.2, ?_⟩
        show csG (sK1 S) = _
        rw [if_neg (by omega), if_pos (by omega), if_pos (by omega)])
    · skip
      refine A_bipush dX8_back_22 bp_m4 (by decide) ?_
      exact A_iret hR dX8_back_24 rfl (by
      refine ⟨_, rfl, ?_⟩
      unfold g_back f_back
      rcases (show k = 0 ∨ k = 1 by omega) with rfl | rfl
      · rw [if_pos rfl] at h19
        rw [if_neg (by omega), if_neg (by omega), if_pos (by omega), if_neg (by omega)]
        exact ⟨hY, frY_r, rfl⟩
      · rw [if_neg (by omega)] at h19
        rw [if_neg (by omega), if_neg (by omega), if_neg (by omega), if_pos (by omega), if_neg (by omega)]
        exact ⟨hY, frY_r, rfl⟩)
  · skip
    refine A_bipush dX8_back_10 bp_m2 (by decide) ?_
    exact A_iret hR dX8_back_12 rfl ⟨_, rfl, by unfold g_back; rw [if_neg (fun q => by have := q4.mpr ⟨by omega, by omega⟩; omega), if_neg (fun q => by have := q4.mpr ⟨by omega, by omega⟩; omega)]; exact hY, frY_r, by unfold f_back; rw [if_neg (fun q => by have := q4.mpr ⟨by omega, by omega⟩; omega), if_neg (fun q => by have := q4.mpr ⟨by omega, by omega⟩; omega)]⟩

