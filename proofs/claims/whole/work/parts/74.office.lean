/-! THE MODEL: fault, office; what is told by a text stays well told -/
theorem rd_w {x : Fn} {n : Nat} : ∀ (f p : Nat) (T : TD), p ≤ n → wT T → (rdR x n f p T).1 = -1 → wT (rdR x n f p T).2.2
  | 0, _, _, _, _, h => by
    have h : (0 : Int) = -1 := h
    omega
  | f + 1, p, T, hp, hT, h => by
    by_cases ok : (lnR x n p T).1 = -1
    · have hw3 : wN3 T := ⟨⟨hT.1.1, hT.1.2.1⟩, hT.1.2.2.1, hT.1.2.2.2.1⟩
      have lk := ln_ok hp hw3 ok
      have lw := wT_ap hT (ln_lok hw3 ok)
      have e := rdR_s (f := f) ok
      rw [e] at h ⊢
      show wT (tlR x n f (lnR x n p T).2.1 (lnT (lnR x n p T) T)).2.2
      have h : (tlR x n f (lnR x n p T).2.1 (lnT (lnR x n p T) T)).1 = -1 := h
      have tp := tk_r (x := x) lk.1
      by_cases c1 : n ≤ tkA x n (lnR x n p T).2.1
      · rw [tl_end c1]; exact lw
      · by_cases c2 : x (tkA x n (lnR x n p T).2.1) ≠ 59 ∨ f = 0
        · rw [tl_f c1 c2] at h
          have h : ((tkA x n (lnR x n p T).2.1 : Nat) : Int) = -1 := h
          omega
        · rw [tl_m c1 c2] at h ⊢
          exact rd_w f _ _ (by omega) lw h
    · exact absurd ((rdR_f (f := f) ok).symm.trans h) ok
theorem w_n3 {S : GS} (h : wS S) : wN3 (sT S) := ⟨⟨h.1.1.1, h.1.1.2.1⟩, h.1.1.2.2.1, h.1.1.2.2.2.1⟩
/-- behind office all stands well -/
theorem w_office {S : GS} (h : wS S) (hx : wX S) : wS (g_office S) ∧ wX (g_office S) := by
  unfold g_office
  by_cases e : f_fault S = -1
  · rw [if_pos e]
    have wt := rd_w (x := sX S) (n := sL S) 12 0 (sT S) (Nat.zero_le _) h.1 e
    refine ⟨⟨wt, ⟨bgC_w wt, ?_⟩, ⟨Or.inl rfl, Or.inl rfl⟩, fun z => ?_, fun z => ?_, ?_, ⟨?_, fun k x y => ?_⟩, fun k x y => ?_, fun k x y => rfl⟩, fun k x y => ?_⟩
    · show (0 : Int) ≤ 9999; decide
    · have z : (0 : Int) = 1 := z; omega
    · have z : (0 : Int) = 1 := z; omega
    · show 0 ≤ 200; omega
    · show 0 ≤ 6; omega
    · have y : k < ((0 : Nat) : Int) := y; omega
    · show (0 : Int) ≤ 0 ∧ (0 : Int) ≤ 99; decide
    · have y : k < ((0 : Nat) : Int) := y; omega
  · rw [if_neg e]; exact ⟨h, hx⟩
theorem rM_W {M : Mem} {m : Nat} {T : TD} (h : rM M m 156 T (bgC T)) : rW M m T := by
  obtain ⟨⟨a1, a2, a3⟩, a4, a5⟩ := h
  refine ⟨a2, fun k x y => ?_, fun k x y => ⟨?_, ?_⟩⟩
  · have := a4 k x y
    rwa [show ((156 : Nat) : Int) + 3 + k = 159 + k by omega] at this
  · have := (a5 k x y).1
    rwa [show ((156 : Nat) : Int) + 15 + k = 171 + k by omega] at this
  · have := (a5 k x y).2.1
    rwa [show ((156 : Nat) : Int) + 21 + k = 177 + k by omega] at this
theorem rW_fr {M M1 : Mem} {m : Nat} {T : TD} (h : rW M m T) (hf : M1 (m + 1) = M (m + 1)) : rW M1 m T := by
  unfold rW
  rw [hf]; exact h
set_option maxHeartbeats 1000000 in
theorem m_fault {E : EN} {l : Launch} {M : Mem} {m : Nat} {S : GS} (hO : isMod E m) (hY : rY M m S) (hw : wS S) (hx : wX S) : Cn E l mX8_fault 5 [vR m] M (fun r M1 => ∃ z, r = vI z ∧ (rY M1 m S ∧ frY M M1 m ∧ z = f_fault S)) :=
  Cn.mono (m_fault0 (n := sL S) (x := sX S) (T := sT S) hO hw.2.2.2.2.2.1 hx hY.2.2.2.2.2.2.1 ⟨hY.1.1.1, hY.1.1.2.1, hY.1.1.2.2.1⟩ (w_n3 hw)) (fun r M1 ⟨z, e, q1, q2, q3⟩ => ⟨z, e, rY_fr hY hw.1 (fun k hk => q2.2 k (by omega) (by omega)) (fun y hy => q2.1 y (by omega) (by omega)) (fun k hk => by rw [q2.1 (m + 1) (by omega) (by omega)]), fun y hy => q2.1 y (by omega) (by omega), q1⟩)
set_option maxRecDepth 100000 in
set_option maxHeartbeats 4000000 in
theorem m_office {E : EN} {l : Launch} {M : Mem} {m : Nat} {S : GS} (hO : isMod E m) (hY : rY M m S) (hw : wS S) (hwx : wX S) : Cn E l mX8_office 6 [vR m] M (fun r M1 => ∃ z, r = vI z ∧ (rY M1 m (g_office S) ∧ frY M M1 m ∧ z = f_office S)) := by
  refine Cn.of (by decide) rfl (Nat.le_of_ble_eq_true rfl) 1 rfl (fun oka okm G hR => ?_)
  obtain ⟨a0, a1, a2, a3, a4, a5, a6, a7, a8, a9, a10, a11, a12⟩ := id hO
  obtain ⟨hrI, hrM, hk0, hk1, hrb, ⟨hb0, hb1⟩, ⟨hL, hX⟩, ⟨hN, hsn⟩, hcr⟩ := id hY
  obtain ⟨hwT, ⟨hwC, hwG⟩, ⟨wb0, wb1⟩, wk0, wk1, wL, ⟨wN, wsn⟩, wcr, wcr0⟩ := id hw
  obtain ⟨⟨i0, i1, i2, i3⟩, ik, it, ie⟩ := id hrI
  obtain ⟨⟨c0, c1, c2⟩, cs, cf⟩ := rM_0 hrM
  obtain ⟨wt0, wtk, wtt, wtf⟩ := id hwT
  obtain ⟨wc0, wcs, wcf⟩ := id hwC
  obtain ⟨c, hc⟩ : ∃ c, c = (rdR (sX S) (sL S) 12 0 (sT S)).2.1 := ⟨_, rfl⟩
  obtain ⟨T', hT'⟩ : ∃ T', T' = (rdR (sX S) (sL S) 12 0 (sT S)).2.2 := ⟨_, rfl⟩
  refine A_aload_n dX8_office_0 rfl ?_
  refine A_vI0 (mj := mX8_fault) dX8_office_1 hR.rm (by decide) ok_X8_fault mv_X8_fault ml_RX8_142 (by assumption) rfl rfl rfl (m_fault0 (n := sL S) (x := sX S) (T := sT S) hO wL hwx ⟨hL, hX⟩ ⟨i0, i1, i2⟩ (w_n3 hw)) (fun z1 M1 g1 k1 q1 => ?_)
  obtain ⟨u0, u1, u2⟩ := q1
  refine A_iconst dX8_office_4 (by decide) ?_
  refine A_icmp_eq (tgt := 11) dX8_office_5 (by decide) (fun h5 => ?_) (fun h5 => ?_)
  · skip
    have uu := u2 h5
    rw [← hc, ← hT'] at uu
    obtain ⟨v1, v2, v3, v4, v5⟩ := uu
    obtain ⟨R, hR4⟩ : ∃ R, R = M1 (m + 4) := ⟨_, rfl⟩
    rw [← hR4] at v3 v5
    have ef : f_fault S = -1 := u0.symm.trans h5
    have hwT' : wT T' := by rw [hT']; exact rd_w 12 0 (sT S) (Nat.zero_le _) hwT ef
    refine A_iconst dX8_office_11 (by decide) ?_
    refine A_istore_n dX8_office_12 (by decide) rfl ?_
    have lp : ∀ (k : Nat) (i : Nat) (M3 : Mem), c - i = k → (i ≤ c) → (frT M1 M3 m) → (rI M3 m (apM R (sT S) i)) → (rW M3 m (apM R (sT S) i)) → AW E mX8_office G 0 0 13 [vR m, vI i] [] M3 := by
      intro k
      induction k using Nat.strongRecOn with
      | ind k ih =>
        intro i M3 hk h0 hf hI hW
        have h4 : M3 (m + 4) = R := by rw [hR4]; exact hf.1 _ (by omega) (by omega) (by omega) (by omega) (by omega) (by omega)
        have h5c : M3 m 5 = c := (hf.2.1 5 (by omega) (by omega) (by omega) (by omega)).trans v1
        refine A_iload_n dX8_office_13 rfl ?_
        refine A_aload_n dX8_office_14 rfl ?_
        refine A_getI (ki := 5) dX8_office_15 fl_RX8_112 (by assumption) (by rfl) rfl ?_
        rw [h5c]
        refine A_icmp_ge (tgt := 34) dX8_office_18 (by decide) (fun h18 => ?_) (fun h18 => ?_)
        · skip
          have hi : i = c := by omega
          subst hi
          rw [v3] at hI hW
          refine A_aload_n dX8_office_34 rfl ?_
          refine A_vV0 (mj := mX8_begin) dX8_office_35 hR.rm (by decide) ok_X8_begin mv_X8_begin ml_RX8_58 (by assumption) rfl rfl rfl (m_begin (T := T') hO hW hwT') (fun M35 k35 q35 => ?_)
          obtain ⟨b1, b2, b3⟩ := q35
          refine A_aload_n dX8_office_38 rfl ?_
          refine A_iconst dX8_office_39 (by decide) ?_
          refine A_putI (ki := 23) dX8_office_40 fl_RX8_148 fi8_23 (by assumption) (by rfl) rfl (fun M40 e40 k40 => ?_)
          refine A_aload_n dX8_office_43 rfl ?_
          refine A_getR dX8_office_44 fl_RX8_13 (by assumption) (by rfl) ?_
          refine A_iconst dX8_office_47 (by decide) ?_
          refine A_iconst dX8_office_48 (by decide) ?_
          refine A_zast dX8_office_49 (by first | exact Or.inl rfl | exact Or.inr rfl) (by assumption) (by omega) (by omega) (fun M49 e49 k49 => ?_)
          refine A_aload_n dX8_office_50 rfl ?_
          refine A_getR dX8_office_51 fl_RX8_13 (by assumption) (by rfl) ?_
          refine A_iconst dX8_office_54 (by decide) ?_
          refine A_iconst dX8_office_55 (by decide) ?_
          refine A_zast dX8_office_56 (by first | exact Or.inl rfl | exact Or.inr rfl) (by assumption) (by omega) (by omega) (fun M56 e56 k56 => ?_)
          refine A_aload_n dX8_office_57 rfl ?_
          refine A_iconst dX8_office_58 (by decide) ?_
          refine A_putI (ki := 3) dX8_office_59 fl_RX8_77 fi8_3 (by assumption) (by rfl) rfl (fun M59 e59 k59 => ?_)
          refine A_iconst dX8_office_62 (by decide) ?_
          refine A_istore_n dX8_office_63 (by decide) rfl ?_
          have lp : ∀ (k : Nat) (d : Nat) (M4 : Mem), 8 - d = k → (d ≤ 8) → (∀ y, y ≠ m + 12 → M4 y = M59 y) → (∀ k : Int, 0 ≤ k → k < d → M4 (m + 12) k = 0) → AW E mX8_office G 0 0 64 [vR m, vI d] [] M4 := by
            intro k
            induction k using Nat.strongRecOn with
            | ind k ih =>
              intro d M4 hk h0d hfd hxd
              refine A_iload_n dX8_office_64 rfl ?_
              refine A_bipush dX8_office_65 bp_8 (by decide) ?_
              refine A_icmp_ge (tgt := 83) dX8_office_67 (by decide) (fun h67 => ?_) (fun h67 => ?_)
              · skip
                have hd : d = 8 := by omega
                subst hd
                have K : ∀ y, y ≠ m → y ≠ m + 2 → y ≠ m + 12 → M4 y = M35 y := fun y ya yb yc => by rw [hfd y yc, e59, upm_c ya, e56, upm_c yb, e49, upm_c yb, e40, upm_c ya]
                have K0 : ∀ k : Int, k ≠ 3 → k ≠ 23 → M4 m k = M35 m k := fun k ka kb => by rw [hfd m (by omega), e59, upm_k ka, e56, upm_c (by omega), e49, upm_c (by omega), e40, upm_k kb]
                refine A_aload_n dX8_office_83 rfl ?_
                refine A_getI (ki := 5) dX8_office_84 fl_RX8_112 (by assumption) (by rfl) rfl ?_
                rw [show M4 m 5 = i by rw [K0 5 (by omega) (by omega), b1 m (by omega)]; exact h5c]
                exact A_iret hR dX8_office_87 rfl (by
      refine ⟨_, rfl, ?_, fun y hy => ?_, ?_⟩
      · unfold g_office
        rw [if_pos ef, ← hT']
        obtain ⟨⟨j0, j1, j2, j3⟩, j4, j5, j6⟩ := hI
        refine ⟨⟨⟨?_, ?_, ?_, ?_⟩, ?_, ?_, ?_⟩, ?_, fun z => ?_, fun z => ?_, ?_, ⟨?_, ?_⟩, ⟨?_, fun k x y => ?_⟩, ⟨?_, fun k x y => ?_⟩, fun k x y => ?_⟩
        · rw [K0 _ (by omega) (by omega), b1 m (by omega)]; exact j0
        · rw [K0 _ (by omega) (by omega), b1 m (by omega)]; exact j1
        · rw [K0 _ (by omega) (by omega), b1 m (by omega)]; exact j2
        · rw [K0 _ (by omega) (by omega), b1 m (by omega)]; exact j3
        · rw [K _ (by omega) (by omega) (by omega), b1 _ (by omega)]; exact j4
        · rw [K _ (by omega) (by omega) (by omega), K (m + 7) (by omega) (by omega) (by omega), b1 _ (by omega), b1 (m + 7) (by omega)]; exact j5
        · rw [K _ (by omega) (by omega) (by omega), b1 _ (by omega)]; exact j6
        · exact rM_fr b2 hwT' (fun k x y => by rw [K _ (by omega) (by omega) (by omega)])
        · have z : (0 : Int) = 1 := z; omega
        · have z : (0 : Int) = 1 := z; omega
        · exact rM_fr b3 hwT' (fun k x y => by rw [K _ (by omega) (by omega) (by omega)])
        · rw [hfd _ (by omega), e59, upm_c (by omega), e56, upm_k (by omega), e49, upm_s]
        · rw [hfd _ (by omega), e59, upm_c (by omega), e56, upm_s]
        · rw [hfd _ (by omega), e59, upm_s]; rfl
        · have y : k < ((0 : Nat) : Int) := y; omega
        · rw [hfd _ (by omega), e59, upm_k (by omega), e56, upm_c (by omega), e49, upm_c (by omega), e40, upm_s]; rfl
        · have y : k < ((0 : Nat) : Int) := y; omega
        · exact hxd k x y
      · rw [K y (by omega) (by omega) (by omega), b1 y (by omega), hf.1 y (by omega) (by omega) (by omega) (by omega) (by omega) (by omega), u1.1 y (by omega) (by omega)]
      · unfold f_office
        rw [if_pos ef, ← hc])
              · skip
                refine A_aload_n dX8_office_70 rfl ?_
                refine A_getR dX8_office_71 fl_RX8_51 (by assumption) (by rfl) ?_
                refine A_iload_n dX8_office_74 rfl ?_
                refine A_iconst dX8_office_75 (by decide) ?_
                refine A_iast dX8_office_76 (by assumption) (by omega) (by omega) (fun M76 e76 k76 => ?_)
                refine A_iinc dX8_office_77 (by decide) rfl rfl ⟨by omega, by omega⟩ ?_
                refine A_goto (tgt := 64) dX8_office_80 (by decide) ?_
                refine ih _ (by omega) (d + 1) M76 rfl (by omega) (fun y hy => by rw [e76, upm_c hy]; exact hfd y hy) (fun k x y => ?_)
                rw [e76, upm_x]
                by_cases q : k = d
                · rw [if_pos ⟨rfl, q⟩]
                · rw [if_neg (fun z => q z.2)]; exact hxd k x (by omega)
          exact lp _ 0 M59 rfl (by omega) (fun _ _ => rfl) (fun k x y => by omega)
        · skip
          have lk := v5 i (by omega)
          unfold rok at lk
          have wi : wT (apM R (sT S) i) := wT_apM hwT i (fun j hj => v5 j (by omega))
          refine A_aload_n dX8_office_21 rfl ?_
          refine A_iconst dX8_office_22 (by decide) ?_
          refine A_iload_n dX8_office_23 rfl ?_
          refine A_imul dX8_office_24 ⟨by omega, by omega⟩ ?_
          rw [show (4 : Int) * (i : Int) = ((4 * i : Nat) : Int) by omega]
          refine A_vV1 (mj := mX8_tell) dX8_office_25 hR.rm (by decide) ok_X8_tell mv_X8_tell ml_RX8_145 (by assumption) rfl rfl rfl (m_tell (r := 4 * i) (T := apM R (sT S) i) (w := R (4 * i)) (v1 := R (4 * i + 1)) (v2 := R (4 * i + 2)) (v3 := R (4 * i + 3)) hO (by omega) (by rw [h4]; exact congrArg _ (by omega)) (by rw [h4]; exact congrArg _ (by omega)) (by rw [h4]; exact congrArg _ (by omega)) (by rw [h4]; exact congrArg _ (by omega)) hI hW ⟨⟨wi.1.1, wi.1.2.1⟩, wi.1.2.2.1, wi.1.2.2.2.1⟩ lk.1 (fun z => by have := lk.2.1 z; omega) lk.2.2.1 lk.2.2.2.1 (fun z1 z2 => by have := lk.2.2.2.2.2.2.2 (by omega) (by omega) (by omega) (by omega) (by omega); have := wi.1.2.1; omega)) (fun M25 k25 q25 => ?_)
          obtain ⟨g1, g2, g3⟩ := q25
          refine A_iinc dX8_office_28 (by decide) rfl rfl ⟨by omega, by omega⟩ ?_
          refine A_goto (tgt := 13) dX8_office_31 (by decide) ?_
          exact ih _ (by omega) (i + 1) M25 rfl (by omega) (frT_t hf g1) (by rw [apM]; exact g2) (by rw [apM]; exact g3)
    exact lp _ 0 M1 rfl (by omega) frT_r (rY_fr hY hwT (fun k hk => u1.2 k (by omega) (by omega)) (fun y hy => u1.1 y (by omega) (by omega)) (fun k hk => by rw [u1.1 (m + 1) (by omega) (by omega)])).1 (rW_fr (rM_W hrb) (u1.1 _ (by omega) (by omega)))
  · skip
    refine A_bipush dX8_office_8 bp_m4 (by decide) ?_
    exact A_iret hR dX8_office_10 rfl ⟨_, rfl, by unfold g_office; rw [if_neg (show ¬ f_fault S = -1 from fun z => h5 (u0.trans z))]; exact rY_fr hY hwT (fun k hk => u1.2 k (by omega) (by omega)) (fun y hy => u1.1 y (by omega) (by omega)) (fun k hk => by rw [u1.1 (m + 1) (by omega) (by omega)]), fun y hy => u1.1 y (by omega) (by omega), by unfold f_office; rw [if_neg (show ¬ f_fault S = -1 from fun z => h5 (u0.trans z))]⟩

