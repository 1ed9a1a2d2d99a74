/-! THE MODEL's answers: harm, what was seen, the stamp -/
def agL (T : TD) (C : CS) (fl dk mn : Fn) (n : Nat) (g : Int) (i : Nat) : Prop := ∀ k : Int, 0 ≤ k → k < n → fl k = g → mn k < i → csA (itC T C (mn k).toNat) g = dk k
def agI (T : TD) (C : CS) (fl dk mn : Fn) (n : Nat) (g : Int) (i : Nat) : Prop := ∀ k : Int, 0 ≤ k → k < n → fl k = g → mn k = i → csA (itC T C i) g = dk k
theorem agL_1 {T : TD} {C : CS} {fl dk mn : Fn} {n : Nat} {g : Int} {i : Nat} : agL T C fl dk mn n g (i + 1) ↔ agL T C fl dk mn n g i ∧ agI T C fl dk mn n g i := by
  constructor
  · intro h
    refine ⟨fun k x y a b => h k x y a (by omega), fun k x y a b => ?_⟩
    have := h k x y a (by omega)
    rw [b, Int.toNat_natCast] at this
    exact this
  · rintro ⟨h1, h2⟩ k x y a b
    by_cases e : mn k = i
    · have := h2 k x y a e
      rw [e, Int.toNat_natCast]
      exact this
    · exact h1 k x y a (by omega)
theorem agI_1 {T : TD} {C : CS} {fl dk mn : Fn} {n : Nat} {g : Int} {i : Nat} : agI T C fl dk mn (n + 1) g i ↔ agI T C fl dk mn n g i ∧ (fl n = g → mn n = i → csA (itC T C i) g = dk n) := by
  constructor
  · intro h
    exact ⟨fun k x y => h k x (by omega), h n (by omega) (by omega)⟩
  · rintro ⟨h1, h2⟩ k x y
    by_cases e : k = n
    · rw [e]; exact h2
    · exact h1 k x (by omega)
theorem agL_0 {T : TD} {C : CS} {fl dk mn : Fn} {n : Nat} {g : Int} (h : ∀ k : Int, 0 ≤ k → k < n → 0 ≤ mn k ∧ mn k ≤ 99) : agL T C fl dk mn n g 0 := fun k x y _ b => by have := h k x y; omega
theorem agL_e {T : TD} {C : CS} {fl dk mn : Fn} {n : Nat} {g : Int} (h : ∀ k : Int, 0 ≤ k → k < n → 0 ≤ mn k ∧ mn k ≤ 99) : agL T C fl dk mn n g 100 ↔ agr T C fl dk mn n g := ⟨fun q k x y a => q k x y a (by have := h k x y; omega), fun q k x y a _ => q k x y a⟩
theorem agL_m {T : TD} {C : CS} {fl dk mn : Fn} {n : Nat} {g : Int} {i : Nat} (h : ¬ agL T C fl dk mn n g i) : ¬ agr T C fl dk mn n g := fun q => h (fun k x y a _ => q k x y a)
set_option maxRecDepth 100000 in
set_option maxHeartbeats 4000000 in
theorem m_harm {E : EN} {l : Launch} {M : Mem} {m : Nat} {S : GS} (hO : isMod E m) (hY : rY M m S) (hw : wS S) {d t : Int} : Cn E l mX8_harm 7 [vR m, vI d, vI t] M (fun r M1 => ∃ z, r = vI z ∧ (rY M1 m (S) ∧ frY M M1 m ∧ z = f_harm S d t)) := by
  refine Cn.of (by decide) rfl (Nat.le_of_ble_eq_true rfl) 0 rfl (fun oka okm G hR => ?_)
  obtain ⟨a0, a1, a2, a3, a4, a5, a6, a7, a8, a9, a10, a11, a12⟩ := id hO
  obtain ⟨hrI, hrM, hk0, hk1, hrb, ⟨hb0, hb1⟩, ⟨hL, hX⟩, ⟨hN, hsn⟩, hcr⟩ := id hY
  obtain ⟨hwT, ⟨hwC, hwG⟩, ⟨wb0, wb1⟩, wk0, wk1, wL, ⟨wN, wsn⟩, wcr, wcr0⟩ := id hw
  obtain ⟨⟨i0, i1, i2, i3⟩, ik, it, ie⟩ := id hrI
  obtain ⟨⟨c0, c1, c2⟩, cs, cf⟩ := rM_0 hrM
  obtain ⟨wt0, wtk, wtt, wtf⟩ := id hwT
  obtain ⟨wc0, wcs, wcf⟩ := id hwC
  have fp : ∀ p : Int, 0 ≤ ffl (sT S) (sC S) p t.toNat ∧ ffl (sT S) (sC S) p t.toNat ≤ 8 := fun p => popN_r _
  have fp1 := fp (-1)
  have fp2 := fp d
  refine A_aload_n dX8_harm_0 rfl ?_
  refine A_iload_n dX8_harm_1 rfl ?_
  refine A_vI1 (mj := mX8_isDesk) dX8_harm_2 hR.rm (by decide) ok_X8_isDesk mv_X8_isDesk ml_RX8_151 (by assumption) rfl rfl rfl (m_isDesk hO hrI hwT) (fun z2 M2 g2 k2 q2 => ?_)
  obtain ⟨e2, z2r, q2⟩ := q2
  subst M2
  refine A_if_ne (tgt := 11) dX8_harm_5 (by decide) (fun h5 => ?_) (fun h5 => ?_)
  · skip
    have dt : 0 ≤ d ∧ d < oD (sT S) := q2.mp (by omega)
    refine A_iload_n dX8_harm_11 rfl ?_
    refine A_i2l dX8_harm_12 ?_
    refine A_lconst dX8_harm_13 ?_
    refine A_ldc2 dX8_harm_14 kc_RX8_183 (by decide) ?_
    refine A_sI3 (mj := mX8_in) dX8_harm_17 hR.rm (by decide) ok_X8_in st_X8_in ml_RX8_73 rfl (m_in) (fun z17 M17 g17 k17 q17 => ?_)
    obtain ⟨e17, z17r, q17⟩ := q17
    subst M17
    refine A_if_eq (tgt := 35) dX8_harm_20 (by decide) (fun h20 => ?_) (fun h20 => ?_)
    · skip
      refine A_bipush dX8_harm_35 bp_m3 (by decide) ?_
      exact A_iret hR dX8_harm_37 rfl (by first | exact ⟨_, rfl, u3, u4, by unfold f_harm; rw [if_pos dt, if_pos da, Int.toNat_natCast, q28]⟩ | exact ⟨_, rfl, hY, frY_r, by unfold f_harm; rw [if_pos dt, if_neg (fun q => by have := q17.mpr ⟨by omega, by omega⟩; omega)]⟩)
    · skip
      have da : 1 ≤ t ∧ t ≤ 99 := by have := q17.mp (by omega); exact ⟨by omega, by omega⟩
      obtain ⟨t, rfl⟩ : ∃ j : Nat, t = j := ⟨t.toNat, by omega⟩
      rw [Int.toNat_natCast] at fp1 fp2
      refine A_bipush dX8_harm_23 bp_100 (by decide) ?_
      refine A_aload_n dX8_harm_25 rfl ?_
      refine A_iload_n dX8_harm_26 rfl ?_
      refine A_iload_n dX8_harm_27 rfl ?_
      refine A_vI2 (mj := mX8_harmOf) dX8_harm_28 hR.rm (by decide) ok_X8_harmOf mv_X8_harmOf ml_RX8_219 (by assumption) rfl rfl rfl (m_harmOf (q := d) (t := t) hO hrI hrM hwT hwC hwG (by omega) dt.1 dt.2) (fun z28 M28 g28 k28 q28 => ?_)
      obtain ⟨f28, q28⟩ := q28
      obtain ⟨u3, u4⟩ := rY_try hY hwT f28
      refine A_iadd dX8_harm_31 ⟨by omega, by omega⟩ ?_
      refine A_goto (tgt := 37) dX8_harm_32 (by decide) ?_
      exact A_iret hR dX8_harm_37 rfl (by first | exact ⟨_, rfl, u3, u4, by unfold f_harm; rw [if_pos dt, if_pos da, Int.toNat_natCast, q28]⟩ | exact ⟨_, rfl, hY, frY_r, by unfold f_harm; rw [if_pos dt, if_neg (fun q => by have := q17.mpr ⟨by omega, by omega⟩; omega)]⟩)
  · skip
    refine A_bipush dX8_harm_8 bp_m2 (by decide) ?_
    exact A_iret hR dX8_harm_10 rfl ⟨_, rfl, hY, frY_r, by unfold f_harm; rw [if_neg (fun q => by have := q2.mpr q; omega)]⟩

set_option maxRecDepth 100000 in
set_option maxHeartbeats 4000000 in
theorem m_worst {E : EN} {l : Launch} {M : Mem} {m : Nat} {S : GS} (hO : isMod E m) (hY : rY M m S) (hw : wS S) {t : Int} : Cn E l mX8_worst 7 [vR m, vI t] M (fun r M1 => ∃ z, r = vI z ∧ (rY M1 m (S) ∧ frY M M1 m ∧ z = f_worst S t)) := by
  refine Cn.of (by decide) rfl (Nat.le_of_ble_eq_true rfl) 2 rfl (fun oka okm G hR => ?_)
  obtain ⟨a0, a1, a2, a3, a4, a5, a6, a7, a8, a9, a10, a11, a12⟩ := id hO
  obtain ⟨hrI, hrM, hk0, hk1, hrb, ⟨hb0, hb1⟩, ⟨hL, hX⟩, ⟨hN, hsn⟩, hcr⟩ := id hY
  obtain ⟨hwT, ⟨hwC, hwG⟩, ⟨wb0, wb1⟩, wk0, wk1, wL, ⟨wN, wsn⟩, wcr, wcr0⟩ := id hw
  obtain ⟨⟨i0, i1, i2, i3⟩, ik, it, ie⟩ := id hrI
  obtain ⟨⟨c0, c1, c2⟩, cs, cf⟩ := rM_0 hrM
  obtain ⟨wt0, wtk, wtt, wtf⟩ := id hwT
  obtain ⟨wc0, wcs, wcf⟩ := id hwC
  refine A_iload_n dX8_worst_0 rfl ?_
  refine A_i2l dX8_worst_1 ?_
  refine A_lconst dX8_worst_2 ?_
  refine A_ldc2 dX8_worst_3 kc_RX8_183 (by decide) ?_
  refine A_sI3 (mj := mX8_in) dX8_worst_6 hR.rm (by decide) ok_X8_in st_X8_in ml_RX8_73 rfl (m_in) (fun z6 M6 g6 k6 q6 => ?_)
  obtain ⟨e6, z6r, q6⟩ := q6
  subst M6
  refine A_if_ne (tgt := 15) dX8_worst_9 (by decide) (fun h9 => ?_) (fun h9 => ?_)
  · skip
    have da : 1 ≤ t ∧ t ≤ 99 := by have := q6.mp (by omega); exact ⟨by omega, by omega⟩
    obtain ⟨t, rfl⟩ : ∃ j : Nat, t = j := ⟨t.toNat, by omega⟩
    refine A_iconst dX8_worst_15 (by decide) ?_
    refine A_istore_n dX8_worst_16 (by decide) rfl ?_
    refine A_iconst dX8_worst_17 (by decide) ?_
    refine A_istore_n dX8_worst_18 (by decide) rfl ?_
    have lp : ∀ (kk : Nat) (k : Nat) (x : Int) (M1 : Mem), oD (sT S) - k = kk → (1 ≤ k) → (k ≤ oD (sT S)) → (x = wsN (sT S) (sC S) t (k - 1)) → (frM M M1 m 117) → AW E mX8_worst G 0 0 19 [vR m, vI t, vI x, vI k] [] M1 := by
      intro kk
      induction kk using Nat.strongRecOn with
      | ind kk ih =>
        intro k x M1 hk h0 h1 hx hf
        have rI1 : rI M1 m (sT S) := rI_fr hrI (fun y hy => hf.1 y (by omega) (by omega))
        have rM1 : rM M1 m 0 (sT S) (sC S) := rM_fr hrM hwT (fun k a b => hf.2 k (by omega))
        have wr := wsN_r (sT S) (sC S) t (k - 1)
        refine A_iload_n dX8_worst_19 rfl ?_
        refine A_aload_n dX8_worst_20 rfl ?_
        refine A_getI (ki := 6) dX8_worst_21 fl_RX8_23 (by assumption) (by rfl) rfl ?_
        rw [rI1.1.1]
        refine A_icmp_ge (tgt := 54) dX8_worst_24 (by decide) (fun h24 => ?_) (fun h24 => ?_)
        · skip
          have hi : k = oD (sT S) := by omega
          refine A_iload_n dX8_worst_54 rfl ?_
          exact A_iret hR dX8_worst_55 rfl ⟨_, rfl, (rY_try hY hwT hf).1, (rY_try hY hwT hf).2, by unfold f_worst; rw [if_pos da, Int.toNat_natCast, hx, hi]⟩
        · skip
          refine A_aload_n dX8_worst_27 rfl ?_
          refine A_iload_n dX8_worst_28 rfl ?_
          refine A_iload_n dX8_worst_29 rfl ?_
          refine A_vI2 (mj := mX8_harmOf) dX8_worst_30 hR.rm (by decide) ok_X8_harmOf mv_X8_harmOf ml_RX8_219 (by assumption) rfl rfl rfl (m_harmOf (q := (k : Int)) (t := t) hO rI1 rM1 hwT hwC hwG (by omega) (by omega) (by omega)) (fun z30 M30 g30 k30 q30 => ?_)
          obtain ⟨f30, q30⟩ := q30
          refine A_aload_n dX8_worst_33 rfl ?_
          refine A_iload_n dX8_worst_34 rfl ?_
          refine A_iload_n dX8_worst_35 rfl ?_
          refine A_vI2 (mj := mX8_harmOf) dX8_worst_36 hR.rm (by decide) ok_X8_harmOf mv_X8_harmOf ml_RX8_219 (by assumption) rfl rfl rfl (m_harmOf (q := x) (t := t) hO (rI_fr rI1 (fun y hy => f30.1 y (by omega) (by omega))) (rM_fr rM1 hwT (fun k a b => f30.2 k (by omega))) hwT hwC hwG (by omega) (by omega) (by omega)) (fun z36 M36 g36 k36 q36 => ?_)
          obtain ⟨f36, q36⟩ := q36
          refine A_icmp_le (tgt := 46) dX8_worst_39 (by decide) (fun h39 => ?_) (fun h39 => ?_)
          · skip
            refine A_iload_n dX8_worst_46 rfl ?_
            refine A_istore_n dX8_worst_47 (by decide) rfl ?_
            refine A_iinc dX8_worst_48 (by decide) rfl rfl ⟨by omega, by omega⟩ ?_
            refine A_goto (tgt := 19) dX8_worst_51 (by decide) ?_
            have fp : wsN (sT S) (sC S) t (k + 1 - 1) = if ffl (sT S) (sC S) k t < ffl (sT S) (sC S) x t then (k : Int) else x := by
              rw [show k + 1 - 1 = k - 1 + 1 by omega, wsN, ← hx, show ((k - 1 : Nat) : Int) + 1 = k by omega]
            first
            | (refine ih _ (by omega) (k + 1) x M36 rfl (by omega) (by omega) ?_ (frM_t hf (frM_t f30 f36)); rw [fp, if_neg (by omega)])
            | (refine ih _ (by omega) (k + 1) k M36 rfl (by omega) (by omega) ?_ (frM_t hf (frM_t f30 f36)); rw [fp, if_pos (by omega)])
          · skip
            refine A_iload_n dX8_worst_42 rfl ?_
            refine A_goto (tgt := 47) dX8_worst_43 (by decide) ?_
            refine A_istore_n dX8_worst_47 (by decide) rfl ?_
            refine A_iinc dX8_worst_48 (by decide) rfl rfl ⟨by omega, by omega⟩ ?_
            refine A_goto (tgt := 19) dX8_worst_51 (by decide) ?_
            have fp : wsN (sT S) (sC S) t (k + 1 - 1) = if ffl (sT S) (sC S) k t < ffl (sT S) (sC S) x t then (k : Int) else x := by
              rw [show k + 1 - 1 = k - 1 + 1 by omega, wsN, ← hx, show ((k - 1 : Nat) : Int) + 1 = k by omega]
            first
            | (refine ih _ (by omega) (k + 1) x M36 rfl (by omega) (by omega) ?_ (frM_t hf (frM_t f30 f36)); rw [fp, if_neg (by omega)])
            | (refine ih _ (by omega) (k + 1) k M36 rfl (by omega) (by omega) ?_ (frM_t hf (frM_t f30 f36)); rw [fp, if_pos (by omega)])
    exact lp _ 1 0 M rfl (by omega) (by omega) rfl frM_r
  · skip
    refine A_bipush dX8_worst_12 bp_m3 (by decide) ?_
    exact A_iret hR dX8_worst_14 rfl ⟨_, rfl, hY, frY_r, by unfold f_worst; rw [if_neg (fun q => by have := q6.mpr ⟨by omega, by omega⟩; omega)]⟩

set_option maxRecDepth 100000 in
set_option maxHeartbeats 4000000 in
theorem m_forget {E : EN} {l : Launch} {M : Mem} {m : Nat} {S : GS} (hO : isMod E m) (hY : rY M m S) (hw : wS S) : Cn E l mX8_forget 0 [vR m] M (fun r M1 => ∃ z, r = vI z ∧ (rY M1 m (uS S 0 (sFl S) (sDk S) (sMn S)) ∧ frY M M1 m ∧ z = sN S)) := by
  refine Cn.of (by decide) rfl (Nat.le_of_ble_eq_true rfl) 1 rfl (fun oka okm G hR => ?_)
  obtain ⟨a0, a1, a2, a3, a4, a5, a6, a7, a8, a9, a10, a11, a12⟩ := id hO
  obtain ⟨hrI, hrM, hk0, hk1, hrb, ⟨hb0, hb1⟩, ⟨hL, hX⟩, ⟨hN, hsn⟩, hcr⟩ := id hY
  obtain ⟨hwT, ⟨hwC, hwG⟩, ⟨wb0, wb1⟩, wk0, wk1, wL, ⟨wN, wsn⟩, wcr, wcr0⟩ := id hw
  obtain ⟨⟨i0, i1, i2, i3⟩, ik, it, ie⟩ := id hrI
  obtain ⟨⟨c0, c1, c2⟩, cs, cf⟩ := rM_0 hrM
  obtain ⟨wt0, wtk, wtt, wtf⟩ := id hwT
  obtain ⟨wc0, wcs, wcf⟩ := id hwC
  refine A_aload_n dX8_forget_0 rfl ?_
  refine A_getI (ki := 23) dX8_forget_1 fl_RX8_148 (by assumption) (by rfl) rfl ?_
  rw [hN]
  refine A_istore_n dX8_forget_4 (by decide) rfl ?_
  refine A_aload_n dX8_forget_5 rfl ?_
  refine A_iconst dX8_forget_6 (by decide) ?_
  refine A_putI (ki := 23) dX8_forget_7 fl_RX8_148 fi8_23 (by assumption) (by rfl) rfl (fun M7 e7 k7 => ?_)
  refine A_iload_n dX8_forget_10 rfl ?_
  exact A_iret hR dX8_forget_11 rfl (by
      have u := uS_0 (M1 := M7) (n := 0) (a := sFl S) (b := sDk S) (c := sMn S) hY (fun y y1 _ => by rw [e7, upm_c y1]) (fun k hk => by rw [e7, upm_k hk]) (by rw [e7, upm_s]; rfl) (fun k x y => by omega)
      exact ⟨_, rfl, u.1, u.2, rfl⟩)

set_option maxRecDepth 100000 in
set_option maxHeartbeats 4000000 in
theorem m_seen {E : EN} {l : Launch} {M : Mem} {m : Nat} {S : GS} (hO : isMod E m) (hY : rY M m S) (hw : wS S) {f d t : Int} : Cn E l mX8_seen 2 [vR m, vI f, vI d, vI t] M (fun r M1 => ∃ z, r = vI z ∧ (rY M1 m (g_seen S f d t) ∧ frY M M1 m ∧ z = f_seen S f d t)) := by
  refine Cn.of (by decide) rfl (Nat.le_of_ble_eq_true rfl) 0 rfl (fun oka okm G hR => ?_)
  obtain ⟨a0, a1, a2, a3, a4, a5, a6, a7, a8, a9, a10, a11, a12⟩ := id hO
  obtain ⟨hrI, hrM, hk0, hk1, hrb, ⟨hb0, hb1⟩, ⟨hL, hX⟩, ⟨hN, hsn⟩, hcr⟩ := id hY
  obtain ⟨hwT, ⟨hwC, hwG⟩, ⟨wb0, wb1⟩, wk0, wk1, wL, ⟨wN, wsn⟩, wcr, wcr0⟩ := id hw
  obtain ⟨⟨i0, i1, i2, i3⟩, ik, it, ie⟩ := id hrI
  obtain ⟨⟨c0, c1, c2⟩, cs, cf⟩ := rM_0 hrM
  obtain ⟨wt0, wtk, wtt, wtf⟩ := id hwT
  obtain ⟨wc0, wcs, wcf⟩ := id hwC
  refine A_aload_n dX8_seen_0 rfl ?_
  refine A_iload_n dX8_seen_1 rfl ?_
  refine A_vI1 (mj := mX8_isFile) dX8_seen_2 hR.rm (by decide) ok_X8_isFile mv_X8_isFile ml_RX8_160 (by assumption) rfl rfl rfl (m_isFile hO hrI hwT) (fun z2 M2 g2 k2 q2 => ?_)
  obtain ⟨e2, z2r, q2⟩ := q2
  subst M2
  refine A_if_eq (tgt := 16) dX8_seen_5 (by decide) (fun h5 => ?_) (fun h5 => ?_)
  · skip
    refine A_bipush dX8_seen_16 bp_m2 (by decide) ?_
    exact A_iret hR dX8_seen_18 rfl ⟨_, rfl, by unfold g_seen; rw [if_neg (fun q => by first | (have := q2.mpr q.1.1; omega) | (have := q10.mpr q.1.2; omega))]; exact hY, frY_r, by unfold f_seen; rw [if_neg (fun q => by first | (have := q2.mpr q.1; omega) | (have := q10.mpr q.2; omega))]⟩
  · skip
    refine A_aload_n dX8_seen_8 rfl ?_
    refine A_iload_n dX8_seen_9 rfl ?_
    refine A_vI1 (mj := mX8_isDesk) dX8_seen_10 hR.rm (by decide) ok_X8_isDesk mv_X8_isDesk ml_RX8_151 (by assumption) rfl rfl rfl (m_isDesk hO hrI hwT) (fun z10 M10 g10 k10 q10 => ?_)
    obtain ⟨e10, z10r, q10⟩ := q10
    subst M10
    refine A_if_ne (tgt := 19) dX8_seen_13 (by decide) (fun h13 => ?_) (fun h13 => ?_)
    · skip
      have dt : (0 ≤ f ∧ f < oF (sT S)) ∧ 0 ≤ d ∧ d < oD (sT S) := ⟨q2.mp (by omega), q10.mp (by omega)⟩
      refine A_iload_n dX8_seen_19 rfl ?_
      refine A_i2l dX8_seen_20 ?_
      refine A_lconst dX8_seen_21 ?_
      refine A_ldc2 dX8_seen_22 kc_RX8_183 (by decide) ?_
      refine A_sI3 (mj := mX8_in) dX8_seen_25 hR.rm (by decide) ok_X8_in st_X8_in ml_RX8_73 rfl (m_in) (fun z25 M25 g25 k25 q25 => ?_)
      obtain ⟨e25, z25r, q25⟩ := q25
      subst M25
      refine A_if_ne (tgt := 34) dX8_seen_28 (by decide) (fun h28 => ?_) (fun h28 => ?_)
      · skip
        have da : 0 ≤ t ∧ t ≤ 99 := by have := q25.mp (by omega); exact ⟨by omega, by omega⟩
        refine A_aload_n dX8_seen_34 rfl ?_
        refine A_getI (ki := 23) dX8_seen_35 fl_RX8_148 (by assumption) (by rfl) rfl ?_
        rw [hN]
        refine A_bipush dX8_seen_38 bp_6 (by decide) ?_
        refine A_icmp_ne (tgt := 46) dX8_seen_40 (by decide) (fun h40 => ?_) (fun h40 => ?_)
        · skip
          refine A_aload_n dX8_seen_46 rfl ?_
          refine A_getR dX8_seen_47 fl_RX8_48 (by assumption) (by rfl) ?_
          refine A_iconst dX8_seen_50 (by decide) ?_
          refine A_aload_n dX8_seen_51 rfl ?_
          refine A_getI (ki := 23) dX8_seen_52 fl_RX8_148 (by assumption) (by rfl) rfl ?_
          rw [hN]
          refine A_imul dX8_seen_55 ⟨by omega, by omega⟩ ?_
          refine A_iload_n dX8_seen_56 rfl ?_
          refine A_iast dX8_seen_57 (by assumption) (by omega) (by omega) (fun M57 e57 k57 => ?_)
          refine A_aload_n dX8_seen_58 rfl ?_
          refine A_getR dX8_seen_59 fl_RX8_48 (by assumption) (by rfl) ?_
          refine A_iconst dX8_seen_62 (by decide) ?_
          refine A_aload_n dX8_seen_63 rfl ?_
          refine A_getI (ki := 23) dX8_seen_64 fl_RX8_148 (by assumption) (by rfl) rfl ?_
          rw [show M57 m 23 = sN S by rw [e57, upm_c (by omega)]; exact hN]
          refine A_imul dX8_seen_67 ⟨by omega, by omega⟩ ?_
          refine A_iconst dX8_seen_68 (by decide) ?_
          refine A_iadd dX8_seen_69 ⟨by omega, by omega⟩ ?_
          refine A_iload_n dX8_seen_70 rfl ?_
          refine A_iast dX8_seen_71 (by assumption) (by omega) (by omega) (fun M71 e71 k71 => ?_)
          refine A_aload_n dX8_seen_72 rfl ?_
          refine A_getR dX8_seen_73 fl_RX8_48 (by assumption) (by rfl) ?_
          refine A_iconst dX8_seen_76 (by decide) ?_
          refine A_aload_n dX8_seen_77 rfl ?_
          refine A_getI (ki := 23) dX8_seen_78 fl_RX8_148 (by assumption) (by rfl) rfl ?_
          rw [show M71 m 23 = sN S by rw [e71, upm_c (by omega), e57, upm_c (by omega)]; exact hN]
          refine A_imul dX8_seen_81 ⟨by omega, by omega⟩ ?_
          refine A_iconst dX8_seen_82 (by decide) ?_
          refine A_iadd dX8_seen_83 ⟨by omega, by omega⟩ ?_
          refine A_iload_n dX8_seen_84 rfl ?_
          refine A_iast dX8_seen_85 (by assumption) (by omega) (by omega) (fun M85 e85 k85 => ?_)
          refine A_aload_n dX8_seen_86 rfl ?_
          refine A_dup dX8_seen_87 rfl ?_
          refine A_getI (ki := 23) dX8_seen_88 fl_RX8_148 (by assumption) (by rfl) rfl ?_
          rw [show M85 m 23 = sN S by rw [e85, upm_c (by omega), e71, upm_c (by omega), e57, upm_c (by omega)]; exact hN]
          refine A_iconst dX8_seen_91 (by decide) ?_
          refine A_iadd dX8_seen_92 ⟨by omega, by omega⟩ ?_
          refine A_putI (ki := 23) dX8_seen_93 fl_RX8_148 fi8_23 (by assumption) (by rfl) rfl (fun M93 e93 k93 => ?_)
          refine A_aload_n dX8_seen_96 rfl ?_
          refine A_getI (ki := 23) dX8_seen_97 fl_RX8_148 (by assumption) (by rfl) rfl ?_
          rw [show M93 m 23 = sN S + 1 by rw [e93, upm_s]]
          exact A_iret hR dX8_seen_100 rfl (by
      have up : ∀ k : Int, M93 (m + 11) k = if k = 3 * sN S + 2 then t else if k = 3 * sN S + 1 then d else if k = 3 * sN S then f else M (m + 11) k := fun k => by
        rw [e93, upm_c (by omega), e85, upm_x]
        by_cases q1 : k = 3 * sN S + 2
        · rw [if_pos ⟨rfl, q1⟩, if_pos q1]
        · rw [if_neg (fun z => q1 z.2), if_neg q1, e71, upm_x]
          by_cases q2 : k = 3 * sN S + 1
          · rw [if_pos ⟨rfl, q2⟩, if_pos q2]
          · rw [if_neg (fun z => q2 z.2), if_neg q2, e57, upm_x]
            by_cases q3 : k = 3 * sN S
            · rw [if_pos ⟨rfl, q3⟩, if_pos q3]
            · rw [if_neg (fun z => q3 z.2), if_neg q3]
      have u := uS_0 (M1 := M93) (n := sN S + 1) (a := fun k => if k = sN S then f else sFl S k) (b := fun k => if k = sN S then d else sDk S k) (c := fun k => if k = sN S then t else sMn S k) hY (fun y y1 y2 => by rw [e93, upm_c y1, e85, upm_c y2, e71, upm_c y2, e57, upm_c y2]) (fun k hk => by rw [e93, upm_k hk, e85, upm_c (by omega), e71, upm_c (by omega), e57, upm_c (by omega)]) (by rw [e93, upm_s]; omega) (fun k x y => by
        by_cases q : k = sN S
        · refine ⟨?_, ?_, ?_⟩
          · rw [up, if_neg (by omega), if_neg (by omega), if_pos (by omega)]; exact (if_pos q).symm
          · rw [up, if_neg (by omega), if_pos (by omega)]; exact (if_pos q).symm
          · rw [up, if_pos (by omega)]; exact (if_pos q).symm
        · have := hsn k x (by omega)
          refine ⟨?_, ?_, ?_⟩
          · rw [up, if_neg (by omega), if_neg (by omega), if_neg (by omega)]; exact this.1.trans (if_neg q).symm
          · rw [up, if_neg (by omega), if_neg (by omega), if_neg (by omega)]; exact this.2.1.trans (if_neg q).symm
          · rw [up, if_neg (by omega), if_neg (by omega), if_neg (by omega)]; exact this.2.2.trans (if_neg q).symm)
      refine ⟨_, rfl, ?_, u.2, ?_⟩
      · unfold g_seen
        rw [if_pos ⟨dt, da, by omega⟩]
        exact u.1
      · unfold f_seen
        rw [if_pos dt, if_pos da, if_neg (by omega)])
        · skip
          refine A_bipush dX8_seen_43 bp_m5 (by decide) ?_
          exact A_iret hR dX8_seen_45 rfl ⟨_, rfl, by unfold g_seen; rw [if_neg (by omega)]; exact hY, frY_r, by unfold f_seen; rw [if_pos dt, if_pos da, if_pos (by omega)]⟩
      · skip
        refine A_bipush dX8_seen_31 bp_m3 (by decide) ?_
        exact A_iret hR dX8_seen_33 rfl ⟨_, rfl, by unfold g_seen; rw [if_neg (fun q => by have := q25.mpr ⟨by omega, by omega⟩; omega)]; exact hY, frY_r, by unfold f_seen; rw [if_pos dt, if_neg (fun q => by have := q25.mpr ⟨by omega, by omega⟩; omega)]⟩
    · skip
      refine A_bipush dX8_seen_16 bp_m2 (by decide) ?_
      exact A_iret hR dX8_seen_18 rfl ⟨_, rfl, by unfold g_seen; rw [if_neg (fun q => by first | (have := q2.mpr q.1.1; omega) | (have := q10.mpr q.1.2; omega))]; exact hY, frY_r, by unfold f_seen; rw [if_neg (fun q => by first | (have := q2.mpr q.1; omega) | (have := q10.mpr q.2; omega))]⟩

set_option maxRecDepth 100000 in
set_option maxHeartbeats 4000000 in
theorem m_isSoBy {E : EN} {l : Launch} {M : Mem} {m : Nat} {S : GS} (hO : isMod E m) (hY : rY M m S) (hw : wS S) {f : Int} {v : Nat} (f0 : 0 ≤ f) (f1 : f < oF (sT S)) (hv : v < 10) : Cn E l mX8_isSoBy 4 [vR m, vI f, vI v] M (fun r M1 => ∃ z, r = vI z ∧ (rY M1 m S ∧ frY M M1 m ∧ (z = 0 ∨ z = 1) ∧ (z = 1 ↔ agr (sT S) (sws (bgC (sT S)) f v) (sFl S) (sDk S) (sMn S) (sN S) f))) := by
  refine Cn.of (by decide) rfl (Nat.le_of_ble_eq_true rfl) 4 rfl (fun oka okm G hR => ?_)
  obtain ⟨a0, a1, a2, a3, a4, a5, a6, a7, a8, a9, a10, a11, a12⟩ := id hO
  obtain ⟨hrI, hrM, hk0, hk1, hrb, ⟨hb0, hb1⟩, ⟨hL, hX⟩, ⟨hN, hsn⟩, hcr⟩ := id hY
  obtain ⟨hwT, ⟨hwC, hwG⟩, ⟨wb0, wb1⟩, wk0, wk1, wL, ⟨wN, wsn⟩, wcr, wcr0⟩ := id hw
  obtain ⟨⟨i0, i1, i2, i3⟩, ik, it, ie⟩ := id hrI
  obtain ⟨⟨c0, c1, c2⟩, cs, cf⟩ := rM_0 hrM
  obtain ⟨wt0, wtk, wtt, wtf⟩ := id hwT
  obtain ⟨wc0, wcs, wcf⟩ := id hwC
  obtain ⟨B0, hB⟩ : ∃ B0, B0 = sws (bgC (sT S)) f v := ⟨_, rfl⟩
  have wB : wC (sT S) B0 := by rw [hB]; exact sws_w (bgC_w hwT) (by omega) (by omega)
  have gB : csG B0 = 0 := by rw [hB]; rfl
  have mnr : ∀ k : Int, 0 ≤ k → k < sN S → 0 ≤ sMn S k ∧ sMn S k ≤ 99 := fun k x y => (wsn k x y).2.2.2.2
  refine A_bipush dX8_isSoBy_0 bp_117 (by decide) ?_
  refine A_istore_n dX8_isSoBy_2 (by decide) rfl ?_
  refine A_iconst dX8_isSoBy_3 (by decide) ?_
  refine A_istore dX8_isSoBy_4 (by decide) rfl ?_
  refine A_aload_n dX8_isSoBy_6 rfl ?_
  refine A_iconst dX8_isSoBy_7 (by decide) ?_
  refine A_iconst dX8_isSoBy_8 (by decide) ?_
  refine A_vV2 (mj := mX8_copy) dX8_isSoBy_9 hR.rm (by decide) ok_X8_copy mv_X8_copy ml_RX8_67 (by assumption) rfl rfl rfl (m_copy (a := 4) (b := 3) hO (by omega) (by omega) (by omega)) (fun M9 k9 q9 => ?_)
  obtain ⟨q9a, q9b, q9c⟩ := q9
  have r9 : rM M9 m 117 (sT S) (bgC (sT S)) := rM_cp (a := 4) (b := 3) hwT hrb q9c
  refine A_aload_n dX8_isSoBy_12 rfl ?_
  refine A_getR dX8_isSoBy_13 fl_RX8_7 (by assumption) (by rfl) ?_
  refine A_iload_n dX8_isSoBy_16 rfl ?_
  refine A_bipush dX8_isSoBy_17 bp_21 (by decide) ?_
  refine A_iadd dX8_isSoBy_19 ⟨by omega, by omega⟩ ?_
  refine A_iload_n dX8_isSoBy_20 rfl ?_
  refine A_iadd dX8_isSoBy_21 ⟨by omega, by omega⟩ ?_
  refine A_iload_n dX8_isSoBy_22 rfl ?_
  refine A_iast dX8_isSoBy_23 (by assumption) (by omega) (by omega) (fun M23 e23 k23 => ?_)
  have f23 : frM M M23 m 117 := ⟨fun y y1 _ => by rw [e23, upm_c y1]; exact q9a y y1, fun k hk => by rw [e23, upm_k (by omega)]; exact q9b k (by omega)⟩
  have r23 : rM M23 m 117 (sT S) B0 := by
    obtain ⟨⟨x1, x2, x3⟩, x4, x5⟩ := r9
    rw [hB]
    refine ⟨⟨by rw [e23, upm_k (by omega)]; exact x1, by rw [e23, upm_k (by omega)]; exact x2, by rw [e23, upm_k (by omega)]; exact x3⟩, fun k x y => by rw [e23, upm_k (by omega)]; exact x4 k x y, fun k x y => ?_⟩
    have q := x5 k x y
    refine ⟨by rw [e23, upm_k (by omega)]; exact q.1, ?_, by rw [e23, upm_k (by omega)]; exact q.2.2.1, by rw [e23, upm_k (by omega)]; exact q.2.2.2⟩
    show _ = if k = f then (v : Int) else csSw (bgC (sT S)) k
    rw [e23, upm_x]
    by_cases e : k = f
    · rw [if_pos ⟨rfl, by omega⟩, if_pos e]
    · rw [if_neg (fun z => e (by omega)), if_neg e]; exact q.2.1
  refine A_iconst dX8_isSoBy_24 (by decide) ?_
  refine A_istore dX8_isSoBy_25 (by decide) rfl ?_
  have lp : ∀ (k : Nat) (i : Nat) (so : Int) (x6 : AV) (M1 : Mem), 100 - i = k → (i ≤ 100) → (so = 0 ∨ so = 1) → (so = 1 ↔ agL (sT S) B0 (sFl S) (sDk S) (sMn S) (sN S) f i) → (frM M M1 m 117) → (rM M1 m 117 (sT S) (itC (sT S) B0 i)) → AW E mX8_isSoBy G 0 0 27 [vR m, vI f, vI v, vI 117, vI so, vI i, x6] [] M1 := by
    intro k
    induction k using Nat.strongRecOn with
    | ind k ih =>
      intro i so x6 M1 hk h0 hs0 hs hf hc
      refine A_iload dX8_isSoBy_27 rfl ?_
      refine A_bipush dX8_isSoBy_29 bp_100 (by decide) ?_
      refine A_icmp_ge (tgt := 134) dX8_isSoBy_31 (by decide) (fun h31 => ?_) (fun h31 => ?_)
      · skip
        have hi : i = 100 := by omega
        have fin : so = 1 ↔ agr (sT S) B0 (sFl S) (sDk S) (sMn S) (sN S) f := by rw [hi] at hs; exact hs.trans (agL_e mnr)
        refine A_iload dX8_isSoBy_134 rfl ?_
        exact A_zret hR dX8_isSoBy_136 rfl (by first | exact Or.inl rfl | exact Or.inr rfl | omega) ⟨_, rfl, (rY_try hY hwT hf).1, (rY_try hY hwT hf).2, hs0, by rw [← hB]; exact fin⟩
      · skip
        refine A_iload dX8_isSoBy_34 rfl ?_
        refine A_if_eq (tgt := 134) dX8_isSoBy_36 (by decide) (fun h36 => ?_) (fun h36 => ?_)
        · skip
          have fin : so = 1 ↔ agr (sT S) B0 (sFl S) (sDk S) (sMn S) (sN S) f := ⟨fun z => by omega, fun z => absurd z (agL_m (fun y => by have := hs.mpr y; omega))⟩
          refine A_iload dX8_isSoBy_134 rfl ?_
          exact A_zret hR dX8_isSoBy_136 rfl (by first | exact Or.inl rfl | exact Or.inr rfl | omega) ⟨_, rfl, (rY_try hY hwT hf).1, (rY_try hY hwT hf).2, hs0, by rw [← hB]; exact fin⟩
        · skip
          refine A_iconst dX8_isSoBy_39 (by decide) ?_
          refine A_istore dX8_isSoBy_40 (by decide) rfl ?_
          have lq : ∀ (kk : Nat) (k : Nat) (s2 : Int), sN S - k = kk → (k ≤ sN S) → (s2 = 0 ∨ s2 = 1) → (s2 = 1 ↔ agI (sT S) B0 (sFl S) (sDk S) (sMn S) k f i) → AW E mX8_isSoBy G 0 0 42 [vR m, vI f, vI v, vI 117, vI s2, vI i, vI k] [] M1 := by
            intro kk
            induction kk using Nat.strongRecOn with
            | ind kk ih2 =>
              intro k s2 hkk h1 ht0 ht
              have v23 : M1 m 23 = sN S := by rw [hf.1 m (by omega) (by omega)]; exact hN
              have v11 : ∀ j : Int, M1 (m + 11) j = M (m + 11) j := fun j => by rw [hf.1 (m + 11) (by omega) (by omega)]
              refine A_iload dX8_isSoBy_42 rfl ?_
              refine A_aload_n dX8_isSoBy_44 rfl ?_
              refine A_getI (ki := 23) dX8_isSoBy_45 fl_RX8_148 (by assumption) (by rfl) rfl ?_
              rw [v23]
              refine A_icmp_ge (tgt := 123) dX8_isSoBy_48 (by decide) (fun h48 => ?_) (fun h48 => ?_)
              · skip
                have hi : k = sN S := by omega
                refine A_aload_n dX8_isSoBy_123 rfl ?_
                refine A_iload_n dX8_isSoBy_124 rfl ?_
                refine A_vV1 (mj := mX8_minute) dX8_isSoBy_125 hR.rm (by decide) ok_X8_minute mv_X8_minute ml_RX8_185 (by assumption) rfl rfl rfl (m_minute (b := 117) (C := itC (sT S) B0 i) hO (rI_fr hrI (fun y hy => hf.1 y (by omega) (by omega))) hc hwT (itC_w hwT wB i).1 (by omega) (by have := (itC_w hwT wB i).2; omega)) (fun M125 k125 q125 => ?_)
                obtain ⟨q125a, q125b⟩ := q125
                refine A_iinc dX8_isSoBy_128 (by decide) rfl rfl ⟨by omega, by omega⟩ ?_
                refine A_goto (tgt := 27) dX8_isSoBy_131 (by decide) ?_
                refine ih _ (by omega) (i + 1) s2 (vI k) M125 rfl (by omega) ht0 ?_ (frM_t hf q125a) q125b
                rw [agL_1, ht, hi]
                exact ⟨fun z => ⟨hs.mp (by omega), z⟩, fun z => z.2⟩
              · skip
                have sk := hsn k (by omega) (by omega)
                have j115 : ∀ u : Int, (u = 0 ∨ u = 1) → (u = 1 ↔ agI (sT S) B0 (sFl S) (sDk S) (sMn S) (k + 1) f i) → AW E mX8_isSoBy G 0 0 115 [vR m, vI f, vI v, vI 117, vI s2, vI i, vI k] [vI u] M1 := by
                  intro u hu0 hu
                  refine A_istore dX8_isSoBy_115 (by decide) rfl ?_
                  refine A_iinc dX8_isSoBy_117 (by decide) rfl rfl ⟨by omega, by omega⟩ ?_
                  refine A_goto (tgt := 42) dX8_isSoBy_120 (by decide) ?_
                  exact ih2 _ (by omega) (k + 1) u rfl (by omega) hu0 hu
                refine A_iload dX8_isSoBy_51 rfl ?_
                refine A_if_eq (tgt := 114) dX8_isSoBy_53 (by decide) (fun h53 => ?_) (fun h53 => ?_)
                · skip
                  refine A_iconst dX8_isSoBy_114 (by decide) ?_
                  first | exact j115 1 (Or.inr rfl) ⟨fun _ => agI_1.mpr ⟨ht.mp (by omega), fun a b => by omega⟩, fun _ => rfl⟩ | exact j115 0 (Or.inl rfl) ⟨fun z => by omega, fun z => by have z2 := (agI_1.mp z).1; have := ht.mpr z2; omega⟩ | exact j115 0 (Or.inl rfl) ⟨fun z => by omega, fun z => by have z2 := (agI_1.mp z).2 (by omega) (by omega); omega⟩
                · skip
                  refine A_aload_n dX8_isSoBy_56 rfl ?_
                  refine A_getR dX8_isSoBy_57 fl_RX8_48 (by assumption) (by rfl) ?_
                  refine A_iconst dX8_isSoBy_60 (by decide) ?_
                  refine A_iload dX8_isSoBy_61 rfl ?_
                  refine A_imul dX8_isSoBy_63 ⟨by omega, by omega⟩ ?_
                  refine A_iald dX8_isSoBy_64 (by assumption) (by omega) (by omega) ?_
                  rw [v11, sk.1]
                  refine A_iload_n dX8_isSoBy_65 rfl ?_
                  refine A_icmp_ne (tgt := 110) dX8_isSoBy_66 (by decide) (fun h66 => ?_) (fun h66 => ?_)
                  · skip
                    refine A_iconst dX8_isSoBy_110 (by decide) ?_
                    refine A_goto (tgt := 115) dX8_isSoBy_111 (by decide) ?_
                    first | exact j115 1 (Or.inr rfl) ⟨fun _ => agI_1.mpr ⟨ht.mp (by omega), fun a b => by omega⟩, fun _ => rfl⟩ | exact j115 0 (Or.inl rfl) ⟨fun z => by omega, fun z => by have z2 := (agI_1.mp z).1; have := ht.mpr z2; omega⟩ | exact j115 0 (Or.inl rfl) ⟨fun z => by omega, fun z => by have z2 := (agI_1.mp z).2 (by omega) (by omega); omega⟩
                  · skip
                    refine A_aload_n dX8_isSoBy_69 rfl ?_
                    refine A_getR dX8_isSoBy_70 fl_RX8_48 (by assumption) (by rfl) ?_
                    refine A_iconst dX8_isSoBy_73 (by decide) ?_
                    refine A_iload dX8_isSoBy_74 rfl ?_
                    refine A_imul dX8_isSoBy_76 ⟨by omega, by omega⟩ ?_
                    refine A_iconst dX8_isSoBy_77 (by decide) ?_
                    refine A_iadd dX8_isSoBy_78 ⟨by omega, by omega⟩ ?_
                    refine A_iald dX8_isSoBy_79 (by assumption) (by omega) (by omega) ?_
                    rw [v11, sk.2.2]
                    refine A_iload dX8_isSoBy_80 rfl ?_
                    refine A_icmp_ne (tgt := 110) dX8_isSoBy_82 (by decide) (fun h82 => ?_) (fun h82 => ?_)
                    · skip
                      refine A_iconst dX8_isSoBy_110 (by decide) ?_
                      refine A_goto (tgt := 115) dX8_isSoBy_111 (by decide) ?_
                      first | exact j115 1 (Or.inr rfl) ⟨fun _ => agI_1.mpr ⟨ht.mp (by omega), fun a b => by omega⟩, fun _ => rfl⟩ | exact j115 0 (Or.inl rfl) ⟨fun z => by omega, fun z => by have z2 := (agI_1.mp z).1; have := ht.mpr z2; omega⟩ | exact j115 0 (Or.inl rfl) ⟨fun z => by omega, fun z => by have z2 := (agI_1.mp z).2 (by omega) (by omega); omega⟩
                    · skip
                      refine A_aload_n dX8_isSoBy_85 rfl ?_
                      refine A_getR dX8_isSoBy_86 fl_RX8_7 (by assumption) (by rfl) ?_
                      refine A_iload_n dX8_isSoBy_89 rfl ?_
                      refine A_bipush dX8_isSoBy_90 bp_15 (by decide) ?_
                      refine A_iadd dX8_isSoBy_92 ⟨by omega, by omega⟩ ?_
                      refine A_iload_n dX8_isSoBy_93 rfl ?_
                      refine A_iadd dX8_isSoBy_94 ⟨by omega, by omega⟩ ?_
                      refine A_iald dX8_isSoBy_95 (by assumption) (by omega) (by omega) ?_
                      rw [show M1 (m + 1) (117 + 15 + f) = csA (itC (sT S) B0 i) f from (hc.2.2 f f0 f1).1]
                      refine A_aload_n dX8_isSoBy_96 rfl ?_
                      refine A_getR dX8_isSoBy_97 fl_RX8_48 (by assumption) (by rfl) ?_
                      refine A_iconst dX8_isSoBy_100 (by decide) ?_
                      refine A_iload dX8_isSoBy_101 rfl ?_
                      refine A_imul dX8_isSoBy_103 ⟨by omega, by omega⟩ ?_
                      refine A_iconst dX8_isSoBy_104 (by decide) ?_
                      refine A_iadd dX8_isSoBy_105 ⟨by omega, by omega⟩ ?_
                      refine A_iald dX8_isSoBy_106 (by assumption) (by omega) (by omega) ?_
                      rw [v11, sk.2.1]
                      refine A_icmp_ne (tgt := 114) dX8_isSoBy_107 (by decide) (fun h107 => ?_) (fun h107 => ?_)
                      · skip
                        refine A_iconst dX8_isSoBy_114 (by decide) ?_
                        first | exact j115 1 (Or.inr rfl) ⟨fun _ => agI_1.mpr ⟨ht.mp (by omega), fun a b => by omega⟩, fun _ => rfl⟩ | exact j115 0 (Or.inl rfl) ⟨fun z => by omega, fun z => by have z2 := (agI_1.mp z).1; have := ht.mpr z2; omega⟩ | exact j115 0 (Or.inl rfl) ⟨fun z => by omega, fun z => by have z2 := (agI_1.mp z).2 (by omega) (by omega); omega⟩
                      · skip
                        refine A_iconst dX8_isSoBy_110 (by decide) ?_
                        refine A_goto (tgt := 115) dX8_isSoBy_111 (by decide) ?_
                        first | exact j115 1 (Or.inr rfl) ⟨fun _ => agI_1.mpr ⟨ht.mp (by omega), fun a b => by omega⟩, fun _ => rfl⟩ | exact j115 0 (Or.inl rfl) ⟨fun z => by omega, fun z => by have z2 := (agI_1.mp z).1; have := ht.mpr z2; omega⟩ | exact j115 0 (Or.inl rfl) ⟨fun z => by omega, fun z => by have z2 := (agI_1.mp z).2 (by omega) (by omega); omega⟩
          exact lq _ 0 so rfl (by omega) hs0 ⟨fun _ => fun k x y => by omega, fun _ => by omega⟩
  exact lp _ 0 1 vU M23 rfl (by omega) (Or.inr rfl) ⟨fun _ => agL_0 mnr, fun _ => rfl⟩ f23 r23

