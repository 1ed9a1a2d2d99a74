/-! THE MODEL: tries -/
theorem b_not : ∀ x : Nat, x < 64 → i32 (x : Int) ^^^ i32 (-1) = i32 (-1 - (x : Int)) := by decide +kernel
theorem b_nand : ∀ s : Nat, s < 64 → ∀ x : Nat, x < 64 → i32 (s : Int) &&& i32 (-1 - (x : Int)) = i32 ((s &&& (63 - x) : Nat) : Int) := by decide +kernel
theorem b_nz : ∀ s : Nat, s < 64 → ∀ x : Nat, x < 64 → (s &&& (63 - x) = 0 ↔ x &&& s = s) := by decide +kernel
theorem fs64 {F : Fn} {T : TD} (h : wT T) : fsN F (oF T) < 64 := by
  have h1 := (fsN_bit F (oF T)).1
  have h2 : 2 ^ (oF T) ≤ 2 ^ 6 := p2_le h.1.2.2.2.1
  omega
theorem tbd (s g : Nat) : s / 2 ^ g % 2 = if s.testBit g = true then 1 else 0 := by
  have h := tb_iff s g
  by_cases e : s.testBit g = true
  · rw [if_pos e]
    have : ¬ s / 2 ^ g % 2 = 0 := fun x => h.mp x e
    omega
  · rw [if_neg e]; exact h.mpr e
theorem pb_rk (s : Nat) : ∀ n : Nat, pbN s n = rkN s n
  | 0 => rfl
  | n + 1 => by rw [pbN, rkN, pb_rk s n, tbd]
theorem rk_top {s n : Nat} (h : s < 2 ^ n) : ∀ k : Nat, rkN s (n + k) = rkN s n
  | 0 => rfl
  | k + 1 => by
    rw [← Nat.add_assoc, rkN, rk_top h k, Nat.testBit_lt_two_pow (Nat.lt_of_lt_of_le h (p2_le (by omega)))]
    rfl
theorem pop_rk {s n : Nat} (h : s < 2 ^ n) (hn : n ≤ 8) : popN s = (rkN s n : Nat) := by
  rw [← pbN_8, pb_rk, show 8 = n + (8 - n) by omega, rk_top h]
/-- a number's figures, the first one highest -/
def digs (n v : Nat) : Fn := fun p => ((v / 10 ^ (n - 1 - p.toNat) % 10 : Nat) : Int)
set_option maxRecDepth 100000 in
set_option maxHeartbeats 4000000 in
theorem m_tryFor {E : EN} {l : Launch} {M : Mem} {m n : Nat} {T : TD} {C : CS} (hO : isMod E m) (hrI : rI M m T) (hrM : rM M m 117 T C) (hwT : wT T) (hwC : wC T C) (hG : csG C < 100000) (hn : n ≤ 1000) : Cn E l mX8_tryFor 4 [vR m, vI n] M (fun r M1 => r = vU ∧ (frM M M1 m 117 ∧ rM M1 m 117 T (itC T C n))) := by
  refine Cn.of (by decide) rfl (Nat.le_of_ble_eq_true rfl) 1 rfl (fun oka okm G hR => ?_)
  obtain ⟨a0, a1, a2, a3, a4, a5, a6, a7, a8, a9, a10, a11, a12⟩ := id hO
  refine A_iconst dX8_tryFor_0 (by decide) ?_
  refine A_istore_n dX8_tryFor_1 (by decide) rfl ?_
  have lp : ∀ (k : Nat) (i : Nat) (M1 : Mem), n - i = k → (i ≤ n) → (frM M M1 m 117) → (rM M1 m 117 T (itC T C i)) → AW E mX8_tryFor G 0 0 2 [vR m, vI n, vI i] [] M1 := by
    intro k
    induction k using Nat.strongRecOn with
    | ind k ih =>
      intro i M1 hk h0 hf hc
      refine A_iload_n dX8_tryFor_2 rfl ?_
      refine A_iload_n dX8_tryFor_3 rfl ?_
      refine A_icmp_ge (tgt := 19) dX8_tryFor_4 (by decide) (fun h4 => ?_) (fun h4 => ?_)
      · skip
        have hi : i = n := by omega
        subst hi
        exact A_vret hR dX8_tryFor_19 rfl ⟨rfl, hf, hc⟩
      · skip
        refine A_aload_n dX8_tryFor_7 rfl ?_
        refine A_bipush dX8_tryFor_8 bp_117 (by decide) ?_
        refine A_vV1 (mj := mX8_minute) dX8_tryFor_10 hR.rm (by decide) ok_X8_minute mv_X8_minute ml_RX8_185 (by assumption) rfl rfl rfl (m_minute (b := 117) hO (rI_fr hrI (fun y hy => hf.1 y (by omega) (by omega))) hc hwT (itC_w hwT hwC i).1 (by omega) (by have := (itC_w hwT hwC i).2; omega)) (fun M10 k10 q10 => ?_)
        obtain ⟨q10a, q10b⟩ := q10
        refine A_iinc dX8_tryFor_13 (by decide) rfl rfl ⟨by omega, by omega⟩ ?_
        refine A_goto (tgt := 2) dX8_tryFor_16 (by decide) ?_
        exact ih _ (by omega) (i + 1) M10 rfl (by omega) (frM_t hf q10a) q10b
  exact lp _ 0 M rfl (by omega) frM_r hrM

set_option maxRecDepth 100000 in
set_option maxHeartbeats 4000000 in
theorem m_filedIn {E : EN} {l : Launch} {M : Mem} {m n g : Nat} {T : TD} {C : CS} (hO : isMod E m) (hrI : rI M m T) (hrM : rM M m 117 T C) (hwT : wT T) (hwC : wC T C) (hG : csG C < 100000) (hn : n ≤ 1000) (hg : g < oF T) : Cn E l mX8_filedIn 4 [vR m, vI g, vI n] M (fun r M1 => ∃ z, r = vI z ∧ (frM M M1 m 117 ∧ z = csF (itC T C n) g)) := by
  refine Cn.of (by decide) rfl (Nat.le_of_ble_eq_true rfl) 2 rfl (fun oka okm G hR => ?_)
  obtain ⟨a0, a1, a2, a3, a4, a5, a6, a7, a8, a9, a10, a11, a12⟩ := id hO
  obtain ⟨wt0, wtk, wtt, wtf⟩ := id hwT
  refine A_bipush dX8_filedIn_0 bp_117 (by decide) ?_
  refine A_istore_n dX8_filedIn_2 (by decide) rfl ?_
  refine A_iconst dX8_filedIn_3 (by decide) ?_
  refine A_istore dX8_filedIn_4 (by decide) rfl ?_
  have lp : ∀ (k : Nat) (i : Nat) (M1 : Mem), n - i = k → (i ≤ n) → (frM M M1 m 117) → (rM M1 m 117 T (itC T C i)) → AW E mX8_filedIn G 0 0 6 [vR m, vI g, vI n, vI 117, vI i] [] M1 := by
    intro k
    induction k using Nat.strongRecOn with
    | ind k ih =>
      intro i M1 hk h0 hf hc
      have v : M1 (m + 1) (117 + 33 + g) = csF (itC T C i) g := (hc.2.2 g (by omega) (by omega)).2.2.2
      refine A_iload dX8_filedIn_6 rfl ?_
      refine A_iload_n dX8_filedIn_8 rfl ?_
      refine A_icmp_ge (tgt := 38) dX8_filedIn_9 (by decide) (fun h9 => ?_) (fun h9 => ?_)
      · skip
        have hi : i = n := by omega
        have fin : csF (itC T C i) g = csF (itC T C n) g := by rw [hi]
        refine A_aload_n dX8_filedIn_38 rfl ?_
        refine A_getR dX8_filedIn_39 fl_RX8_7 (by assumption) (by rfl) ?_
        refine A_iload_n dX8_filedIn_42 rfl ?_
        refine A_bipush dX8_filedIn_43 bp_33 (by decide) ?_
        refine A_iadd dX8_filedIn_45 ⟨by omega, by omega⟩ ?_
        refine A_iload_n dX8_filedIn_46 rfl ?_
        refine A_iadd dX8_filedIn_47 ⟨by omega, by omega⟩ ?_
        refine A_iald dX8_filedIn_48 (by assumption) (by omega) (by omega) ?_
        rw [v]
        exact A_iret hR dX8_filedIn_49 rfl ⟨_, rfl, hf, fin⟩
      · skip
        refine A_aload_n dX8_filedIn_12 rfl ?_
        refine A_getR dX8_filedIn_13 fl_RX8_7 (by assumption) (by rfl) ?_
        refine A_iload_n dX8_filedIn_16 rfl ?_
        refine A_bipush dX8_filedIn_17 bp_33 (by decide) ?_
        refine A_iadd dX8_filedIn_19 ⟨by omega, by omega⟩ ?_
        refine A_iload_n dX8_filedIn_20 rfl ?_
        refine A_iadd dX8_filedIn_21 ⟨by omega, by omega⟩ ?_
        refine A_iald dX8_filedIn_22 (by assumption) (by omega) (by omega) ?_
        rw [v]
        refine A_iconst dX8_filedIn_23 (by decide) ?_
        refine A_icmp_ne (tgt := 38) dX8_filedIn_24 (by decide) (fun h24 => ?_) (fun h24 => ?_)
        · skip
          have fin : csF (itC T C i) g = csF (itC T C n) g := (it_later (T := T) (f := (g : Int)) (by omega) h0 h24).symm
          refine A_aload_n dX8_filedIn_38 rfl ?_
          refine A_getR dX8_filedIn_39 fl_RX8_7 (by assumption) (by rfl) ?_
          refine A_iload_n dX8_filedIn_42 rfl ?_
          refine A_bipush dX8_filedIn_43 bp_33 (by decide) ?_
          refine A_iadd dX8_filedIn_45 ⟨by omega, by omega⟩ ?_
          refine A_iload_n dX8_filedIn_46 rfl ?_
          refine A_iadd dX8_filedIn_47 ⟨by omega, by omega⟩ ?_
          refine A_iald dX8_filedIn_48 (by assumption) (by omega) (by omega) ?_
          rw [v]
          exact A_iret hR dX8_filedIn_49 rfl ⟨_, rfl, hf, fin⟩
        · skip
          refine A_aload_n dX8_filedIn_27 rfl ?_
          refine A_iload_n dX8_filedIn_28 rfl ?_
          refine A_vV1 (mj := mX8_minute) dX8_filedIn_29 hR.rm (by decide) ok_X8_minute mv_X8_minute ml_RX8_185 (by assumption) rfl rfl rfl (m_minute (b := 117) hO (rI_fr hrI (fun y hy => hf.1 y (by omega) (by omega))) hc hwT (itC_w hwT hwC i).1 (by omega) (by have := (itC_w hwT hwC i).2; omega)) (fun M29 k29 q29 => ?_)
          obtain ⟨q29a, q29b⟩ := q29
          refine A_iinc dX8_filedIn_32 (by decide) rfl rfl ⟨by omega, by omega⟩ ?_
          refine A_goto (tgt := 6) dX8_filedIn_35 (by decide) ?_
          exact ih _ (by omega) (i + 1) M29 rfl (by omega) (frM_t hf q29a) q29b
  exact lp _ 0 M rfl (by omega) frM_r hrM

set_option maxRecDepth 100000 in
set_option maxHeartbeats 4000000 in
theorem m_filedSet {E : EN} {l : Launch} {M : Mem} {m b : Nat} {T : TD} {C : CS}(hO : isMod E m) (hrI : rI M m T) (hrM : rM M m b T C) (hwT : wT T) (hwC : wC T C) (hb : b ≤ 156) : Cn E l mX8_filedSet 0 [vR m, vI b] M (fun r M1 => ∃ z, r = vI z ∧ (M1 = M ∧ z = fsN (csF C) (oF T))) := by
  refine Cn.of (by decide) rfl (Nat.le_of_ble_eq_true rfl) 2 rfl (fun oka okm G hR => ?_)
  obtain ⟨a0, a1, a2, a3, a4, a5, a6, a7, a8, a9, a10, a11, a12⟩ := id hO
  obtain ⟨⟨i0, i1, i2, i3⟩, ik, it, ie⟩ := id hrI
  obtain ⟨⟨c0, c1, c2⟩, cs, cf⟩ := id hrM
  obtain ⟨wt0, wtk, wtt, wtf⟩ := id hwT
  obtain ⟨wc0, wcs, wcf⟩ := id hwC
  refine A_iconst dX8_filedSet_0 (by decide) ?_
  refine A_istore_n dX8_filedSet_1 (by decide) rfl ?_
  refine A_iconst dX8_filedSet_2 (by decide) ?_
  refine A_istore_n dX8_filedSet_3 (by decide) rfl ?_
  have lp : ∀ (k : Nat) (i : Nat) (x : Nat), oF T - i = k → (i ≤ oF T) → (x = fsN (csF C) i) → AW E mX8_filedSet G 0 0 4 [vR m, vI b, vI x, vI i] [] M := by
    intro k
    induction k using Nat.strongRecOn with
    | ind k ih =>
      intro i x hk h0 hx
      refine A_iload_n dX8_filedSet_4 rfl ?_
      refine A_aload_n dX8_filedSet_5 rfl ?_
      refine A_getI (ki := 12) dX8_filedSet_6 fl_RX8_64 (by assumption) (by rfl) rfl ?_
      rw [i2]
      refine A_icmp_ge (tgt := 43) dX8_filedSet_9 (by decide) (fun h9 => ?_) (fun h9 => ?_)
      · skip
        have hi : i = oF T := by omega
        subst hi
        refine A_iload_n dX8_filedSet_43 rfl ?_
        exact A_iret hR dX8_filedSet_44 rfl ⟨_, rfl, rfl, by rw [hx]⟩
      · skip
        refine A_iload_n dX8_filedSet_12 rfl ?_
        refine A_aload_n dX8_filedSet_13 rfl ?_
        refine A_getR dX8_filedSet_14 fl_RX8_7 (by assumption) (by rfl) ?_
        refine A_iload_n dX8_filedSet_17 rfl ?_
        refine A_bipush dX8_filedSet_18 bp_33 (by decide) ?_
        refine A_iadd dX8_filedSet_20 ⟨by omega, by omega⟩ ?_
        refine A_iload_n dX8_filedSet_21 rfl ?_
        refine A_iadd dX8_filedSet_22 ⟨by omega, by omega⟩ ?_
        refine A_iald dX8_filedSet_23 (by assumption) (by omega) (by omega) ?_
        rw [(cf i (by omega) (by omega)).2.2.2]
        refine A_iconst dX8_filedSet_24 (by decide) ?_
        refine A_icmp_ne (tgt := 32) dX8_filedSet_25 (by decide) (fun h25 => ?_) (fun h25 => ?_)
        · skip
          refine A_iconst dX8_filedSet_32 (by decide) ?_
          refine A_iload_n dX8_filedSet_33 rfl ?_
          refine A_ishl (z := ((2 ^ i : Nat) : Int)) dX8_filedSet_34 (b_shl i (by omega)) (rng_p2 (by omega)) ?_
          refine A_ior (z := ((x ||| 2 ^ i : Nat) : Int)) dX8_filedSet_35 (b_or _ _) (rng64 (by rw [hx, b_add (fsN_bit _ _).1]; have h1 := (fsN_bit (csF C) i).1; have h2 : 2 ^ (i + 1) ≤ 2 ^ 6 := p2_le (by omega); rw [Nat.pow_succ] at h2; omega)) ?_
          refine A_istore_n dX8_filedSet_36 (by decide) rfl ?_
          refine A_iinc dX8_filedSet_37 (by decide) rfl rfl ⟨by omega, by omega⟩ ?_
          refine A_goto (tgt := 4) dX8_filedSet_40 (by decide) ?_
          first
          | (refine ih _ (by omega) (i + 1) _ rfl (by omega) ?_
             rw [fsN, if_pos (by assumption)]; exact (Nat.or_zero _).trans hx)
          | (refine ih _ (by omega) (i + 1) _ rfl (by omega) ?_
             rw [fsN, if_neg (by assumption), hx]; exact b_add (fsN_bit _ _).1)
        · skip
          refine A_iconst dX8_filedSet_28 (by decide) ?_
          refine A_goto (tgt := 35) dX8_filedSet_29 (by decide) ?_
          refine A_ior (z := ((x ||| 0 : Nat) : Int)) dX8_filedSet_35 (b_or x 0) (rng64 (by rw [Nat.or_zero, hx]; exact Nat.lt_of_lt_of_le (fsN_bit _ _).1 (p2_le (n := 6) (by omega)))) ?_
          refine A_istore_n dX8_filedSet_36 (by decide) rfl ?_
          refine A_iinc dX8_filedSet_37 (by decide) rfl rfl ⟨by omega, by omega⟩ ?_
          refine A_goto (tgt := 4) dX8_filedSet_40 (by decide) ?_
          first
          | (refine ih _ (by omega) (i + 1) _ rfl (by omega) ?_
             rw [fsN, if_pos (by assumption)]; exact (Nat.or_zero _).trans hx)
          | (refine ih _ (by omega) (i + 1) _ rfl (by omega) ?_
             rw [fsN, if_neg (by assumption), hx]; exact b_add (fsN_bit _ _).1)
  exact lp _ 0 0 rfl (by omega) rfl

set_option maxRecDepth 100000 in
set_option maxHeartbeats 4000000 in
theorem m_gets {E : EN} {l : Launch} {M : Mem} {v n i : Nat} (hv : v < 10000) (hn : n ≤ 4) (hi : i < n) : Cn E l mX8_gets 0 [vI v, vI n, vI i] M (fun r M1 => ∃ z, r = vI z ∧ (M1 = M ∧ z = digs n v i)) := by
  refine Cn.of (by decide) rfl (Nat.le_of_ble_eq_true rfl) 2 rfl (fun oka okm G hR => ?_)
  refine A_iload_n dX8_gets_0 rfl ?_
  refine A_istore_n dX8_gets_1 (by decide) rfl ?_
  refine A_iload_n dX8_gets_2 rfl ?_
  refine A_iconst dX8_gets_3 (by decide) ?_
  refine A_iadd dX8_gets_4 ⟨by omega, by omega⟩ ?_
  refine A_istore dX8_gets_5 (by decide) rfl ?_
  have lp : ∀ (kk : Nat) (k : Nat) (x : Nat), n - k = kk → (i + 1 ≤ k) → (k ≤ n) → (x = v / 10 ^ (k - (i + 1))) → AW E mX8_gets G 0 0 7 [vI v, vI n, vI i, vI x, vI k] [] M := by
    intro kk
    induction kk using Nat.strongRecOn with
    | ind kk ih =>
      intro k x hk h0 h1 hx
      have xl : x ≤ v := by rw [hx]; exact Nat.div_le_self _ _
      refine A_iload dX8_gets_7 rfl ?_
      refine A_iload_n dX8_gets_9 rfl ?_
      refine A_icmp_ge (tgt := 24) dX8_gets_10 (by decide) (fun h10 => ?_) (fun h10 => ?_)
      · skip
        have e : k = n := by omega
        subst e
        refine A_iload_n dX8_gets_24 rfl ?_
        refine A_bipush dX8_gets_25 bp_10 (by decide) ?_
        refine A_irem  dX8_gets_27 (by decide) (by rw [show (10 : Int) = ((10 : Nat) : Int) from rfl, tdiv_n]; exact rng_n (Nat.div_le_self _ _) (by omega)) (by rw [show (10 : Int) = ((10 : Nat) : Int) from rfl, tmod_n]; exact rng_n (Nat.mod_le _ _) (by omega)) ?_
        rw [show (10 : Int) = ((10 : Nat) : Int) from rfl, tmod_n]
        exact A_iret hR dX8_gets_28 rfl ⟨_, rfl, rfl, by unfold digs; rw [hx, show k - (i + 1) = k - 1 - ((i : Int)).toNat by omega]⟩
      · skip
        refine A_iload_n dX8_gets_13 rfl ?_
        refine A_bipush dX8_gets_14 bp_10 (by decide) ?_
        refine A_idiv  dX8_gets_16 (by decide) (by rw [show (10 : Int) = ((10 : Nat) : Int) from rfl, tdiv_n]; exact rng_n (Nat.div_le_self _ _) (by omega)) ?_
        rw [show (10 : Int) = ((10 : Nat) : Int) from rfl, tdiv_n]
        refine A_istore_n dX8_gets_17 (by decide) rfl ?_
        refine A_iinc dX8_gets_18 (by decide) rfl rfl ⟨by omega, by omega⟩ ?_
        refine A_goto (tgt := 7) dX8_gets_21 (by decide) ?_
        refine ih _ (by omega) (k + 1) (x / 10) rfl (by omega) (by omega) ?_
        rw [hx, Nat.div_div_eq_div_mul, ← Nat.pow_succ, show (k - (i + 1)).succ = k + 1 - (i + 1) by omega]
  exact lp _ (i + 1) v rfl (by omega) (by omega) (by simp)

theorem digs_r (n v : Nat) (p : Int) : 0 ≤ digs n v p ∧ digs n v p ≤ 9 := by unfold digs; omega
theorem rM_NT {M : Mem} {m : Nat} {T : TD} {C : CS} (h : rM M m 0 T C) : rM M m (39 * 0) T C := h
set_option maxRecDepth 100000 in
set_option maxHeartbeats 4000000 in
theorem m_gives {E : EN} {l : Launch} {M : Mem} {m v s n : Nat} {T : TD} {C : CS} (hO : isMod E m) (hrI : rI M m T) (hrM : rM M m 0 T C) (hwT : wT T) (hwC : wC T C) (hG : csG C ≤ 9999) (hn : n ≤ 1000) (hs : s < 2 ^ oF T) (hs4 : rkN s (oF T) ≤ 4) (hv : v < 10000) : Cn E l mX8_gives 5 [vR m, vI v, vI s, vI n] M (fun r M1 => ∃ z, r = vI z ∧ (frM M M1 m 117 ∧ (good T C s n (digs (rkN s (oF T)) v) → z = smN (digs (rkN s (oF T)) v) (rkN s (oF T))) ∧ (¬ good T C s n (digs (rkN s (oF T)) v) → z = -1))) := by
  refine Cn.of (by decide) rfl (Nat.le_of_ble_eq_true rfl) 5 rfl (fun oka okm G hR => ?_)
  obtain ⟨a0, a1, a2, a3, a4, a5, a6, a7, a8, a9, a10, a11, a12⟩ := id hO
  obtain ⟨⟨i0, i1, i2, i3⟩, ik, it, ie⟩ := id hrI
  obtain ⟨wt0, wtk, wtt, wtf⟩ := id hwT
  obtain ⟨wc0, wcs, wcf⟩ := id hwC
  have s64 : s < 64 := Nat.lt_of_lt_of_le hs (p2_le (n := 6) wt0.2.2.2.1)
  have pop : popN s = (rkN s (oF T) : Nat) := pop_rk hs (by omega)
  refine A_aload_n dX8_gives_0 rfl ?_
  refine A_iconst dX8_gives_1 (by decide) ?_
  refine A_iconst dX8_gives_2 (by decide) ?_
  refine A_vV2 (mj := mX8_copy) dX8_gives_3 hR.rm (by decide) ok_X8_copy mv_X8_copy ml_RX8_67 (by assumption) rfl rfl rfl (m_copy (a := 0) (b := 3) hO (by omega) (by omega) (by omega)) (fun M3 k3 q3 => ?_)
  obtain ⟨f3a, f3b, f3c⟩ := q3
  have rM3 : rM M3 m 117 T C := rM_cp (b := 3) hwT (rM_NT hrM) f3c
  obtain ⟨⟨c0, c1, c2⟩, cs, cf⟩ := id rM3
  refine A_bipush dX8_gives_6 bp_117 (by decide) ?_
  refine A_istore dX8_gives_8 (by decide) rfl ?_
  refine A_iconst dX8_gives_10 (by decide) ?_
  refine A_istore dX8_gives_11 (by decide) rfl ?_
  refine A_iconst dX8_gives_13 (by decide) ?_
  refine A_istore dX8_gives_14 (by decide) rfl ?_
  refine A_iconst dX8_gives_16 (by decide) ?_
  refine A_istore dX8_gives_17 (by decide) rfl ?_
  have lp : ∀ (k : Nat) (i : Nat) (M1 : Mem) (x8 : AV), oF T - i = k → (i ≤ oF T) → (frM M M1 m 117) → (∀ k : Int, ¬ (138 ≤ k ∧ k < 144) → M1 (m + 1) k = M3 (m + 1) k) → (∀ k : Int, 0 ≤ k → k < oF T → M1 (m + 1) (117 + 21 + k) = if k < i then csSw (hC C s (digs (rkN s (oF T)) v)) k else csSw C k) → (∀ k : Int, 0 ≤ k → k < i → csSw (hC C s (digs (rkN s (oF T)) v)) k ≤ 9) → AW E mX8_gives G 0 0 19 [vR m, vI v, vI s, vI n, vI 117, vI (rkN s i), vI (smN (digs (rkN s (oF T)) v) (rkN s i)), vI i, x8] [] M1 := by
    intro k
    induction k using Nat.strongRecOn with
    | ind k ih =>
      intro i M1 x8 hk h0 hf hg hx h9
      obtain ⟨sh, hsh⟩ : ∃ sh, sh = digs (rkN s (oF T)) v := ⟨_, rfl⟩
      rw [← hsh] at hx h9 ⊢
      have shr : ∀ p : Int, 0 ≤ sh p ∧ sh p ≤ 9 := fun p => by rw [hsh]; exact digs_r _ _ p
      refine A_iload dX8_gives_19 rfl ?_
      refine A_aload_n dX8_gives_21 rfl ?_
      refine A_getI (ki := 12) dX8_gives_22 fl_RX8_64 (by assumption) (by rfl) rfl ?_
      rw [show M1 m 12 = oF T by rw [hf.1 m (by omega) (by omega)]; exact i2]
      refine A_icmp_ge (tgt := 103) dX8_gives_25 (by decide) (fun h25 => ?_) (fun h25 => ?_)
      · skip
        have hi : i = oF T := by omega
        subst hi
        have wh : wC T (hC C s sh) := hC_w hwC (fun g a b => ⟨(shr _).1, by
          have := h9 g (by omega) (by omega)
          have e : csSw (hC C s sh) g = csSw C g + (if s.testBit (g : Int).toNat = true then sh (rkN s (g : Int).toNat) else 0) := rfl
          rw [show (g : Int).toNat = g by omega, if_pos b] at e
          omega⟩)
        have gd1 : ∀ g : Nat, g < oF T → s.testBit g = true → 0 ≤ sh (rkN s g) ∧ csSw C g + sh (rkN s g) ≤ 9 := fun g a b => ⟨(shr _).1, by
          have := h9 g (by omega) (by omega)
          have e : csSw (hC C s sh) g = csSw C g + (if s.testBit (g : Int).toNat = true then sh (rkN s (g : Int).toNat) else 0) := rfl
          rw [show (g : Int).toNat = g by omega, if_pos b] at e
          omega⟩
        have rMh : rM M1 m 117 T (hC C s sh) := ⟨⟨by rw [hg _ (by omega)]; exact c0, by rw [hg _ (by omega)]; exact c1, by rw [hg _ (by omega)]; exact c2⟩, fun k x y => by rw [hg _ (by omega)]; exact cs k x y, fun k x y => by
          have q := cf k x y
          refine ⟨by rw [hg _ (by omega)]; exact q.1, ?_, by rw [hg _ (by omega)]; exact q.2.2.1, by rw [hg _ (by omega)]; exact q.2.2.2⟩
          have := hx k x y
          rw [if_pos y] at this
          exact this⟩
        refine A_aload_n dX8_gives_103 rfl ?_
        refine A_iload_n dX8_gives_104 rfl ?_
        refine A_vV1 (mj := mX8_tryFor) dX8_gives_105 hR.rm (by decide) ok_X8_tryFor mv_X8_tryFor ml_RX8_192 (by assumption) rfl rfl rfl (m_tryFor (C := hC C s sh) hO (rI_fr hrI (fun y hy => hf.1 y (by omega) (by omega))) rMh hwT wh (by show csG C < 100000; omega) hn) (fun M105 k105 q105 => ?_)
        obtain ⟨q105a, q105b⟩ := q105
        refine A_iload_n dX8_gives_108 rfl ?_
        refine A_aload_n dX8_gives_109 rfl ?_
        refine A_iload dX8_gives_110 rfl ?_
        refine A_vI1 (mj := mX8_filedSet) dX8_gives_112 hR.rm (by decide) ok_X8_filedSet mv_X8_filedSet ml_RX8_207 (by assumption) rfl rfl rfl (m_filedSet (b := 117) hO (rI_fr hrI (fun y hy => (q105a.1 y (by omega) (by omega)).trans (hf.1 y (by omega) (by omega)))) q105b hwT (itC_w hwT wh n).1 (by omega)) (fun z112 M112 g112 k112 q112 => ?_)
        obtain ⟨e112, q112⟩ := q112
        subst M112
        subst z112
        have f6 := fs64 (F := csF (itC T (hC C s sh) n)) hwT
        refine A_iconst dX8_gives_115 (by decide) ?_
        refine A_ixor (z := (-1 - ((fsN (csF (itC T (hC C s sh) n)) (oF T) : Nat) : Int))) dX8_gives_116 (b_not _ f6) ⟨by omega, by omega⟩ ?_
        refine A_iand (z := ((s &&& (63 - fsN (csF (itC T (hC C s sh) n)) (oF T)) : Nat) : Int)) dX8_gives_117 (b_nand s s64 _ f6) (rng64 (Nat.lt_of_le_of_lt Nat.and_le_left s64)) ?_
        refine A_if_ne (tgt := 126) dX8_gives_118 (by decide) (fun h118 => ?_) (fun h118 => ?_)
        · skip
          refine A_iconst dX8_gives_126 (by decide) ?_
          exact A_iret hR dX8_gives_127 rfl (by
      have zz := b_nz s s64 (fsN (csF (itC T (hC C s sh) n)) (oF T)) f6
      have ar := and_rdy (T := T) (s := s) (C := itC T (hC C s sh) n) hs
      first
      | (refine ⟨_, rfl, frM_t hf q105a, fun gg => ?_, fun _ => rfl⟩
         exact absurd (by rw [zz.mpr (Int.ofNat_inj.mp (ar.mpr (by have := gg.2; rw [← hsh] at this; exact this)))]; rfl) h118)
      | (refine ⟨_, rfl, frM_t hf q105a, fun _ => ?_, fun ng => ?_⟩
         · rw [← hsh]
         · refine absurd ⟨?_, ?_⟩ ng
           · rw [← hsh]; exact gd1
           · rw [← hsh]; exact ar.mp (by rw [zz.mp (by omega)])))
        · skip
          refine A_iload dX8_gives_121 rfl ?_
          refine A_goto (tgt := 127) dX8_gives_123 (by decide) ?_
          exact A_iret hR dX8_gives_127 rfl (by
      have zz := b_nz s s64 (fsN (csF (itC T (hC C s sh) n)) (oF T)) f6
      have ar := and_rdy (T := T) (s := s) (C := itC T (hC C s sh) n) hs
      first
      | (refine ⟨_, rfl, frM_t hf q105a, fun gg => ?_, fun _ => rfl⟩
         exact absurd (by rw [zz.mpr (Int.ofNat_inj.mp (ar.mpr (by have := gg.2; rw [← hsh] at this; exact this)))]; rfl) h118)
      | (refine ⟨_, rfl, frM_t hf q105a, fun _ => ?_, fun ng => ?_⟩
         · rw [← hsh]
         · refine absurd ⟨?_, ?_⟩ ng
           · rw [← hsh]; exact gd1
           · rw [← hsh]; exact ar.mp (by rw [zz.mp (by omega)])))
      · skip
        refine A_iload_n dX8_gives_28 rfl ?_
        refine A_iload dX8_gives_29 rfl ?_
        refine A_sI2 (mj := mX8_has) dX8_gives_31 hR.rm (by decide) ok_X8_has st_X8_has ml_RX8_198 rfl (m_has (s := s) (k := i) s64 (by omega)) (fun z31 M31 g31 k31 q31 => ?_)
        obtain ⟨e31, z0, q31⟩ := q31
        subst M31
        refine A_if_eq (tgt := 97) dX8_gives_34 (by decide) (fun h34 => ?_) (fun h34 => ?_)
        · skip
          have nb : ¬ s.testBit i = true := fun x => by have := q31.mpr x; omega
          have e : rkN s (i + 1) = rkN s i := by rw [rkN, if_neg nb]; omega
          have se : csSw (hC C s sh) i = csSw C i := by
            show csSw C i + (if s.testBit (i : Int).toNat = true then sh (rkN s (i : Int).toNat) else 0) = _
            rw [show (i : Int).toNat = i by omega, if_neg nb]; omega
          refine A_iinc dX8_gives_97 (by decide) rfl rfl ⟨by omega, by omega⟩ ?_
          refine A_goto (tgt := 19) dX8_gives_100 (by decide) ?_
          have h := ih (oF T - (i + 1)) (by omega) (i + 1) M1 x8 rfl (by omega) hf hg (fun k x y => by
            rw [← hsh, hx k x y]
            by_cases q : k = i
            · subst q; rw [if_neg (by omega), if_pos (by omega), se]
            · by_cases q2 : k < i
              · rw [if_pos q2, if_pos (by omega)]
              · rw [if_neg q2, if_neg (by omega)]) (fun k x y => by
            rw [← hsh]
            by_cases q : k = i
            · subst q; rw [se]; exact (wcf _ (by omega) (by omega)).2.2.2.1
            · exact h9 k x (by omega))
          rw [e, ← hsh] at h
          exact h
        · skip
          have yb : s.testBit i = true := q31.mp (by omega)
          have rl := rkN_lt (b := oF T) (by omega) yb
          have e : rkN s (i + 1) = rkN s i + 1 := by rw [rkN, if_pos yb]
          have wi := wcf i (by omega) (by omega)
          have se : csSw (hC C s sh) i = csSw C i + sh (rkN s i) := by
            show csSw C i + (if s.testBit (i : Int).toNat = true then sh (rkN s (i : Int).toNat) else 0) = _
            rw [show (i : Int).toNat = i by omega, if_pos yb]
          refine A_iload_n dX8_gives_37 rfl ?_
          refine A_iload_n dX8_gives_38 rfl ?_
          refine A_sI1 (mj := mX8_bits) dX8_gives_39 hR.rm (by decide) ok_X8_bits st_X8_bits ml_RX8_201 rfl (m_bits (s := s) (by omega)) (fun z39 M39 g39 k39 q39 => ?_)
          obtain ⟨e39, q39⟩ := q39
          subst M39
          rw [pop] at q39
          subst z39
          refine A_iload dX8_gives_42 rfl ?_
          refine A_sI3 (mj := mX8_gets) dX8_gives_44 hR.rm (by decide) ok_X8_gets st_X8_gets ml_RX8_204 rfl (m_gets (v := v) (n := rkN s (oF T)) (i := rkN s i) hv hs4 rl) (fun z44 M44 g44 k44 q44 => ?_)
          obtain ⟨e44, q44⟩ := q44
          subst M44
          subst z44
          rw [← hsh]
          refine A_istore dX8_gives_47 (by decide) rfl ?_
          refine A_aload_n dX8_gives_49 rfl ?_
          refine A_getR dX8_gives_50 fl_RX8_7 (by assumption) (by rfl) ?_
          refine A_iload dX8_gives_53 rfl ?_
          refine A_bipush dX8_gives_55 bp_21 (by decide) ?_
          refine A_iadd dX8_gives_57 ⟨by omega, by omega⟩ ?_
          refine A_iload dX8_gives_58 rfl ?_
          refine A_iadd dX8_gives_60 ⟨by omega, by omega⟩ ?_
          refine A_dup2 dX8_gives_61 rfl rfl ?_
          refine A_iald dX8_gives_62 (by assumption) (by omega) (by omega) ?_
          rw [hx i (by omega) (by omega), if_neg (by omega)]
          have sr := shr (rkN s i)
          refine A_iload dX8_gives_63 rfl ?_
          refine A_iadd dX8_gives_65 ⟨by omega, by omega⟩ ?_
          refine A_iast dX8_gives_66 (by assumption) (by omega) (by omega) (fun M66 e66 k66 => ?_)
          refine A_aload_n dX8_gives_67 rfl ?_
          refine A_getR dX8_gives_68 fl_RX8_7 (by assumption) (by rfl) ?_
          refine A_iload dX8_gives_71 rfl ?_
          refine A_bipush dX8_gives_73 bp_21 (by decide) ?_
          refine A_iadd dX8_gives_75 ⟨by omega, by omega⟩ ?_
          refine A_iload dX8_gives_76 rfl ?_
          refine A_iadd dX8_gives_78 ⟨by omega, by omega⟩ ?_
          refine A_iald dX8_gives_79 (by assumption) (by omega) (by omega) ?_
          rw [show M66 (m + 1) (117 + 21 + i) = csSw C i + sh (rkN s i) by rw [e66, upm_s]]
          refine A_bipush dX8_gives_80 bp_9 (by decide) ?_
          refine A_icmp_le (tgt := 87) dX8_gives_82 (by decide) (fun h82 => ?_) (fun h82 => ?_)
          · skip
            refine A_iload dX8_gives_87 rfl ?_
            refine A_iload dX8_gives_89 rfl ?_
            have smr := sm_split (a := sh) (k := 0) (rkN s i) (by omega) (fun p _ _ => shr p)
            have sm0 : smN sh 0 = 0 := rfl
            refine A_iadd dX8_gives_91 ⟨by omega, by omega⟩ ?_
            skip
            refine A_istore dX8_gives_92 (by decide) rfl ?_
            refine A_iinc dX8_gives_94 (by decide) rfl rfl ⟨by omega, by omega⟩ ?_
            refine A_iinc dX8_gives_97 (by decide) rfl rfl ⟨by omega, by omega⟩ ?_
            refine A_goto (tgt := 19) dX8_gives_100 (by decide) ?_
            have h := ih (oF T - (i + 1)) (by omega) (i + 1) M66 (vI (sh (rkN s i))) rfl (by omega) (frM_t hf ⟨fun y y1 y2 => by rw [e66, upm_c y1], fun k hk => by rw [e66, upm_k (by omega)]⟩) (fun k hk => by rw [e66, upm_k (by omega)]; exact hg k hk) (fun k x y => by
              rw [← hsh, e66, upm_x]
              by_cases q : k = i
              · subst q; rw [if_pos ⟨rfl, rfl⟩, if_pos (by omega), se]
              · rw [if_neg (fun z => q (by omega)), hx k x y]
                by_cases q2 : k < i
                · rw [if_pos q2, if_pos (by omega)]
                · rw [if_neg q2, if_neg (by omega)]) (fun k x y => by
              rw [← hsh]
              by_cases q : k = i
              · subst q; omega
              · exact h9 k x (by omega))
            rw [e, smN, ← hsh] at h
            exact h
          · skip
            refine A_iconst dX8_gives_85 (by decide) ?_
            exact A_iret hR dX8_gives_86 rfl ⟨_, rfl, frM_t hf ⟨fun y y1 y2 => by rw [e66, upm_c y1], fun k hk => by rw [e66, upm_k (by omega)]⟩, fun gg => by
            have := gg.1 i (by omega) yb
            rw [← hsh] at this
            omega, fun _ => rfl⟩
  exact lp _ 0 M3 vU rfl (by omega) ⟨fun y y1 y2 => f3a y y1, fun k hk => f3b k (by omega)⟩ (fun _ _ => rfl) (fun k x y => by rw [if_neg (by omega)]; exact (cf k x y).2.1) (fun k x y => by omega)

