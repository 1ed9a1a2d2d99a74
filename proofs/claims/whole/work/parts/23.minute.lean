/-! COURSE: a minute -/
/-- a file is carried in the minute that comes -/
def carr (T : TD) (C : CS) : Prop := ∃ k : Int, 0 ≤ k ∧ k < oF T ∧ crd T C k ≠ -1
theorem rng_p2 {i : Nat} (h : i < 30) : rng ((2 ^ i : Nat) : Int) := ⟨Int.le_trans (by decide) (Int.natCast_nonneg _), by have : 2 ^ i ≤ 2 ^ 29 := p2_le (by omega); exact Int.le_trans (Int.ofNat_le.mpr this) (by decide)⟩
theorem rC_in {M M1 : Mem} {c : Nat} {T : TD} {C : CS} (h : rC M c T C) (hf : ∀ x, c ≤ x → x ≤ c + 5 → M1 x = M x) : rC M1 c T C := by
  unfold rC
  rw [hf c (by omega) (by omega), hf (c + 1) (by omega) (by omega), hf (c + 2) (by omega) (by omega), hf (c + 3) (by omega) (by omega), hf (c + 4) (by omega) (by omega), hf (c + 5) (by omega) (by omega)]
  exact h
theorem mnB_A (T : TD) (C : CS) (cr : Fn) (f : Int) : csA (mnB T C cr) f = if cr f = -1 then csA C f else acr T (cr f) (csA C f) := rfl
theorem mnB_Sw (T : TD) (C : CS) (cr : Fn) (f : Int) : csSw (mnB T C cr) f = if cr f = -1 then csSw C f else swb (oK T (csA (mnB T C cr) f)) (csSw C f) := rfl
theorem mnB_C (T : TD) (C : CS) (cr : Fn) (f : Int) : csC (mnB T C cr) f = if cr f = -1 then csC C f else cr f := rfl
theorem mnB_F (T : TD) (C : CS) (cr : Fn) (f : Int) : csF (mnB T C cr) f = if cr f ≠ -1 ∧ csA (mnB T C cr) f = oE T f then csG C else csF C f := rfl
abbrev mvd (c : Nat) (y : Nat) : Prop := y = c ∨ y = c + 2 ∨ y = c + 3 ∨ y = c + 4 ∨ y = c + 5
set_option maxRecDepth 100000 in
set_option maxHeartbeats 4000000 in
theorem c_arrive {E : EN} {l : Launch} {M : Mem} {c t : Nat} {T : TD} {C : CS}{cr : Fn}(hC : isCrs E c) (hT : isTold E t) (hd : t + 8 ≤ c ∨ c + 8 ≤ t) (hrT : rT M t T) (hwT : wT T) (hwC : wC T C) (hg : M c 1 = csG C) (hb : M c 3 = fsN (csF C) (oF T)) (hf0 : ∀ k : Int, 0 ≤ k → k < oF T → M (c + 2) k = csA C k ∧ M (c + 3) k = csSw C k ∧ M (c + 4) k = csC C k ∧ M (c + 5) k = csF C k) (hcr : ∀ k : Int, 0 ≤ k → k < oF T → M (c + 6) k = cr k ∧ -1 ≤ cr k ∧ cr k < oT T ∧ (cr k ≠ -1 → onT T (cr k) (csA C k) ∧ csF C k = -1)) : Cn E l mX0_arrive 2 [vR c, vR t] M (fun r M1 => r = vU ∧ ((∀ x, ¬ mvd c x → M1 x = M x) ∧ (∀ k : Int, k ≠ 3 → M1 c k = M c k) ∧ M1 c 3 = fsN (csF (mnB T C cr)) (oF T) ∧ ∀ k : Int, 0 ≤ k → k < oF T → M1 (c + 2) k = csA (mnB T C cr) k ∧ M1 (c + 3) k = csSw (mnB T C cr) k ∧ M1 (c + 4) k = csC (mnB T C cr) k ∧ M1 (c + 5) k = csF (mnB T C cr) k)) := by
  refine Cn.of (by decide) rfl (Nat.le_of_ble_eq_true rfl) 2 rfl (fun oka okm G hR => ?_)
  obtain ⟨aC0, aC1, aC2, aC3, aC4, aC5, aC6, aC7⟩ := id hC
  obtain ⟨aT0, aT1, aT2, aT3, aT4, aT5, aT6, aT7⟩ := id hT
  obtain ⟨⟨t0, t1, t2, t3, t4⟩, tk, tt, tf⟩ := id hrT
  obtain ⟨wt0, wtk, wtt, wtf⟩ := id hwT
  obtain ⟨wc0, wcs, wcf⟩ := id hwC
  refine A_iconst dX0_arrive_0 (by decide) ?_
  refine A_istore_n dX0_arrive_1 (by decide) rfl ?_
  have lp : ∀ (k : Nat) (i : Nat) (M1 : Mem) (x3 : AV), oF T - i = k → (i ≤ oF T) → (∀ y, ¬ mvd c y → M1 y = M y) → (∀ k : Int, k ≠ 3 → M1 c k = M c k) → (M1 c 3 = fsN (fun f => if f < i then csF (mnB T C cr) f else csF C f) (oF T)) → (∀ k : Int, 0 ≤ k → k < oF T → M1 (c + 2) k = (if k < i then csA (mnB T C cr) k else csA C k) ∧ M1 (c + 3) k = (if k < i then csSw (mnB T C cr) k else csSw C k) ∧ M1 (c + 4) k = (if k < i then csC (mnB T C cr) k else csC C k) ∧ M1 (c + 5) k = (if k < i then csF (mnB T C cr) k else csF C k)) → AW E mX0_arrive G 0 0 2 [vR c, vR t, vI i, x3] [] M1 := by
    intro k
    induction k using Nat.strongRecOn with
    | ind k ih =>
      intro i M1 x3 hk h0 hf hg1 hb1 hc
      have w6 : M1 (c + 6) = M (c + 6) := hf _ (by unfold mvd; omega)
      have rT1 : rT M1 t T := rT_fr hrT (c := c) (n := 8) (fun x hx => hf x (by unfold mvd; omega)) hd
      have wt : M1 t = M t := hf _ (by unfold mvd; omega)
      refine A_iload_n dX0_arrive_2 rfl ?_
      refine A_aload_n dX0_arrive_3 rfl ?_
      refine A_getI (ki := 2) dX0_arrive_4 fl_RX0_100 (by assumption) (by rfl) rfl ?_
      rw [wt, t2]
      refine A_icmp_ge (tgt := 114) dX0_arrive_7 (by decide) (fun h7 => ?_) (fun h7 => ?_)
      · skip
        have hi : i = oF T := by omega
        subst hi
        exact A_vret hR dX0_arrive_114 rfl ⟨rfl, hf, hg1, by rw [hb1]; congr 1; exact fsN_ext _ (fun k hk => by rw [if_pos (by omega)]), fun k a b => by have q := hc k a b; rw [if_pos b, if_pos b, if_pos b, if_pos b] at q; exact q⟩
      · skip
        have f1 := hcr i (by omega) (by omega)
        have f2 := wcf i (by omega) (by omega)
        have f3 := hc i (by omega) (by omega)
        rw [if_neg (by omega), if_neg (by omega), if_neg (by omega), if_neg (by omega)] at f3
        refine A_aload_n dX0_arrive_10 rfl ?_
        refine A_getR dX0_arrive_11 fl_RX0_27 (by assumption) (by rfl) ?_
        refine A_iload_n dX0_arrive_14 rfl ?_
        refine A_iald dX0_arrive_15 (by assumption) (by omega) (by omega) ?_
        rw [w6, f1.1]
        refine A_istore_n dX0_arrive_16 (by decide) rfl ?_
        refine A_iload_n dX0_arrive_17 rfl ?_
        refine A_iconst dX0_arrive_18 (by decide) ?_
        refine A_icmp_ne (tgt := 25) dX0_arrive_19 (by decide) (fun h19 => ?_) (fun h19 => ?_)
        · skip
          have n1 : cr i ≠ -1 := h19
          obtain ⟨o1, o2⟩ := f1.2.2.2 n1
          have ar := acr_r hwT (by omega) f1.2.2.1 o1
          have nA : csA (mnB T C cr) i = acr T (cr i) (csA C i) := by rw [mnB_A, if_neg n1]
          have nS : csSw (mnB T C cr) i = swb (oK T (acr T (cr i) (csA C i))) (csSw C i) := by rw [mnB_Sw, if_neg n1, nA]
          have nC : csC (mnB T C cr) i = cr i := by rw [mnB_C, if_neg n1]
          refine A_aload_n dX0_arrive_25 rfl ?_
          refine A_getR dX0_arrive_26 fl_RX0_21 (by assumption) (by rfl) ?_
          refine A_iload_n dX0_arrive_29 rfl ?_
          refine A_iload_n dX0_arrive_30 rfl ?_
          refine A_iast dX0_arrive_31 (by assumption) (by omega) (by omega) (fun M31 e31 k31 => ?_)
          have r31 : rT M31 t T := rT_fr rT1 (c := c) (n := 8) (fun x hx => by rw [e31, upm_c (by omega)]) hd
          refine A_aload_n dX0_arrive_32 rfl ?_
          refine A_getR dX0_arrive_33 fl_RX0_15 (by assumption) (by rfl) ?_
          refine A_iload_n dX0_arrive_36 rfl ?_
          refine A_aload_n dX0_arrive_37 rfl ?_
          refine A_iload_n dX0_arrive_38 rfl ?_
          refine A_aload_n dX0_arrive_39 rfl ?_
          refine A_getR dX0_arrive_40 fl_RX0_15 (by assumption) (by rfl) ?_
          refine A_iload_n dX0_arrive_43 rfl ?_
          refine A_iald dX0_arrive_44 (by assumption) (by omega) (by omega) ?_
          rw [show M31 (c + 2) i = csA C i by rw [e31, upm_c (by omega)]; exact f3.1]
          refine A_vI2 (mj := mX6_across) dX0_arrive_45 hR.rm (by decide) ok_X6_across mv_X6_across ml_RX0_126 (by assumption) rfl rfl rfl (c_across (by exact ⟨aT0, aT1, aT2, aT3, aT4, aT5, aT6, aT7⟩) (by omega) (by omega)) (fun z45 M45 g45 k45 q45 => ?_)
          obtain ⟨e45, q45a⟩ := q45
          subst M45
          rw [(r31.2.2.1 (cr i) (by omega) (by omega)).1, (r31.2.2.1 (cr i) (by omega) (by omega)).2.1] at q45a
          replace q45a : z45 = acr T (cr i) (csA C i) := q45a
          subst z45
          refine A_iast dX0_arrive_48 (by assumption) (by omega) (by omega) (fun M48 e48 k48 => ?_)
          have r48 : rT M48 t T := rT_fr r31 (c := c) (n := 8) (fun x hx => by rw [e48, upm_c (by omega)]) hd
          refine A_aload_n dX0_arrive_49 rfl ?_
          refine A_getR dX0_arrive_50 fl_RX0_18 (by assumption) (by rfl) ?_
          refine A_iload_n dX0_arrive_53 rfl ?_
          refine A_aload_n dX0_arrive_54 rfl ?_
          refine A_aload_n dX0_arrive_55 rfl ?_
          refine A_getR dX0_arrive_56 fl_RX0_15 (by assumption) (by rfl) ?_
          refine A_iload_n dX0_arrive_59 rfl ?_
          refine A_iald dX0_arrive_60 (by assumption) (by omega) (by omega) ?_
          rw [show M48 (c + 2) i = acr T (cr i) (csA C i) by rw [e48, upm_s]]
          refine A_aload_n dX0_arrive_61 rfl ?_
          refine A_getR dX0_arrive_62 fl_RX0_18 (by assumption) (by rfl) ?_
          refine A_iload_n dX0_arrive_65 rfl ?_
          refine A_iald dX0_arrive_66 (by assumption) (by omega) (by omega) ?_
          rw [show M48 (c + 3) i = csSw C i by rw [e48, upm_c (by omega), e31, upm_c (by omega)]; exact f3.2.1]
          refine A_vI2 (mj := mX6_sweetnessBehind) dX0_arrive_67 hR.rm (by decide) ok_X6_sweetnessBehind mv_X6_sweetnessBehind ml_RX0_129 (by assumption) rfl rfl rfl (c_swb (by exact ⟨aT0, aT1, aT2, aT3, aT4, aT5, aT6, aT7⟩) (by omega) (by omega) (by omega) (by omega)) (fun z67 M67 g67 k67 q67 => ?_)
          obtain ⟨e67, q67a⟩ := q67
          subst M67
          rw [r48.2.1 _ (by omega) (by omega)] at q67a
          subst z67
          refine A_iast dX0_arrive_70 (by assumption) (by omega) (by omega) (fun M70 e70 k70 => ?_)
          have r70 : rT M70 t T := rT_fr r48 (c := c) (n := 8) (fun x hx => by rw [e70, upm_c (by omega)]) hd
          refine A_aload_n dX0_arrive_71 rfl ?_
          refine A_getR dX0_arrive_72 fl_RX0_15 (by assumption) (by rfl) ?_
          refine A_iload_n dX0_arrive_75 rfl ?_
          refine A_iald dX0_arrive_76 (by assumption) (by omega) (by omega) ?_
          rw [show M70 (c + 2) i = acr T (cr i) (csA C i) by rw [e70, upm_c (by omega), e48, upm_s]]
          refine A_aload_n dX0_arrive_77 rfl ?_
          refine A_getR dX0_arrive_78 fl_RX0_132 (by assumption) (by rfl) ?_
          refine A_iload_n dX0_arrive_81 rfl ?_
          refine A_iald dX0_arrive_82 (by assumption) (by omega) (by omega) ?_
          rw [(r70.2.2.2 i (by omega) (by omega)).2.1]
          refine A_icmp_ne (tgt := 108) dX0_arrive_83 (by decide) (fun h83 => ?_) (fun h83 => ?_)
          · skip
            refine A_iinc dX0_arrive_108 (by decide) rfl rfl ⟨by omega, by omega⟩ ?_
            refine A_goto (tgt := 2) dX0_arrive_111 (by decide) ?_
            have nF : csF (mnB T C cr) i = csF C i := by rw [mnB_F, nA, if_neg (fun z => h83 z.2)]
            have f70 : ∀ y, y ≠ c + 2 → y ≠ c + 3 → y ≠ c + 4 → M70 y = M1 y := fun y y1 y2 y3 => by rw [e70, upm_c y2, e48, upm_c y1, e31, upm_c y3]
            refine ih _ ?_ (i + 1) M70 _ rfl (by omega) (fun y hy => by rw [f70 y (by unfold mvd at hy; omega) (by unfold mvd at hy; omega) (by unfold mvd at hy; omega)]; exact hf y hy) (fun k hk => by rw [f70 c (by omega) (by omega) (by omega)]; exact hg1 k hk) ?_ (fun k a b => ?_)
            · omega
            · rw [f70 c (by omega) (by omega) (by omega), hb1]; congr 1
              refine fsN_ext _ (fun k hk => ?_)
              by_cases q : k < i
              · rw [if_pos (by omega), if_pos (by omega)]
              · rw [if_neg (by omega)]
                by_cases q2 : k = i
                · subst q2
                  rw [if_pos (by omega), nF]
                · rw [if_neg (by omega)]
            · have q0 := hc k a b
              have v2 : M70 (c + 2) k = if k = i then acr T (cr i) (csA C i) else M1 (c + 2) k := by rw [e70, upm_c (by omega), e48, upm_x, e31, upm_c (by omega)]; simp
              have v3 : M70 (c + 3) k = if k = i then swb (oK T (acr T (cr i) (csA C i))) (csSw C i) else M1 (c + 3) k := by rw [e70, upm_x, e48, upm_c (by omega), e31, upm_c (by omega)]; simp
              have v4 : M70 (c + 4) k = if k = i then cr i else M1 (c + 4) k := by rw [e70, upm_c (by omega), e48, upm_c (by omega), e31, upm_x]; simp
              have v5 : M70 (c + 5) k = M1 (c + 5) k := by rw [f70 _ (by omega) (by omega) (by omega)]
              rw [v2, v3, v4, v5]
              by_cases q2 : k = i
              · subst q2
                rw [if_neg (by omega)] at q0
                rw [if_pos rfl, if_pos rfl, if_pos rfl, if_pos (by omega), if_pos (by omega), if_pos (by omega), if_pos (by omega), nA, nS, nC, nF]
                rw [if_neg (by omega), if_neg (by omega), if_neg (by omega)] at q0
                exact ⟨rfl, rfl, rfl, q0.2.2.2⟩
              · rw [if_neg q2, if_neg q2, if_neg q2]
                by_cases q : k < i
                · rw [if_pos q, if_pos q, if_pos q, if_pos q] at q0
                  rw [if_pos (by omega), if_pos (by omega), if_pos (by omega), if_pos (by omega)]
                  exact q0
                · rw [if_neg q, if_neg q, if_neg q, if_neg q] at q0
                  rw [if_neg (by omega), if_neg (by omega), if_neg (by omega), if_neg (by omega)]
                  exact q0
          · skip
            refine A_aload_n dX0_arrive_86 rfl ?_
            refine A_getR dX0_arrive_87 fl_RX0_24 (by assumption) (by rfl) ?_
            refine A_iload_n dX0_arrive_90 rfl ?_
            refine A_aload_n dX0_arrive_91 rfl ?_
            refine A_getI (ki := 1) dX0_arrive_92 fl_RX0_40 (by assumption) (by rfl) rfl ?_
            rw [show M70 c 1 = csG C by rw [e70, upm_c (by omega), e48, upm_c (by omega), e31, upm_c (by omega)]; exact (hg1 1 (by omega)).trans hg]
            refine A_iast dX0_arrive_95 (by assumption) (by omega) (by omega) (fun M95 e95 k95 => ?_)
            refine A_aload_n dX0_arrive_96 rfl ?_
            refine A_dup dX0_arrive_97 rfl ?_
            refine A_getI (ki := 3) dX0_arrive_98 fl_RX0_46 (by assumption) (by rfl) rfl ?_
            rw [show M95 c 3 = M1 c 3 by rw [e95, upm_c (by omega), e70, upm_c (by omega), e48, upm_c (by omega), e31, upm_c (by omega)], hb1]
            have hp : 2 ^ i ≤ 2 ^ 5 := p2_le (by omega)
            have nF : csF (mnB T C cr) i = csG C := by rw [mnB_F, nA, if_pos ⟨by omega, by omega⟩]
            refine A_iconst dX0_arrive_101 (by decide) ?_
            refine A_iload_n dX0_arrive_102 rfl ?_
            refine A_ishl (z := ((2 ^ i : Nat) : Int)) dX0_arrive_103 (b_shl i (by omega)) (rng_p2 (by omega)) ?_
            refine A_ior (z := ((fsN (fun f => if f < ((i + 1 : Nat) : Int) then csF (mnB T C cr) f else csF C f) (oF T) : Nat) : Int)) dX0_arrive_104 (by rw [b_or]; congr 2; exact fsN_set (by omega) (by rw [if_pos (by omega), nF]; omega) (fun k hk hne => by
            by_cases q : k < i
            · rw [if_pos (by omega), if_pos (by omega)]
            · rw [if_neg (by omega), if_neg (by omega)])) (by have := (fsN_bit (fun f => if f < ((i + 1 : Nat) : Int) then csF (mnB T C cr) f else csF C f) (oF T)).1; have : 2 ^ (oF T) ≤ 2 ^ 6 := p2_le (by omega); exact ⟨by omega, by omega⟩) ?_
            refine A_putI (ki := 3) dX0_arrive_105 fl_RX0_46 fi0_3 (by assumption) (by rfl) rfl (fun M105 e105 k105 => ?_)
            refine A_iinc dX0_arrive_108 (by decide) rfl rfl ⟨by omega, by omega⟩ ?_
            refine A_goto (tgt := 2) dX0_arrive_111 (by decide) ?_
            have nF : csF (mnB T C cr) i = csG C := by rw [mnB_F, nA, if_pos ⟨by omega, by omega⟩]
            have f105 : ∀ y, ¬ mvd c y → M105 y = M1 y := fun y hy => by
              unfold mvd at hy
              rw [e105, upm_c (by omega), e95, upm_c (by omega), e70, upm_c (by omega), e48, upm_c (by omega), e31, upm_c (by omega)]
            refine ih _ ?_ (i + 1) M105 _ rfl (by omega) (fun y hy => by rw [f105 y hy]; exact hf y hy) (fun k hk => by rw [e105, upm_k hk, e95, upm_c (by omega), e70, upm_c (by omega), e48, upm_c (by omega), e31, upm_c (by omega)]; exact hg1 k hk) ?_ (fun k a b => ?_)
            · omega
            · rw [e105, upm_s]
            · have q0 := hc k a b
              have v2 : M105 (c + 2) k = if k = i then acr T (cr i) (csA C i) else M1 (c + 2) k := by rw [e105, upm_c (by omega), e95, upm_c (by omega), e70, upm_c (by omega), e48, upm_x, e31, upm_c (by omega)]; simp
              have v3 : M105 (c + 3) k = if k = i then swb (oK T (acr T (cr i) (csA C i))) (csSw C i) else M1 (c + 3) k := by rw [e105, upm_c (by omega), e95, upm_c (by omega), e70, upm_x, e48, upm_c (by omega), e31, upm_c (by omega)]; simp
              have v4 : M105 (c + 4) k = if k = i then cr i else M1 (c + 4) k := by rw [e105, upm_c (by omega), e95, upm_c (by omega), e70, upm_c (by omega), e48, upm_c (by omega), e31, upm_x]; simp
              have v5 : M105 (c + 5) k = if k = i then csG C else M1 (c + 5) k := by rw [e105, upm_c (by omega), e95, upm_x, e70, upm_c (by omega), e48, upm_c (by omega), e31, upm_c (by omega)]; simp
              rw [v2, v3, v4, v5]
              by_cases q2 : k = i
              · subst q2
                rw [if_pos rfl, if_pos rfl, if_pos rfl, if_pos rfl, if_pos (by omega), if_pos (by omega), if_pos (by omega), if_pos (by omega), nA, nS, nC, nF]
                exact ⟨rfl, rfl, rfl, rfl⟩
              · rw [if_neg q2, if_neg q2, if_neg q2, if_neg q2]
                by_cases q : k < i
                · rw [if_pos q, if_pos q, if_pos q, if_pos q] at q0
                  rw [if_pos (by omega), if_pos (by omega), if_pos (by omega), if_pos (by omega)]
                  exact q0
                · rw [if_neg q, if_neg q, if_neg q, if_neg q] at q0
                  rw [if_neg (by omega), if_neg (by omega), if_neg (by omega), if_neg (by omega)]
                  exact q0
        · skip
          refine A_goto (tgt := 108) dX0_arrive_22 (by decide) ?_
          refine A_iinc dX0_arrive_108 (by decide) rfl rfl ⟨by omega, by omega⟩ ?_
          refine A_goto (tgt := 2) dX0_arrive_111 (by decide) ?_
          have hn : cr i = -1 := by omega
          refine ih _ ?_ (i + 1) M1 _ rfl (by omega) hf hg1 ?_ (fun k a b => ?_)
          · omega
          · rw [hb1]; congr 1
            refine fsN_ext _ (fun k hk => ?_)
            by_cases q : k < i
            · rw [if_pos (by omega), if_pos (by omega)]
            · rw [if_neg (by omega)]
              by_cases q2 : k = i
              · subst q2
                rw [if_pos (by omega), mnB_F, if_neg (fun z => z.1 hn)]
              · rw [if_neg (by omega)]
          · have q0 := hc k a b
            by_cases q : k < i
            · rw [if_pos q, if_pos q, if_pos q, if_pos q] at q0
              rw [if_pos (by omega), if_pos (by omega), if_pos (by omega), if_pos (by omega)]
              exact q0
            · rw [if_neg q, if_neg q, if_neg q, if_neg q] at q0
              by_cases q2 : k = i
              · subst q2
                rw [if_pos (by omega), if_pos (by omega), if_pos (by omega), if_pos (by omega), mnB_A, mnB_Sw, mnB_C, mnB_F, if_pos hn, if_pos hn, if_pos hn, if_neg (fun z => z.1 hn)]
                exact q0
              · rw [if_neg (by omega), if_neg (by omega), if_neg (by omega), if_neg (by omega)]
                exact q0
  exact lp _ 0 M vU rfl (by omega) (fun y hy => rfl) (fun k hk => rfl) (by rw [hb]; congr 1; exact fsN_ext _ (fun k hk => by rw [if_neg (by omega)])) (fun k a b => by rw [if_neg (by omega), if_neg (by omega), if_neg (by omega), if_neg (by omega)]; exact hf0 k a b)

set_option maxRecDepth 100000 in
set_option maxHeartbeats 4000000 in
theorem c_choose {E : EN} {l : Launch} {M : Mem} {c t : Nat} {T : TD} {C : CS}(hC : isCrs E c) (hT : isTold E t) (hd : t + 8 ≤ c ∨ c + 8 ≤ t) (hrT : rT M t T) (hrC : rC M c T C) (hwT : wT T) (hwC : wC T C) : Cn E l mX0_choose 2 [vR c, vR t] M (fun r M1 => ∃ z, r = vI z ∧ ((∀ x, x ≠ c + 6 → x ≠ c + 7 → M1 x = M x) ∧ (∀ k : Int, 0 ≤ k → k < oF T → M1 (c + 6) k = crd T C k) ∧ (z = 0 ∨ z = 1) ∧ (z = 1 → carr T C) ∧ (z = 0 → ∀ k : Int, 0 ≤ k → k < oF T → crd T C k = -1))) := by
  refine Cn.of (by decide) rfl (Nat.le_of_ble_eq_true rfl) 3 rfl (fun oka okm G hR => ?_)
  obtain ⟨aC0, aC1, aC2, aC3, aC4, aC5, aC6, aC7⟩ := id hC
  obtain ⟨aT0, aT1, aT2, aT3, aT4, aT5, aT6, aT7⟩ := id hT
  obtain ⟨⟨t0, t1, t2, t3, t4⟩, tk, tt, tf⟩ := id hrT
  obtain ⟨⟨c0, c1, c2, c3⟩, cs, cf⟩ := id hrC
  obtain ⟨wt0, wtk, wtt, wtf⟩ := id hwT
  obtain ⟨wc0, wcs, wcf⟩ := id hwC
  refine A_aload_n dX0_choose_0 rfl ?_
  refine A_getR dX0_choose_1 fl_RX0_27 (by assumption) (by rfl) ?_
  refine A_iconst dX0_choose_4 (by decide) ?_
  refine A_sV2 (mj := mJ7_fill_53178) dX0_choose_5 hR.rm (by decide) ok_J7_fill_53178 st_J7_fill_53178 ml_RX0_60 rfl (c_fill (n := 6) aC6 (by omega)) (fun M5 k5 q5 => ?_)
  have w5 : ∀ y, y ≠ c + 6 → M5 y = M y := fun y hy => by rw [q5, flm_o hy]
  refine A_aload_n dX0_choose_8 rfl ?_
  refine A_getI (ki := 0) dX0_choose_9 fl_RX0_39 (by assumption) (by rfl) rfl ?_
  rw [w5 c (by omega), c0]
  refine A_if_le (tgt := 17) dX0_choose_12 (by decide) (fun h12 => ?_) (fun h12 => ?_)
  · skip
    have r5T : rT M5 t T := rT_fr hrT (c := c) (n := 8) (fun x hx => w5 x (by omega)) hd
    have r5C : rC M5 c T C := rC_in hrC (fun x p q => w5 x (by omega))
    refine A_aload_n dX0_choose_17 rfl ?_
    refine A_aload_n dX0_choose_18 rfl ?_
    refine A_vV1 (mj := mX0_findSweetest) dX0_choose_19 hR.rm (by decide) ok_X0_findSweetest mv_X0_findSweetest ml_RX0_83 (by assumption) rfl rfl rfl (c_findSweetest (by exact ⟨aC0, aC1, aC2, aC3, aC4, aC5, aC6, aC7⟩) (by exact ⟨aT0, aT1, aT2, aT3, aT4, aT5, aT6, aT7⟩) hd r5T r5C hwT hwC) (fun M19 k19 q19 => ?_)
    obtain ⟨q19a, q19b⟩ := q19
    refine A_iconst dX0_choose_22 (by decide) ?_
    refine A_istore_n dX0_choose_23 (by decide) rfl ?_
    refine A_iconst dX0_choose_24 (by decide) ?_
    refine A_istore_n dX0_choose_25 (by decide) rfl ?_
    have lp : ∀ (k : Nat) (i : Nat) (x : Int) (M1 : Mem) (x4 : AV), oD T - i = k → (i ≤ oD T) → (∀ y, y ≠ c + 6 → y ≠ c + 7 → M1 y = M y) → (∀ d : Int, 0 ≤ d → d < 8 → M1 (c + 7) d = swN C d (oF T)) → (∀ k : Int, 0 ≤ k → k < oF T → M1 (c + 6) k = if csA C k < i then crd T C k else -1) → (x = 0 ∨ x = 1) → (x = 1 → carr T C) → (x = 0 → ∀ k : Int, 0 ≤ k → k < oF T → csA C k < i → crd T C k = -1) → AW E mX0_choose G 0 0 26 [vR c, vR t, vI x, vI i, x4] [] M1 := by
      intro k
      induction k using Nat.strongRecOn with
      | ind k ih =>
        intro i x M1 x4 hk h0 hf h7 hc hx0 hx1 hx2
        have wt : M1 t = M t := hf _ (by omega) (by omega)
        have wc : M1 c = M c := hf _ (by omega) (by omega)
        have w4 : M1 (c + 4) = M (c + 4) := hf _ (by omega) (by omega)
        have wk : M1 (t + 1) = M (t + 1) := hf _ (by omega) (by omega)
        have rT1 : rT M1 t T := rT_fr hrT (c := c) (n := 8) (fun x hx => hf x (by omega) (by omega)) hd
        have rC1 : rC M1 c T C := rC_in hrC (fun x p q => hf x (by omega) (by omega))
        refine A_iload_n dX0_choose_26 rfl ?_
        refine A_aload_n dX0_choose_27 rfl ?_
        refine A_getI (ki := 0) dX0_choose_28 fl_RX0_86 (by assumption) (by rfl) rfl ?_
        rw [wt, t0]
        refine A_icmp_ge (tgt := 99) dX0_choose_31 (by decide) (fun h31 => ?_) (fun h31 => ?_)
        · skip
          have hi : i = oD T := by omega
          subst hi
          refine A_iload_n dX0_choose_99 rfl ?_
          exact A_zret hR dX0_choose_100 rfl (by first | exact Or.inl rfl | exact Or.inr rfl | omega) ⟨_, rfl, hf, fun k a b => by rw [hc k a b, if_pos (wcf k a b).2.1], hx0, hx1, fun h k a b => hx2 h k a b (wcf k a b).2.1⟩
        · skip
          refine A_aload_n dX0_choose_34 rfl ?_
          refine A_getR dX0_choose_35 fl_RX0_30 (by assumption) (by rfl) ?_
          refine A_iload_n dX0_choose_38 rfl ?_
          refine A_iald dX0_choose_39 (by assumption) (by omega) (by omega) ?_
          rw [h7 i (by omega) (by omega)]
          have sr := swN_r C i (oF T)
          have sp := swN_p C i (oF T)
          refine A_istore dX0_choose_40 (by decide) rfl ?_
          refine A_iload dX0_choose_42 rfl ?_
          refine A_iconst dX0_choose_44 (by decide) ?_
          refine A_icmp_eq (tgt := 93) dX0_choose_45 (by decide) (fun h45 => ?_) (fun h45 => ?_)
          · skip
            refine A_iinc dX0_choose_93 (by decide) rfl rfl ⟨by omega, by omega⟩ ?_
            refine A_goto (tgt := 26) dX0_choose_96 (by decide) ?_
            have nn : ∀ k : Int, 0 ≤ k → k < oF T → csA C k = i → crd T C k = -1 := fun k a b q => by
              unfold crd
              rw [q]
              by_cases q1 : oK T i = 3
              · rw [if_pos (by omega)]
              · by_cases q2 : csQ C = i
                · rw [if_pos (by omega)]
                · rw [if_pos (by omega)]
            refine ih _ ?_ (i + 1) x M1 _ rfl (by omega) hf h7 (fun k a b => ?_) hx0 hx1 (fun hx k a b q => ?_)
            · omega
            · rw [hc k a b]
              by_cases q : csA C k < i
              · rw [if_pos q, if_pos (by omega)]
              · rw [if_neg q]
                by_cases q2 : csA C k = i
                · rw [if_pos (by omega), nn k a b q2]
                · rw [if_neg (by omega)]
            · by_cases q2 : csA C k = i
              · exact nn k a b q2
              · exact hx2 hx k a b (by omega)
          · skip
            refine A_aload_n dX0_choose_48 rfl ?_
            refine A_iload_n dX0_choose_49 rfl ?_
            refine A_aload_n dX0_choose_50 rfl ?_
            refine A_vI2 (mj := mX0_letsGo) dX0_choose_51 hR.rm (by decide) ok_X0_letsGo mv_X0_letsGo ml_RX0_89 (by assumption) rfl rfl rfl (c_letsGo (by exact ⟨aC0, aC1, aC2, aC3, aC4, aC5, aC6, aC7⟩) (by exact ⟨aT0, aT1, aT2, aT3, aT4, aT5, aT6, aT7⟩) (by omega) (by omega)) (fun z51 M51 g51 k51 q51 => ?_)
            obtain ⟨e51, q51a, q51b⟩ := q51
            subst M51
            rw [wc, c2, wk, tk i (by omega) (by omega)] at q51b
            refine A_if_ne (tgt := 60) dX0_choose_54 (by decide) (fun h54 => ?_) (fun h54 => ?_)
            · skip
              have sp := sp h45
              have f1 := cf (swN C i (oF T)) (by omega) (by omega)
              have f2 := wcf (swN C i (oF T)) (by omega) (by omega)
              refine A_aload_n dX0_choose_60 rfl ?_
              refine A_getR dX0_choose_61 fl_RX0_27 (by assumption) (by rfl) ?_
              refine A_iload dX0_choose_64 rfl ?_
              refine A_aload_n dX0_choose_66 rfl ?_
              refine A_iload_n dX0_choose_67 rfl ?_
              refine A_aload_n dX0_choose_68 rfl ?_
              refine A_getR dX0_choose_69 fl_RX0_21 (by assumption) (by rfl) ?_
              refine A_iload dX0_choose_72 rfl ?_
              refine A_iald dX0_choose_74 (by assumption) (by omega) (by omega) ?_
              rw [w4, f1.2.2.1]
              refine A_aload_n dX0_choose_75 rfl ?_
              refine A_vI3 (mj := mX0_wayFrom) dX0_choose_76 hR.rm (by decide) ok_X0_wayFrom mv_X0_wayFrom ml_RX0_93 (by assumption) rfl rfl rfl (c_wayFrom (by exact ⟨aC0, aC1, aC2, aC3, aC4, aC5, aC6, aC7⟩) (by exact ⟨aT0, aT1, aT2, aT3, aT4, aT5, aT6, aT7⟩) hd rT1 rC1 hwT hwC (by omega) (by omega)) (fun z76 M76 g76 k76 q76 => ?_)
              obtain ⟨e76, q76a⟩ := q76
              subst M76
              subst z76
              refine A_iast dX0_choose_79 (by assumption) (by omega) (by omega) (fun M79 e79 k79 => ?_)
              have cw : crd T C (swN C i (oF T)) = way T C i (csC C (swN C i (oF T))) := by
                unfold crd
                rw [sp.1, if_neg (by omega)]
              have nn : ∀ k : Int, 0 ≤ k → k < oF T → csA C k = i → k ≠ swN C i (oF T) → crd T C k = -1 := fun k a b q q3 => by
                unfold crd
                rw [q, if_pos (by omega)]
              have f79 : ∀ y, y ≠ c + 6 → y ≠ c + 7 → M79 y = M y := fun y y1 y2 => by rw [e79, upm_c y1]; exact hf y y1 y2
              have c79 : ∀ k : Int, 0 ≤ k → k < oF T → M79 (c + 6) k = if csA C k < ((i + 1 : Nat) : Int) then crd T C k else -1 := fun k a b => by
                rw [e79, upm_x]
                by_cases q3 : k = swN C i (oF T)
                · subst q3
                  rw [if_pos ⟨rfl, rfl⟩, if_pos (by omega), cw]
                · rw [if_neg (fun z => q3 z.2), hc k a b]
                  by_cases q : csA C k < i
                  · rw [if_pos q, if_pos (by omega)]
                  · rw [if_neg q]
                    by_cases q2 : csA C k = i
                    · rw [if_pos (by omega), nn k a b q2 q3]
                    · rw [if_neg (by omega)]
              refine A_aload_n dX0_choose_80 rfl ?_
              refine A_getR dX0_choose_81 fl_RX0_27 (by assumption) (by rfl) ?_
              refine A_iload dX0_choose_84 rfl ?_
              refine A_iald dX0_choose_86 (by assumption) (by omega) (by omega) ?_
              rw [show M79 (c + 6) (swN C i (oF T)) = way T C i (csC C (swN C i (oF T))) by rw [e79, upm_s]]
              refine A_iconst dX0_choose_87 (by decide) ?_
              refine A_icmp_eq (tgt := 93) dX0_choose_88 (by decide) (fun h88 => ?_) (fun h88 => ?_)
              · skip
                refine A_iinc dX0_choose_93 (by decide) rfl rfl ⟨by omega, by omega⟩ ?_
                refine A_goto (tgt := 26) dX0_choose_96 (by decide) ?_
                refine ih _ ?_ (i + 1) x M79 _ rfl (by omega) f79 (fun d a b => by rw [e79, upm_c (by omega)]; exact h7 d a b) c79 hx0 hx1 (fun hx k a b q => ?_)
                · omega
                · by_cases q2 : csA C k = i
                  · by_cases q3 : k = swN C i (oF T)
                    · rw [q3, cw]; exact h88
                    · rw [nn k a b q2 q3]
                  · exact hx2 hx k a b (by omega)
              · skip
                refine A_iconst dX0_choose_91 (by decide) ?_
                refine A_istore_n dX0_choose_92 (by decide) rfl ?_
                refine A_iinc dX0_choose_93 (by decide) rfl rfl ⟨by omega, by omega⟩ ?_
                refine A_goto (tgt := 26) dX0_choose_96 (by decide) ?_
                refine ih _ ?_ (i + 1) 1 M79 _ rfl (by omega) f79 (fun d a b => by rw [e79, upm_c (by omega)]; exact h7 d a b) c79 (Or.inr rfl) (fun _ => ⟨swN C i (oF T), by omega, by omega, by rw [cw]; exact h88⟩) (fun hx => absurd hx (by omega))
                omega
            · skip
              refine A_goto (tgt := 93) dX0_choose_57 (by decide) ?_
              refine A_iinc dX0_choose_93 (by decide) rfl rfl ⟨by omega, by omega⟩ ?_
              refine A_goto (tgt := 26) dX0_choose_96 (by decide) ?_
              have nn : ∀ k : Int, 0 ≤ k → k < oF T → csA C k = i → crd T C k = -1 := fun k a b q => by
                unfold crd
                rw [q]
                by_cases q1 : oK T i = 3
                · rw [if_pos (by omega)]
                · by_cases q2 : csQ C = i
                  · rw [if_pos (by omega)]
                  · rw [if_pos (by omega)]
              refine ih _ ?_ (i + 1) x M1 _ rfl (by omega) hf h7 (fun k a b => ?_) hx0 hx1 (fun hx k a b q => ?_)
              · omega
              · rw [hc k a b]
                by_cases q : csA C k < i
                · rw [if_pos q, if_pos (by omega)]
                · rw [if_neg q]
                  by_cases q2 : csA C k = i
                  · rw [if_pos (by omega), nn k a b q2]
                  · rw [if_neg (by omega)]
              · by_cases q2 : csA C k = i
                · exact nn k a b q2
                · exact hx2 hx k a b (by omega)
    have hz : ¬ 0 < csW C := by omega
    exact lp _ 0 0 M19 vU rfl (by omega) (fun y y1 y2 => by rw [q19a y y2]; exact w5 y y1) q19b (fun k a b => by rw [q19a _ (by omega), q5, flm_i a (by omega), if_neg (by have := wcf k a b; omega)]) (Or.inl rfl) (fun h => absurd h (by omega)) (fun _ k a b q => by have := wcf k a b; omega)
  · skip
    have r5T : rT M5 t T := rT_fr hrT (c := c) (n := 8) (fun x hx => w5 x (by omega)) hd
    have r5C : rC M5 c T C := rC_in hrC (fun x p q => w5 x (by omega))
    refine A_iconst dX0_choose_15 (by decide) ?_
    exact A_zret hR dX0_choose_16 rfl (by first | exact Or.inl rfl | exact Or.inr rfl | omega) ⟨_, rfl, fun y y1 y2 => w5 y y1, fun k a b => by rw [q5, flm_i a (by omega)]; unfold crd; rw [if_pos (by omega)], Or.inl rfl, fun h => absurd h (by omega), fun _ k a b => by unfold crd; rw [if_pos (by omega)]⟩

