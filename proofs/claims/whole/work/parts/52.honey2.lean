set_option maxRecDepth 100000 in
set_option maxHeartbeats 4000000 in
theorem m_honey {E : EN} {l : Launch} {M : Mem} {m : Nat} {S : GS} (hO : isMod E m) (hY : rY M m S) (hw : wS S) {s n i : Int} : Cn E l mX8_honey 6 [vR m, vI s, vI n, vI i] M (fun r M1 => ∃ z, r = vI z ∧ (rY M1 m S ∧ frY M M1 m ∧ R_honey S s n i z)) := by
  refine Cn.of (by decide) rfl (Nat.le_of_ble_eq_true rfl) 6 rfl (fun oka okm G hR => ?_)
  obtain ⟨a0, a1, a2, a3, a4, a5, a6, a7, a8, a9, a10, a11, a12⟩ := id hO
  obtain ⟨hrI, hrM, hk0, hk1, hrb, ⟨hb0, hb1⟩, ⟨hL, hX⟩, ⟨hN, hsn⟩, hcr⟩ := id hY
  obtain ⟨hwT, ⟨hwC, hwG⟩, ⟨wb0, wb1⟩, wk0, wk1, wL, ⟨wN, wsn⟩, wcr, wcr0⟩ := id hw
  obtain ⟨⟨i0, i1, i2, i3⟩, ik, it, ie⟩ := id hrI
  obtain ⟨⟨c0, c1, c2⟩, cs, cf⟩ := rM_0 hrM
  obtain ⟨wt0, wtk, wtt, wtf⟩ := id hwT
  obtain ⟨wc0, wcs, wcf⟩ := id hwC
  have p6 : 2 ^ oF (sT S) ≤ 2 ^ 6 := p2_le (by omega)
  have p61 : (0 : Int) ≤ ((2 ^ oF (sT S) : Nat) : Int) := Int.natCast_nonneg _
  have p62 : (1 : Int) ≤ ((2 ^ oF (sT S) : Nat) : Int) := Int.ofNat_le.mpr Nat.one_le_two_pow
  refine A_iload_n dX8_honey_0 rfl ?_
  refine A_i2l dX8_honey_1 ?_
  refine A_lconst dX8_honey_2 ?_
  refine A_iconst dX8_honey_3 (by decide) ?_
  refine A_aload_n dX8_honey_4 rfl ?_
  refine A_getI (ki := 12) dX8_honey_5 fl_RX8_64 (by assumption) (by rfl) rfl ?_
  rw [i2]
  refine A_ishl (z := ((2 ^ oF (sT S) : Nat) : Int)) dX8_honey_8 (b_shl _ (by omega)) ⟨by omega, by omega⟩ ?_
  refine A_iconst dX8_honey_9 (by decide) ?_
  refine A_isub dX8_honey_10 ⟨by omega, by omega⟩ ?_
  refine A_i2l dX8_honey_11 ?_
  refine A_sI3 (mj := mX8_in) dX8_honey_12 hR.rm (by decide) ok_X8_in st_X8_in ml_RX8_73 rfl (m_in) (fun z12 M12 g12 k12 q12 => ?_)
  obtain ⟨e12, z12r, q12⟩ := q12
  subst M12
  refine A_if_ne (tgt := 21) dX8_honey_15 (by decide) (fun h15 => ?_) (fun h15 => ?_)
  · skip
    have dt : 0 ≤ s ∧ s < ((2 ^ oF (sT S) : Nat) : Int) := by have := q12.mp (by omega); exact ⟨by omega, by omega⟩
    obtain ⟨s, rfl⟩ : ∃ j : Nat, s = j := ⟨s.toNat, by omega⟩
    have hs : s < 2 ^ oF (sT S) := by omega
    refine A_iload_n dX8_honey_21 rfl ?_
    refine A_i2l dX8_honey_22 ?_
    refine A_lconst dX8_honey_23 ?_
    refine A_ldc2 dX8_honey_24 kc_RX8_210 (by decide) ?_
    refine A_sI3 (mj := mX8_in) dX8_honey_27 hR.rm (by decide) ok_X8_in st_X8_in ml_RX8_73 rfl (m_in) (fun z27 M27 g27 k27 q27 => ?_)
    obtain ⟨e27, z27r, q27⟩ := q27
    subst M27
    refine A_if_eq (tgt := 38) dX8_honey_30 (by decide) (fun h30 => ?_) (fun h30 => ?_)
    · skip
      refine A_bipush dX8_honey_38 bp_m3 (by decide) ?_
      exact A_iret hR dX8_honey_40 rfl ⟨_, rfl, hY, frY_r, by unfold R_honey; rw [if_pos dt, if_neg (fun q => by first | (have := q27.mpr ⟨by omega, by omega⟩; omega) | omega)]⟩
    · skip
      refine A_iload_n dX8_honey_33 rfl ?_
      refine A_iconst dX8_honey_34 (by decide) ?_
      refine A_icmp_ge (tgt := 41) dX8_honey_35 (by decide) (fun h35 => ?_) (fun h35 => ?_)
      · skip
        have da : (1 ≤ n ∧ n ≤ 60) ∧ -1 ≤ i := ⟨by have := q27.mp (by omega); exact ⟨by omega, by omega⟩, by omega⟩
        obtain ⟨n, rfl⟩ : ∃ j : Nat, n = j := ⟨n.toNat, by omega⟩
        refine A_iload_n dX8_honey_41 rfl ?_
        refine A_sI1 (mj := mX8_bits) dX8_honey_42 hR.rm (by decide) ok_X8_bits st_X8_bits ml_RX8_201 rfl (m_bits (s := s) (by omega)) (fun z42 M42 g42 k42 q42 => ?_)
        obtain ⟨e42, q42⟩ := q42
        subst M42
        rw [pop_rk hs (by omega)] at q42
        subst z42
        refine A_istore dX8_honey_45 (by decide) rfl ?_
        refine A_iload dX8_honey_47 rfl ?_
        refine A_iconst dX8_honey_49 (by decide) ?_
        refine A_icmp_gt (tgt := 63) dX8_honey_50 (by decide) (fun h50 => ?_) (fun h50 => ?_)
        · skip
          refine A_bipush dX8_honey_63 bp_m4 (by decide) ?_
          exact A_iret hR dX8_honey_65 rfl ⟨_, rfl, hY, frY_r, by unfold R_honey; rw [if_pos dt, if_pos da, Int.toNat_natCast, if_neg (by omega)]⟩
        · skip
          refine A_iload_n dX8_honey_53 rfl ?_
          refine A_aload_n dX8_honey_54 rfl ?_
          refine A_iconst dX8_honey_55 (by decide) ?_
          refine A_vI1 (mj := mX8_filedSet) dX8_honey_56 hR.rm (by decide) ok_X8_filedSet mv_X8_filedSet ml_RX8_207 (by assumption) rfl rfl rfl (m_filedSet (b := 0) hO hrI hrM hwT hwC (by omega)) (fun z56 M56 g56 k56 q56 => ?_)
          obtain ⟨e56, q56⟩ := q56
          subst M56
          subst z56
          have f6 := fs64 (F := csF (sC S)) hwT
          refine A_iand (z := ((s &&& fsN (csF (sC S)) (oF (sT S)) : Nat) : Int)) dX8_honey_59 (b_and _ _) (rng64 (Nat.lt_of_le_of_lt Nat.and_le_left (by omega))) ?_
          refine A_if_eq (tgt := 66) dX8_honey_60 (by decide) (fun h60 => ?_) (fun h60 => ?_)
          · skip
            have h49 : rkN s (oF (sT S)) ≤ 4 := by omega
            have hsf : s &&& fsN (csF (sC S)) (oF (sT S)) = 0 := by omega
            refine A_iconst dX8_honey_66 (by decide) ?_
            refine A_istore dX8_honey_67 (by decide) rfl ?_
            refine A_iconst dX8_honey_69 (by decide) ?_
            refine A_istore dX8_honey_70 (by decide) rfl ?_
            have lp : ∀ (kk : Nat) (k : Nat), rkN s (oF (sT S)) - k = kk → (k ≤ rkN s (oF (sT S))) → AW E mX8_honey G 0 0 72 [vR m, vI s, vI n, vI i, vI (rkN s (oF (sT S))), vI (10 ^ k : Nat), vI k, vU, vU, vU] [] M := by
              intro kk
              induction kk using Nat.strongRecOn with
              | ind kk ih =>
                intro k hk h0
                refine A_iload dX8_honey_72 rfl ?_
                refine A_iload dX8_honey_74 rfl ?_
                refine A_icmp_ge (tgt := 92) dX8_honey_76 (by decide) (fun h76 => ?_) (fun h76 => ?_)
                · skip
                  have hi : k = rkN s (oF (sT S)) := by omega
                  subst hi
                  have p4 : 10 ^ rkN s (oF (sT S)) ≤ 10 ^ 4 := Nat.pow_le_pow_right (by omega) h49
                  have p41 : (0 : Int) ≤ ((10 ^ rkN s (oF (sT S)) : Nat) : Int) := Int.natCast_nonneg _
                  refine A_iconst dX8_honey_92 (by decide) ?_
                  refine A_istore dX8_honey_93 (by decide) rfl ?_
                  refine A_bipush dX8_honey_95 bp_99 (by decide) ?_
                  refine A_istore dX8_honey_97 (by decide) rfl ?_
                  refine A_iconst dX8_honey_99 (by decide) ?_
                  refine A_istore dX8_honey_100 (by decide) rfl ?_
                  have lq : ∀ (k : Nat) (v : Nat) (x : Int) (y : Int) (x9 : AV) (M1 : Mem), 10 ^ rkN s (oF (sT S)) - v = k → (v ≤ 10 ^ rkN s (oF (sT S))) → (hbI (sT S) (sC S) s n (rkN s (oF (sT S))) v x y) → (-1 ≤ x ∧ x < v) → (0 ≤ y ∧ y ≤ 99) → (rY M1 m S) → (frY M M1 m) → AW E mX8_honey G 0 0 102 [vR m, vI s, vI n, vI i, vI (rkN s (oF (sT S))), vI (10 ^ rkN s (oF (sT S)) : Nat), vI x, vI y, vI v, x9] [] M1 := by
                    intro k
                    induction k using Nat.strongRecOn with
                    | ind k2 ih2 =>
                      intro v x y x9 M1 hk h0 hb hx0 hy0 hY1 hf
                      have hrI1 : rI M1 m (sT S) := hY1.1
                      have hrM1 : rM M1 m 0 (sT S) (sC S) := hY1.2.1
                      refine A_iload dX8_honey_102 rfl ?_
                      refine A_iload dX8_honey_104 rfl ?_
                      refine A_icmp_ge (tgt := 146) dX8_honey_106 (by decide) (fun h106 => ?_) (fun h106 => ?_)
                      · skip
                        have hi : v = 10 ^ rkN s (oF (sT S)) := by omega
                        rw [hi] at hb hx0
                        have hn := hb_end hwC hs hb
                        refine A_iload dX8_honey_146 rfl ?_
                        refine A_iconst dX8_honey_148 (by decide) ?_
                        refine A_icmp_ne (tgt := 156) dX8_honey_149 (by decide) (fun h149 => ?_) (fun h149 => ?_)
                        · skip
                          refine A_iload_n dX8_honey_156 rfl ?_
                          refine A_iconst dX8_honey_157 (by decide) ?_
                          refine A_icmp_ne (tgt := 166) dX8_honey_158 (by decide) (fun h158 => ?_) (fun h158 => ?_)
                          · skip
                            refine A_iload_n dX8_honey_166 rfl ?_
                            refine A_iload dX8_honey_167 rfl ?_
                            refine A_icmp_ge (tgt := 183) dX8_honey_169 (by decide) (fun h169 => ?_) (fun h169 => ?_)
                            · skip
                              refine A_iconst dX8_honey_183 (by decide) ?_
                              skip
                              exact A_iret hR dX8_honey_184 rfl (by
      refine ⟨_, rfl, hY1, hf, ?_⟩
      unfold R_honey
      rw [if_pos dt, if_pos da, Int.toNat_natCast, Int.toNat_natCast, if_pos ⟨h49, hsf⟩]
      by_cases ci : (rkN s (oF (sT S)) : Int) ≤ i
      · rw [if_pos ci]
        try omega
      · rw [if_neg ci]
        refine ⟨_, _, hn, ?_⟩
        first
        | (rw [if_pos (by omega), if_pos (by omega)]; done)
        | (rw [if_neg (by omega), if_neg (by omega), if_pos (by omega)]; done)
        | (rw [if_neg (by omega), if_neg (by omega), q177, Int.toNat_natCast]; done)
        | omega)
                            · skip
                              obtain ⟨x, rfl⟩ : ∃ X : Nat, x = X := ⟨x.toNat, by omega⟩
                              obtain ⟨i, rfl⟩ : ∃ I : Nat, i = I := ⟨i.toNat, by omega⟩
                              refine A_iload dX8_honey_172 rfl ?_
                              refine A_iload dX8_honey_174 rfl ?_
                              refine A_iload_n dX8_honey_176 rfl ?_
                              refine A_sI3 (mj := mX8_gets) dX8_honey_177 hR.rm (by decide) ok_X8_gets st_X8_gets ml_RX8_204 rfl (m_gets (v := x) (n := rkN s (oF (sT S))) (i := i) (by have := hx0; omega) h49 (by omega)) (fun z177 M177 g177 k177 q177 => ?_)
                              obtain ⟨e177, q177⟩ := q177
                              subst M177
                              refine A_goto (tgt := 184) dX8_honey_180 (by decide) ?_
                              skip
                              exact A_iret hR dX8_honey_184 rfl (by
      refine ⟨_, rfl, hY1, hf, ?_⟩
      unfold R_honey
      rw [if_pos dt, if_pos da, Int.toNat_natCast, Int.toNat_natCast, if_pos ⟨h49, hsf⟩]
      by_cases ci : (rkN s (oF (sT S)) : Int) ≤ i
      · rw [if_pos ci]
        try omega
      · rw [if_neg ci]
        refine ⟨_, _, hn, ?_⟩
        first
        | (rw [if_pos (by omega), if_pos (by omega)]; done)
        | (rw [if_neg (by omega), if_neg (by omega), if_pos (by omega)]; done)
        | (rw [if_neg (by omega), if_neg (by omega), q177, Int.toNat_natCast]; done)
        | omega)
                          · skip
                            refine A_iload dX8_honey_161 rfl ?_
                            refine A_goto (tgt := 184) dX8_honey_163 (by decide) ?_
                            skip
                            exact A_iret hR dX8_honey_184 rfl (by
      refine ⟨_, rfl, hY1, hf, ?_⟩
      unfold R_honey
      rw [if_pos dt, if_pos da, Int.toNat_natCast, Int.toNat_natCast, if_pos ⟨h49, hsf⟩]
      by_cases ci : (rkN s (oF (sT S)) : Int) ≤ i
      · rw [if_pos ci]
        try omega
      · rw [if_neg ci]
        refine ⟨_, _, hn, ?_⟩
        first
        | (rw [if_pos (by omega), if_pos (by omega)]; done)
        | (rw [if_neg (by omega), if_neg (by omega), if_pos (by omega)]; done)
        | (rw [if_neg (by omega), if_neg (by omega), q177, Int.toNat_natCast]; done)
        | omega)
                        · skip
                          refine A_iconst dX8_honey_152 (by decide) ?_
                          refine A_goto (tgt := 184) dX8_honey_153 (by decide) ?_
                          skip
                          exact A_iret hR dX8_honey_184 rfl (by
      refine ⟨_, rfl, hY1, hf, ?_⟩
      unfold R_honey
      rw [if_pos dt, if_pos da, Int.toNat_natCast, Int.toNat_natCast, if_pos ⟨h49, hsf⟩]
      by_cases ci : (rkN s (oF (sT S)) : Int) ≤ i
      · rw [if_pos ci]
        try omega
      · rw [if_neg ci]
        refine ⟨_, _, hn, ?_⟩
        first
        | (rw [if_pos (by omega), if_pos (by omega)]; done)
        | (rw [if_neg (by omega), if_neg (by omega), if_pos (by omega)]; done)
        | (rw [if_neg (by omega), if_neg (by omega), q177, Int.toNat_natCast]; done)
        | omega)
                      · skip
                        refine A_aload_n dX8_honey_109 rfl ?_
                        refine A_iload dX8_honey_110 rfl ?_
                        refine A_iload_n dX8_honey_112 rfl ?_
                        refine A_iload_n dX8_honey_113 rfl ?_
                        refine A_vI3 (mj := mX8_gives) dX8_honey_114 hR.rm (by decide) ok_X8_gives mv_X8_gives ml_RX8_212 (by assumption) rfl rfl rfl (m_gives (v := v) (s := s) (n := n) hO hrI1 hrM1 hwT hwC hwG (by omega) hs h49 (by omega)) (fun z114 M114 g114 k114 q114 => ?_)
                        obtain ⟨f114, q114a, q114b⟩ := q114
                        have u4 := rY_try hY1 hwT f114
                        refine A_istore dX8_honey_117 (by decide) rfl ?_
                        refine A_iload dX8_honey_119 rfl ?_
                        refine A_iconst dX8_honey_121 (by decide) ?_
                        refine A_icmp_eq (tgt := 140) dX8_honey_122 (by decide) (fun h122 => ?_) (fun h122 => ?_)
                        · skip
                          refine A_iinc dX8_honey_140 (by decide) rfl rfl ⟨by omega, by omega⟩ ?_
                          refine A_goto (tgt := 102) dX8_honey_143 (by decide) ?_
                          have hg : good (sT S) (sC S) s n (digs (rkN s (oF (sT S))) v) ∨ ¬ good (sT S) (sC S) s n (digs (rkN s (oF (sT S))) v) := Classical.em _
                          have sr := sm_split (a := digs (rkN s (oF (sT S))) v) (k := 0) (rkN s (oF (sT S))) (by omega) (fun p _ _ => digs_r _ _ p)
                          have s0 : smN (digs (rkN s (oF (sT S))) v) 0 = 0 := rfl
                          have hm1 : x = -1 → y = 99 := fun e => by rcases hb with ⟨_, q, _⟩ | ⟨q, _⟩ <;> omega
                          first
                          | (refine ih2 _ (by omega) (v + 1) x y _ M114 rfl (by omega) (hb_same hb (fun q => ?_)) (by omega) hy0 u4.1 (fun y hy => (u4.2 y hy).trans (hf y hy))
                             have e := q114a q
                             exact ⟨fun z => by have := hm1 z; omega, by omega⟩)
                          | (have hg1 : good (sT S) (sC S) s n (digs (rkN s (oF (sT S))) v) := hg.elim id (fun q => absurd (q114b q) h122)
                             have e := q114a hg1
                             subst z114
                             exact ih2 _ (by omega) (v + 1) v _ _ M114 rfl (by omega) (hb_new hb hg1 (by omega)) (by omega) (by omega) u4.1 (fun y hy => (u4.2 y hy).trans (hf y hy)))
                        · skip
                          refine A_iload dX8_honey_125 rfl ?_
                          refine A_iload dX8_honey_127 rfl ?_
                          refine A_icmp_ge (tgt := 140) dX8_honey_129 (by decide) (fun h129 => ?_) (fun h129 => ?_)
                          · skip
                            refine A_iinc dX8_honey_140 (by decide) rfl rfl ⟨by omega, by omega⟩ ?_
                            refine A_goto (tgt := 102) dX8_honey_143 (by decide) ?_
                            have hg : good (sT S) (sC S) s n (digs (rkN s (oF (sT S))) v) ∨ ¬ good (sT S) (sC S) s n (digs (rkN s (oF (sT S))) v) := Classical.em _
                            have sr := sm_split (a := digs (rkN s (oF (sT S))) v) (k := 0) (rkN s (oF (sT S))) (by omega) (fun p _ _ => digs_r _ _ p)
                            have s0 : smN (digs (rkN s (oF (sT S))) v) 0 = 0 := rfl
                            have hm1 : x = -1 → y = 99 := fun e => by rcases hb with ⟨_, q, _⟩ | ⟨q, _⟩ <;> omega
                            first
                            | (refine ih2 _ (by omega) (v + 1) x y _ M114 rfl (by omega) (hb_same hb (fun q => ?_)) (by omega) hy0 u4.1 (fun y hy => (u4.2 y hy).trans (hf y hy))
                               have e := q114a q
                               exact ⟨fun z => by have := hm1 z; omega, by omega⟩)
                            | (have hg1 : good (sT S) (sC S) s n (digs (rkN s (oF (sT S))) v) := hg.elim id (fun q => absurd (q114b q) h122)
                               have e := q114a hg1
                               subst z114
                               exact ih2 _ (by omega) (v + 1) v _ _ M114 rfl (by omega) (hb_new hb hg1 (by omega)) (by omega) (by omega) u4.1 (fun y hy => (u4.2 y hy).trans (hf y hy)))
                          · skip
                            refine A_iload dX8_honey_132 rfl ?_
                            refine A_istore dX8_honey_134 (by decide) rfl ?_
                            refine A_iload dX8_honey_136 rfl ?_
                            refine A_istore dX8_honey_138 (by decide) rfl ?_
                            refine A_iinc dX8_honey_140 (by decide) rfl rfl ⟨by omega, by omega⟩ ?_
                            refine A_goto (tgt := 102) dX8_honey_143 (by decide) ?_
                            have hg : good (sT S) (sC S) s n (digs (rkN s (oF (sT S))) v) ∨ ¬ good (sT S) (sC S) s n (digs (rkN s (oF (sT S))) v) := Classical.em _
                            have sr := sm_split (a := digs (rkN s (oF (sT S))) v) (k := 0) (rkN s (oF (sT S))) (by omega) (fun p _ _ => digs_r _ _ p)
                            have s0 : smN (digs (rkN s (oF (sT S))) v) 0 = 0 := rfl
                            have hm1 : x = -1 → y = 99 := fun e => by rcases hb with ⟨_, q, _⟩ | ⟨q, _⟩ <;> omega
                            first
                            | (refine ih2 _ (by omega) (v + 1) x y _ M114 rfl (by omega) (hb_same hb (fun q => ?_)) (by omega) hy0 u4.1 (fun y hy => (u4.2 y hy).trans (hf y hy))
                               have e := q114a q
                               exact ⟨fun z => by have := hm1 z; omega, by omega⟩)
                            | (have hg1 : good (sT S) (sC S) s n (digs (rkN s (oF (sT S))) v) := hg.elim id (fun q => absurd (q114b q) h122)
                               have e := q114a hg1
                               subst z114
                               exact ih2 _ (by omega) (v + 1) v _ _ M114 rfl (by omega) (hb_new hb hg1 (by omega)) (by omega) (by omega) u4.1 (fun y hy => (u4.2 y hy).trans (hf y hy)))
                  exact lq _ 0 (-1) 99 vU M rfl (by omega) (Or.inl ⟨rfl, rfl, fun w hw => by omega⟩) (by omega) (by omega) hY frY_r
                · skip
                  refine A_iload dX8_honey_79 rfl ?_
                  refine A_bipush dX8_honey_81 bp_10 (by decide) ?_
                  have pk : 10 ^ k ≤ 10 ^ 3 := Nat.pow_le_pow_right (by omega) (by omega)
                  have pk1 : (0 : Int) ≤ ((10 ^ k : Nat) : Int) := Int.natCast_nonneg _
                  refine A_imul dX8_honey_83 ⟨by omega, by omega⟩ ?_
                  refine A_istore dX8_honey_84 (by decide) rfl ?_
                  refine A_iinc dX8_honey_86 (by decide) rfl rfl ⟨by omega, by omega⟩ ?_
                  refine A_goto (tgt := 72) dX8_honey_89 (by decide) ?_
                  have h := ih _ (by omega) (k + 1) rfl (by omega)
                  rw [Nat.pow_succ, Int.natCast_mul] at h
                  exact h
            exact lp _ 0 rfl (by omega)
          · skip
            refine A_bipush dX8_honey_63 bp_m4 (by decide) ?_
            exact A_iret hR dX8_honey_65 rfl ⟨_, rfl, hY, frY_r, by unfold R_honey; rw [if_pos dt, if_pos da, Int.toNat_natCast, if_neg (by omega)]⟩
      · skip
        refine A_bipush dX8_honey_38 bp_m3 (by decide) ?_
        exact A_iret hR dX8_honey_40 rfl ⟨_, rfl, hY, frY_r, by unfold R_honey; rw [if_pos dt, if_neg (fun q => by first | (have := q27.mpr ⟨by omega, by omega⟩; omega) | omega)]⟩
  · skip
    refine A_bipush dX8_honey_18 bp_m2 (by decide) ?_
    exact A_iret hR dX8_honey_20 rfl ⟨_, rfl, hY, frY_r, by unfold R_honey; rw [if_neg (fun q => by have := q12.mpr ⟨by omega, by omega⟩; omega)]⟩

