/-! THE MODEL's answers: the way without smell, and honey -/
theorem rk_sur {s : Nat} : ∀ n p : Nat, p < rkN s n → ∃ g : Nat, g < n ∧ s.testBit g = true ∧ rkN s g = p
  | 0, p, h => by have : rkN s 0 = 0 := rfl; omega
  | n + 1, p, h => by
    by_cases q : p < rkN s n
    · obtain ⟨g, g1, g2⟩ := rk_sur n p q
      exact ⟨g, by omega, g2⟩
    · by_cases b : s.testBit n = true
      · rw [rkN, if_pos b] at h
        exact ⟨n, by omega, b, by omega⟩
      · rw [rkN, if_neg b] at h
        omega
theorem good_9 {T : TD} {C : CS} {s m : Nat} {sh : Fn} (hC0 : wC T C) (h : good T C s m sh) : ∀ p : Int, 0 ≤ p → p < rkN s (oF T) → 0 ≤ sh p ∧ sh p ≤ 9 := by
  intro p x y
  obtain ⟨g, g1, g2, g3⟩ := rk_sur (s := s) (oF T) p.toNat (by omega)
  have a := h.1 g g1 g2
  have w := hC0.2.2 g (by omega) (by omega)
  rw [g3, show ((p.toNat : Nat) : Int) = p by omega] at a
  omega
theorem good_e {T : TD} {C : CS} {s m : Nat} {a b : Fn} (hs : s < 2 ^ oF T) (h : agre a b (rkN s (oF T))) (hg : good T C s m a) : good T C s m b := by
  obtain ⟨h1, h2⟩ := hg
  refine ⟨fun g x y => ?_, ?_⟩
  · have := rkN_lt (b := oF T) x y
    have := h1 g x y
    rw [h _ (by omega) (by omega)] at this
    exact this
  · rw [← hC_eq h (Nat.le_refl _) hs]
    exact h2
theorem nm_inj {a b : Fn} : ∀ n : Nat, (∀ p : Int, 0 ≤ p → p < n → 0 ≤ a p ∧ a p ≤ 9) → (∀ p : Int, 0 ≤ p → p < n → 0 ≤ b p ∧ b p ≤ 9) → nmN a n = nmN b n → agre a b n
  | 0, _, _, _ => fun p x y => by omega
  | n + 1, ha, hb, h => by
    have h1 := ha n (by omega) (by omega)
    have h2 := hb n (by omega) (by omega)
    rw [nmN, nmN] at h
    have ih := nm_inj n (fun p x y => ha p x (by omega)) (fun p x y => hb p x (by omega)) (by omega)
    intro p x y
    by_cases e : p = n
    · rw [e]; omega
    · exact ih p x (by omega)
theorem nm_rg {a : Fn} : ∀ n : Nat, (∀ p : Int, 0 ≤ p → p < n → 0 ≤ a p ∧ a p ≤ 9) → 0 ≤ nmN a n ∧ nmN a n < ((10 ^ n : Nat) : Int)
  | 0, _ => by unfold nmN; decide
  | n + 1, ha => by
    have h1 := ha n (by omega) (by omega)
    have ih := nm_rg n (fun p x y => ha p x (by omega))
    rw [nmN, Nat.pow_succ]
    omega
theorem nm_dg {n v : Nat} (h : v < 10 ^ n) : ∀ k : Nat, k ≤ n → nmN (digs n v) k = ((v / 10 ^ (n - k) : Nat) : Int)
  | 0, _ => by
    rw [Nat.sub_zero, Nat.div_eq_of_lt h]; rfl
  | k + 1, hk => by
    rw [nmN, nm_dg h k (by omega)]
    unfold digs
    rw [show n - 1 - ((k : Int)).toNat = n - (k + 1) by omega, show n - k = (n - (k + 1)) + 1 by omega, Nat.pow_succ, ← Nat.div_div_eq_div_mul]
    omega
theorem nm_dgs {n v : Nat} (h : v < 10 ^ n) : nmN (digs n v) n = v := by
  rw [nm_dg h n (Nat.le_refl n), Nat.sub_self, Nat.pow_zero, Nat.div_one]
def R_honey (S : GS) (s m i z : Int) : Prop := if 0 ≤ s ∧ s < ((2 ^ oF (sT S) : Nat) : Int) then (if (1 ≤ m ∧ m ≤ 60) ∧ -1 ≤ i then (if rkN s.toNat (oF (sT S)) ≤ 4 ∧ s.toNat &&& fsN (csF (sC S)) (oF (sT S)) = 0 then (if (rkN s.toNat (oF (sT S)) : Int) ≤ i then z = -1 else ∃ z0 row, isHn (sT S) (sC S) s.toNat m.toNat (rkN s.toNat (oF (sT S))) z0 row ∧ z = if z0 = -1 then -1 else if i = -1 then z0 else row i) else z = -4) else z = -3) else z = -2
theorem isHn_u {T : TD} {C : CS} {s m : Nat} {z z' : Int} {row row' : Fn} (hC0 : wC T C) (h : isHn T C s m (rkN s (oF T)) z row) (h' : isHn T C s m (rkN s (oF T)) z' row') : z = z' ∧ (z ≠ -1 → ∀ p : Int, 0 ≤ p → p < rkN s (oF T) → row p = row' p) := by
  rcases h with ⟨rfl, h⟩ | ⟨h0, a, h1, h2, h3, h4⟩ <;> rcases h' with ⟨rfl, h'⟩ | ⟨h0', a', h1', h2', h3', h4'⟩
  · exact ⟨rfl, fun q => absurd rfl q⟩
  · exact absurd h2' (h _)
  · exact absurd h2 (h' _)
  · have e1 := h4 a' h2'
    have e2 := h4' a h2
    have e : z = z' := by omega
    refine ⟨e, fun _ p x y => ?_⟩
    have n1 := e1.2 (by omega)
    have n2 := e2.2 (by omega)
    rw [h1 p x y, h1' p x y]
    exact nm_inj _ (good_9 hC0 h2) (good_9 hC0 h2') (by omega) p x y
theorem R_honey_u {S : GS} {s m i z z' : Int} (hC0 : wC (sT S) (sC S)) (h : R_honey S s m i z) (h' : R_honey S s m i z') : z = z' := by
  unfold R_honey at h h'
  split at h
  · next q1 =>
    rw [if_pos q1] at h'
    split at h
    · next q2 =>
      rw [if_pos q2] at h'
      split at h
      · next q3 =>
        rw [if_pos q3] at h'
        split at h
        · next q4 => rw [if_pos q4] at h'; rw [h, h']
        · next q4 =>
          rw [if_neg q4] at h'
          obtain ⟨z0, row, hh, rfl⟩ := h
          obtain ⟨z1, row1, hh1, rfl⟩ := h'
          obtain ⟨rfl, er⟩ := isHn_u hC0 hh hh1
          by_cases e : z0 = -1
          · rw [if_pos e, if_pos e]
          · rw [if_neg e, if_neg e]
            by_cases e2 : i = -1
            · rw [if_pos e2, if_pos e2]
            · rw [if_neg e2, if_neg e2]
              exact er e i (by omega) (by omega)
      · next q3 => rw [if_neg q3] at h'; rw [h, h']
    · next q2 => rw [if_neg q2] at h'; rw [h, h']
  · next q1 => rw [if_neg q1] at h'; rw [h, h']
/-- the best of the first numbers -/
def hbI (T : TD) (C : CS) (s m n v : Nat) (x y : Int) : Prop := (x = -1 ∧ y = 99 ∧ ∀ w : Nat, w < v → ¬ good T C s m (digs n w)) ∨ (0 ≤ x ∧ x < v ∧ good T C s m (digs n x.toNat) ∧ smN (digs n x.toNat) n = y ∧ ∀ w : Nat, w < v → good T C s m (digs n w) → y ≤ smN (digs n w) n ∧ (smN (digs n w) n = y → x ≤ w))
theorem hb_same {T : TD} {C : CS} {s m n v : Nat} {x y : Int} (h : hbI T C s m n v x y) (hv : good T C s m (digs n v) → x ≠ -1 ∧ y ≤ smN (digs n v) n) : hbI T C s m n (v + 1) x y := by
  rcases h with ⟨rfl, rfl, h⟩ | ⟨h0, h1, h2, h3, h4⟩
  · refine Or.inl ⟨rfl, rfl, fun w hw => ?_⟩
    by_cases e : w = v
    · subst e; exact fun q => (hv q).1 rfl
    · exact h w (by omega)
  · refine Or.inr ⟨h0, by omega, h2, h3, fun w hw q => ?_⟩
    by_cases e : w = v
    · subst e; exact ⟨(hv q).2, fun _ => by omega⟩
    · exact h4 w (by omega) q
theorem hb_new {T : TD} {C : CS} {s m n v : Nat} {x y : Int} (h : hbI T C s m n v x y) (hv : good T C s m (digs n v)) (hl : smN (digs n v) n < y) : hbI T C s m n (v + 1) v (smN (digs n v) n) := by
  refine Or.inr ⟨by omega, by omega, by rw [Int.toNat_natCast]; exact hv, by rw [Int.toNat_natCast], fun w hw q => ?_⟩
  by_cases e : w = v
  · subst e; exact ⟨Int.le_refl _, fun _ => Int.le_refl _⟩
  · rcases h with ⟨rfl, rfl, h⟩ | ⟨h0, h1, h2, h3, h4⟩
    · exact absurd q (h w (by omega))
    · have := h4 w (by omega) q
      exact ⟨by omega, fun z => by omega⟩
theorem hb_end {T : TD} {C : CS} {s m : Nat} {x y : Int} (hC0 : wC T C) (hs : s < 2 ^ oF T) (h : hbI T C s m (rkN s (oF T)) (10 ^ rkN s (oF T)) x y) : isHn T C s m (rkN s (oF T)) (if x = -1 then -1 else y) (digs (rkN s (oF T)) x.toNat) := by
  have all : ∀ b, good T C s m b → ∃ w : Nat, w < 10 ^ rkN s (oF T) ∧ ((w : Nat) : Int) = nmN b (rkN s (oF T)) ∧ agre b (digs (rkN s (oF T)) w) (rkN s (oF T)) := fun b hb => by
    have d := good_9 hC0 hb
    have r := nm_rg _ d
    refine ⟨(nmN b (rkN s (oF T))).toNat, by omega, by omega, nm_inj _ d (fun p _ _ => digs_r _ _ p) ?_⟩
    rw [nm_dgs (by omega)]; omega
  rcases h with ⟨rfl, rfl, h⟩ | ⟨h0, h1, h2, h3, h4⟩
  · rw [if_pos rfl]
    refine Or.inl ⟨rfl, fun b hb => ?_⟩
    obtain ⟨w, w1, w2, w3⟩ := all b hb
    exact h w w1 (good_e hs w3 hb)
  · have sn : 0 ≤ y := by
      have := sm_split (a := digs (rkN s (oF T)) x.toNat) (k := 0) (rkN s (oF T)) (by omega) (fun p _ _ => digs_r _ _ p)
      have e0 : smN (digs (rkN s (oF T)) x.toNat) 0 = 0 := rfl
      omega
    rw [if_neg (by omega)]
    refine Or.inr ⟨sn, digs (rkN s (oF T)) x.toNat, fun _ _ _ => rfl, h2, h3, fun b hb => ?_⟩
    obtain ⟨w, w1, w2, w3⟩ := all b hb
    have k := h4 w w1 (good_e hs w3 hb)
    rw [← agre_sm _ w3] at k
    refine ⟨k.1, fun z => ?_⟩
    rw [nm_dgs (by omega), ← w2]
    have := k.2 z
    omega
set_option maxRecDepth 100000 in
set_option maxHeartbeats 8000000 in
theorem m_quiet {E : EN} {l : Launch} {M : Mem} {m : Nat} {S : GS} (hO : isMod E m) (hY : rY M m S) (hw : wS S) {a b : Int} : Cn E l mX8_quiet 2 [vR m, vI a, vI b] M (fun r M1 => ∃ z, r = vI z ∧ (rY M1 m S ∧ frY M M1 m ∧ R_quiet S a b z)) := by
  refine Cn.of (by decide) rfl (Nat.le_of_ble_eq_true rfl) 2 rfl (fun oka okm G hR => ?_)
  obtain ⟨a0, a1, a2, a3, a4, a5, a6, a7, a8, a9, a10, a11, a12⟩ := id hO
  obtain ⟨hrI, hrM, hk0, hk1, hrb, ⟨hb0, hb1⟩, ⟨hL, hX⟩, ⟨hN, hsn⟩, hcr⟩ := id hY
  obtain ⟨hwT, ⟨hwC, hwG⟩, ⟨wb0, wb1⟩, wk0, wk1, wL, ⟨wN, wsn⟩, wcr, wcr0⟩ := id hw
  obtain ⟨⟨i0, i1, i2, i3⟩, ik, it, ie⟩ := id hrI
  obtain ⟨⟨c0, c1, c2⟩, cs, cf⟩ := rM_0 hrM
  obtain ⟨wt0, wtk, wtt, wtf⟩ := id hwT
  obtain ⟨wc0, wcs, wcf⟩ := id hwC
  refine A_aload_n dX8_quiet_0 rfl ?_
  refine A_iload_n dX8_quiet_1 rfl ?_
  refine A_vI1 (mj := mX8_isDesk) dX8_quiet_2 hR.rm (by decide) ok_X8_isDesk mv_X8_isDesk ml_RX8_151 (by assumption) rfl rfl rfl (m_isDesk hO hrI hwT) (fun z2 M2 g2 k2 q2 => ?_)
  obtain ⟨e2, z2r, q2⟩ := q2
  subst M2
  refine A_if_eq (tgt := 16) dX8_quiet_5 (by decide) (fun h5 => ?_) (fun h5 => ?_)
  · skip
    refine A_bipush dX8_quiet_16 bp_m2 (by decide) ?_
    exact A_iret hR dX8_quiet_18 rfl ⟨_, rfl, hY, frY_r, by unfold R_quiet; rw [if_neg (fun q => by first | (have := q2.mpr q.1; omega) | (have := q10.mpr q.2; omega))]⟩
  · skip
    refine A_aload_n dX8_quiet_8 rfl ?_
    refine A_iload_n dX8_quiet_9 rfl ?_
    refine A_vI1 (mj := mX8_isDesk) dX8_quiet_10 hR.rm (by decide) ok_X8_isDesk mv_X8_isDesk ml_RX8_151 (by assumption) rfl rfl rfl (m_isDesk hO hrI hwT) (fun z10 M10 g10 k10 q10 => ?_)
    obtain ⟨e10, z10r, q10⟩ := q10
    subst M10
    refine A_if_ne (tgt := 19) dX8_quiet_13 (by decide) (fun h13 => ?_) (fun h13 => ?_)
    · skip
      have ha : 0 ≤ a ∧ a < oD (sT S) := q2.mp (by omega)
      have hb : 0 ≤ b ∧ b < oD (sT S) := q10.mp (by omega)
      refine A_iconst dX8_quiet_19 (by decide) ?_
      refine A_istore_n dX8_quiet_20 (by decide) rfl ?_
      have lp : ∀ (k : Nat) (i : Nat) (M1 : Mem), 8 - i = k → (i ≤ 8) → (∀ y, y ≠ m + 10 → M1 y = M y) → (∀ k : Int, 0 ≤ k → k < i → M1 (m + 10) k = if k = a then 0 else 99) → AW E mX8_quiet G 0 0 21 [vR m, vI a, vI b, vI i, vU] [] M1 := by
        intro k
        induction k using Nat.strongRecOn with
        | ind k ih =>
          intro i M1 hk h0 hf hx
          refine A_iload_n dX8_quiet_21 rfl ?_
          refine A_bipush dX8_quiet_22 bp_8 (by decide) ?_
          refine A_icmp_ge (tgt := 50) dX8_quiet_24 (by decide) (fun h24 => ?_) (fun h24 => ?_)
          · skip
            have hi : i = 8 := by omega
            subst hi
            refine A_iconst dX8_quiet_50 (by decide) ?_
            refine A_istore_n dX8_quiet_51 (by decide) rfl ?_
            have lq : ∀ (k : Nat) (r : Nat) (M1 : Mem) (x4 : AV), oD (sT S) - r = k → (r ≤ oD (sT S)) → (∀ y, y ≠ m + 10 → M1 y = M y) → (qs (sT S) (sC S) a (M1 (m + 10))) → (qr (sT S) (sC S) a (M1 (m + 10)) r) → AW E mX8_quiet G 0 0 52 [vR m, vI a, vI b, vI r, x4] [] M1 := by
              intro k
              induction k using Nat.strongRecOn with
              | ind k2 ih2 =>
                intro r M1 x4 hk h0 hf h1 h2
                refine A_iload_n dX8_quiet_52 rfl ?_
                refine A_aload_n dX8_quiet_53 rfl ?_
                refine A_getI (ki := 6) dX8_quiet_54 fl_RX8_23 (by assumption) (by rfl) rfl ?_
                rw [hf m (by omega), i0]
                refine A_icmp_ge (tgt := 236) dX8_quiet_57 (by decide) (fun h57 => ?_) (fun h57 => ?_)
                · skip
                  have hi : r = oD (sT S) := by omega
                  subst hi
                  have fin := q_end hwT ha hb h1 h2
                  refine A_aload_n dX8_quiet_236 rfl ?_
                  refine A_getR dX8_quiet_237 fl_RX8_45 (by assumption) (by rfl) ?_
                  refine A_iload_n dX8_quiet_240 rfl ?_
                  refine A_iald dX8_quiet_241 (by assumption) (by omega) (by omega) ?_
                  refine A_bipush dX8_quiet_242 bp_99 (by decide) ?_
                  refine A_icmp_ne (tgt := 251) dX8_quiet_244 (by decide) (fun h244 => ?_) (fun h244 => ?_)
                  · skip
                    refine A_aload_n dX8_quiet_251 rfl ?_
                    refine A_getR dX8_quiet_252 fl_RX8_45 (by assumption) (by rfl) ?_
                    refine A_iload_n dX8_quiet_255 rfl ?_
                    refine A_iald dX8_quiet_256 (by assumption) (by omega) (by omega) ?_
                    exact A_iret hR dX8_quiet_257 rfl (by
      refine ⟨_, rfl, rY_fr hY hwT (fun k _ => by rw [hf m (by omega)]) (fun y hy => hf y (by omega)) (fun k _ => by rw [hf (m + 1) (by omega)]), fun y hy => hf y (by omega), ?_⟩
      unfold R_quiet
      rw [if_pos ⟨ha, hb⟩]
      first
      | (rw [if_pos (by omega)] at fin; exact fin)
      | (rw [if_neg (by omega)] at fin; exact fin))
                  · skip
                    refine A_iconst dX8_quiet_247 (by decide) ?_
                    refine A_goto (tgt := 257) dX8_quiet_248 (by decide) ?_
                    exact A_iret hR dX8_quiet_257 rfl (by
      refine ⟨_, rfl, rY_fr hY hwT (fun k _ => by rw [hf m (by omega)]) (fun y hy => hf y (by omega)) (fun k _ => by rw [hf (m + 1) (by omega)]), fun y hy => hf y (by omega), ?_⟩
      unfold R_quiet
      rw [if_pos ⟨ha, hb⟩]
      first
      | (rw [if_pos (by omega)] at fin; exact fin)
      | (rw [if_neg (by omega)] at fin; exact fin))
                · skip
                  refine A_iconst dX8_quiet_60 (by decide) ?_
                  refine A_istore dX8_quiet_61 (by decide) rfl ?_
                  have lr : ∀ (k : Nat) (j : Nat) (M1 : Mem), oT (sT S) - j = k → (j ≤ oT (sT S)) → (∀ y, y ≠ m + 10 → M1 y = M y) → (qs (sT S) (sC S) a (M1 (m + 10))) → (qr (sT S) (sC S) a (M1 (m + 10)) r) → (qj (sT S) (sC S) a (M1 (m + 10)) r j) → AW E mX8_quiet G 0 0 63 [vR m, vI a, vI b, vI r, vI j] [] M1 := by
                    intro k
                    induction k using Nat.strongRecOn with
                    | ind k3 ih3 =>
                      intro j M1 hk g0 hf h1 h2 h3
                      refine A_iload dX8_quiet_63 rfl ?_
                      refine A_aload_n dX8_quiet_65 rfl ?_
                      refine A_getI (ki := 10) dX8_quiet_66 fl_RX8_61 (by assumption) (by rfl) rfl ?_
                      rw [hf m (by omega), i1]
                      refine A_icmp_ge (tgt := 230) dX8_quiet_69 (by decide) (fun h69 => ?_) (fun h69 => ?_)
                      · skip
                        have hi : j = oT (sT S) := by omega
                        subst hi
                        refine A_iinc dX8_quiet_230 (by decide) rfl rfl ⟨by omega, by omega⟩ ?_
                        refine A_goto (tgt := 52) dX8_quiet_233 (by decide) ?_
                        exact ih2 _ (by omega) (r + 1) M1 _ rfl (by omega) hf h1 (q_round h2 h3)
                      · skip
                        refine A_aload_n dX8_quiet_72 rfl ?_
                        refine A_getR dX8_quiet_73 fl_RX8_7 (by assumption) (by rfl) ?_
                        refine A_iconst dX8_quiet_76 (by decide) ?_
                        refine A_iload dX8_quiet_77 rfl ?_
                        refine A_iadd dX8_quiet_79 ⟨by omega, by omega⟩ ?_
                        refine A_iald dX8_quiet_80 (by assumption) (by omega) (by omega) ?_
                        rw [hf (m + 1) (by omega), cs j (by omega) (by omega)]
                        refine A_if_ne (tgt := 224) dX8_quiet_81 (by decide) (fun h81 => ?_) (fun h81 => ?_)
                        · skip
                          refine A_iinc dX8_quiet_224 (by decide) rfl rfl ⟨by omega, by omega⟩ ?_
                          refine A_goto (tgt := 63) dX8_quiet_227 (by decide) ?_
                          exact ih3 _ (by omega) (j + 1) M1 rfl (by omega) hf h1 h2 (q_next h3 (fun z => absurd z (by omega)))
                        · skip
                          have wj := wtt j (by omega) (by omega)
                          have vA : M1 (m + 6) j = oA (sT S) j := by rw [hf _ (by omega)]; exact (it j (by omega) (by omega)).1
                          have vB : M1 (m + 7) j = oB (sT S) j := by rw [hf _ (by omega)]; exact (it j (by omega) (by omega)).2
                          have dA := h1 (oA (sT S) j) (by omega) (by omega)
                          have dB := h1 (oB (sT S) j) (by omega) (by omega)
                          have j153 : ∀ v : Int, (v = if M1 (m + 10) (oA (sT S) j) + 1 < M1 (m + 10) (oB (sT S) j) then M1 (m + 10) (oA (sT S) j) + 1 else M1 (m + 10) (oB (sT S) j)) → AW E mX8_quiet G 0 0 153 [vR m, vI a, vI b, vI r, vI j] [vI v, vI (oB (sT S) j), vR (m + 10)] M1 := by
                            intro v hw1
                            refine A_iast dX8_quiet_153 (by assumption) (by omega) (by omega) (fun M153 e153 k153 => ?_)
                            have D1 : ∀ e, M153 (m + 10) e = if e = oB (sT S) j then (if M1 (m + 10) (oA (sT S) j) + 1 < M1 (m + 10) (oB (sT S) j) then M1 (m + 10) (oA (sT S) j) + 1 else M1 (m + 10) (oB (sT S) j)) else M1 (m + 10) e := fun e => by
                              rw [e153, upm_x]
                              by_cases q : e = oB (sT S) j
                              · rw [if_pos ⟨rfl, q⟩, if_pos q, hw1]
                              · rw [if_neg (fun z => q z.2), if_neg q]
                            obtain ⟨t1, t2, t3, t4, t5⟩ := q_up hwT ha h1 h2 h3 (u := oA (sT S) j) (v := oB (sT S) j) (by omega) ⟨j, by omega, by omega, Or.inl ⟨rfl, rfl⟩, fun _ => by omega, fun q => absurd q (by decide)⟩ D1
                            have vA2 : M153 (m + 6) j = oA (sT S) j := by rw [e153, upm_c (by omega)]; exact vA
                            have vB2 : M153 (m + 7) j = oB (sT S) j := by rw [e153, upm_c (by omega)]; exact vB
                            have dA2 := t1 (oA (sT S) j) (by omega) (by omega)
                            have dB2 := t1 (oB (sT S) j) (by omega) (by omega)
                            have j223 : ∀ v : Int, (v = if M153 (m + 10) (oB (sT S) j) + 1 < M153 (m + 10) (oA (sT S) j) then M153 (m + 10) (oB (sT S) j) + 1 else M153 (m + 10) (oA (sT S) j)) → AW E mX8_quiet G 0 0 223 [vR m, vI a, vI b, vI r, vI j] [vI v, vI (oA (sT S) j), vR (m + 10)] M153 := by
                              intro v hw2
                              refine A_iast dX8_quiet_223 (by assumption) (by omega) (by omega) (fun M223 e223 k223 => ?_)
                              refine A_iinc dX8_quiet_224 (by decide) rfl rfl ⟨by omega, by omega⟩ ?_
                              refine A_goto (tgt := 63) dX8_quiet_227 (by decide) ?_
                              have D2 : ∀ e, M223 (m + 10) e = if e = oA (sT S) j then (if M153 (m + 10) (oB (sT S) j) + 1 < M153 (m + 10) (oA (sT S) j) then M153 (m + 10) (oB (sT S) j) + 1 else M153 (m + 10) (oA (sT S) j)) else M153 (m + 10) e := fun e => by
                                rw [e223, upm_x]
                                by_cases q : e = oA (sT S) j
                                · rw [if_pos ⟨rfl, q⟩, if_pos q, hw2]
                                · rw [if_neg (fun z => q z.2), if_neg q]
                              obtain ⟨y1, y2, y3, y4, y5⟩ := q_up hwT ha t1 t2 t3 (u := oB (sT S) j) (v := oA (sT S) j) (by omega) ⟨j, by omega, by omega, Or.inr ⟨rfl, rfl⟩, fun _ => by omega, fun q => absurd q (by decide)⟩ D2
                              refine ih3 _ (by omega) (j + 1) M223 rfl (by omega) (fun y hy => by rw [e223, upm_c hy, e153, upm_c hy]; exact hf y hy) y1 y2 (q_next y3 (fun _ n hn => ⟨fun h => ?_, fun h => ?_⟩))
                              · have := y4 (oB (sT S) j)
                                have := h2 n hn (oA (sT S) j) (by omega) (by omega) h
                                omega
                              · have := t2 n hn (oB (sT S) j) (by omega) (by omega) h
                                omega
                            refine A_aload_n dX8_quiet_154 rfl ?_
                            refine A_getR dX8_quiet_155 fl_RX8_45 (by assumption) (by rfl) ?_
                            refine A_aload_n dX8_quiet_158 rfl ?_
                            refine A_getR dX8_quiet_159 fl_RX8_30 (by assumption) (by rfl) ?_
                            refine A_iload dX8_quiet_162 rfl ?_
                            refine A_iald dX8_quiet_164 (by assumption) (by omega) (by omega) ?_
                            rw [vA2]
                            refine A_aload_n dX8_quiet_165 rfl ?_
                            refine A_getR dX8_quiet_166 fl_RX8_45 (by assumption) (by rfl) ?_
                            refine A_aload_n dX8_quiet_169 rfl ?_
                            refine A_getR dX8_quiet_170 fl_RX8_33 (by assumption) (by rfl) ?_
                            refine A_iload dX8_quiet_173 rfl ?_
                            refine A_iald dX8_quiet_175 (by assumption) (by omega) (by omega) ?_
                            rw [vB2]
                            refine A_iald dX8_quiet_176 (by assumption) (by omega) (by omega) ?_
                            refine A_iconst dX8_quiet_177 (by decide) ?_
                            refine A_iadd dX8_quiet_178 ⟨by omega, by omega⟩ ?_
                            refine A_aload_n dX8_quiet_179 rfl ?_
                            refine A_getR dX8_quiet_180 fl_RX8_45 (by assumption) (by rfl) ?_
                            refine A_aload_n dX8_quiet_183 rfl ?_
                            refine A_getR dX8_quiet_184 fl_RX8_30 (by assumption) (by rfl) ?_
                            refine A_iload dX8_quiet_187 rfl ?_
                            refine A_iald dX8_quiet_189 (by assumption) (by omega) (by omega) ?_
                            rw [vA2]
                            refine A_iald dX8_quiet_190 (by assumption) (by omega) (by omega) ?_
                            refine A_icmp_ge (tgt := 211) dX8_quiet_191 (by decide) (fun h191 => ?_) (fun h191 => ?_)
                            · skip
                              refine A_aload_n dX8_quiet_211 rfl ?_
                              refine A_getR dX8_quiet_212 fl_RX8_45 (by assumption) (by rfl) ?_
                              refine A_aload_n dX8_quiet_215 rfl ?_
                              refine A_getR dX8_quiet_216 fl_RX8_30 (by assumption) (by rfl) ?_
                              refine A_iload dX8_quiet_219 rfl ?_
                              refine A_iald dX8_quiet_221 (by assumption) (by omega) (by omega) ?_
                              rw [vA2]
                              refine A_iald dX8_quiet_222 (by assumption) (by omega) (by omega) ?_
                              first | exact j223 _ (by rw [if_pos (by omega)]) | exact j223 _ (by rw [if_neg (by omega)])
                            · skip
                              refine A_aload_n dX8_quiet_194 rfl ?_
                              refine A_getR dX8_quiet_195 fl_RX8_45 (by assumption) (by rfl) ?_
                              refine A_aload_n dX8_quiet_198 rfl ?_
                              refine A_getR dX8_quiet_199 fl_RX8_33 (by assumption) (by rfl) ?_
                              refine A_iload dX8_quiet_202 rfl ?_
                              refine A_iald dX8_quiet_204 (by assumption) (by omega) (by omega) ?_
                              rw [vB2]
                              refine A_iald dX8_quiet_205 (by assumption) (by omega) (by omega) ?_
                              refine A_iconst dX8_quiet_206 (by decide) ?_
                              refine A_iadd dX8_quiet_207 ⟨by omega, by omega⟩ ?_
                              refine A_goto (tgt := 223) dX8_quiet_208 (by decide) ?_
                              first | exact j223 _ (by rw [if_pos (by omega)]) | exact j223 _ (by rw [if_neg (by omega)])
                          refine A_aload_n dX8_quiet_84 rfl ?_
                          refine A_getR dX8_quiet_85 fl_RX8_45 (by assumption) (by rfl) ?_
                          refine A_aload_n dX8_quiet_88 rfl ?_
                          refine A_getR dX8_quiet_89 fl_RX8_33 (by assumption) (by rfl) ?_
                          refine A_iload dX8_quiet_92 rfl ?_
                          refine A_iald dX8_quiet_94 (by assumption) (by omega) (by omega) ?_
                          rw [vB]
                          refine A_aload_n dX8_quiet_95 rfl ?_
                          refine A_getR dX8_quiet_96 fl_RX8_45 (by assumption) (by rfl) ?_
                          refine A_aload_n dX8_quiet_99 rfl ?_
                          refine A_getR dX8_quiet_100 fl_RX8_30 (by assumption) (by rfl) ?_
                          refine A_iload dX8_quiet_103 rfl ?_
                          refine A_iald dX8_quiet_105 (by assumption) (by omega) (by omega) ?_
                          rw [vA]
                          refine A_iald dX8_quiet_106 (by assumption) (by omega) (by omega) ?_
                          refine A_iconst dX8_quiet_107 (by decide) ?_
                          refine A_iadd dX8_quiet_108 ⟨by omega, by omega⟩ ?_
                          refine A_aload_n dX8_quiet_109 rfl ?_
                          refine A_getR dX8_quiet_110 fl_RX8_45 (by assumption) (by rfl) ?_
                          refine A_aload_n dX8_quiet_113 rfl ?_
                          refine A_getR dX8_quiet_114 fl_RX8_33 (by assumption) (by rfl) ?_
                          refine A_iload dX8_quiet_117 rfl ?_
                          refine A_iald dX8_quiet_119 (by assumption) (by omega) (by omega) ?_
                          rw [vB]
                          refine A_iald dX8_quiet_120 (by assumption) (by omega) (by omega) ?_
                          refine A_icmp_ge (tgt := 141) dX8_quiet_121 (by decide) (fun h121 => ?_) (fun h121 => ?_)
                          · skip
                            refine A_aload_n dX8_quiet_141 rfl ?_
                            refine A_getR dX8_quiet_142 fl_RX8_45 (by assumption) (by rfl) ?_
                            refine A_aload_n dX8_quiet_145 rfl ?_
                            refine A_getR dX8_quiet_146 fl_RX8_33 (by assumption) (by rfl) ?_
                            refine A_iload dX8_quiet_149 rfl ?_
                            refine A_iald dX8_quiet_151 (by assumption) (by omega) (by omega) ?_
                            rw [vB]
                            refine A_iald dX8_quiet_152 (by assumption) (by omega) (by omega) ?_
                            first | exact j153 _ (by rw [if_pos (by omega)]) | exact j153 _ (by rw [if_neg (by omega)])
                          · skip
                            refine A_aload_n dX8_quiet_124 rfl ?_
                            refine A_getR dX8_quiet_125 fl_RX8_45 (by assumption) (by rfl) ?_
                            refine A_aload_n dX8_quiet_128 rfl ?_
                            refine A_getR dX8_quiet_129 fl_RX8_30 (by assumption) (by rfl) ?_
                            refine A_iload dX8_quiet_132 rfl ?_
                            refine A_iald dX8_quiet_134 (by assumption) (by omega) (by omega) ?_
                            rw [vA]
                            refine A_iald dX8_quiet_135 (by assumption) (by omega) (by omega) ?_
                            refine A_iconst dX8_quiet_136 (by decide) ?_
                            refine A_iadd dX8_quiet_137 ⟨by omega, by omega⟩ ?_
                            refine A_goto (tgt := 153) dX8_quiet_138 (by decide) ?_
                            first | exact j153 _ (by rw [if_pos (by omega)]) | exact j153 _ (by rw [if_neg (by omega)])
                  exact lr _ 0 M1 rfl (by omega) hf h1 h2 (fun n hn d e h g => by obtain ⟨i, i0, i1, -⟩ := g; omega)
            have w8 := wt0.2.1
            exact lq _ 0 M1 vU rfl (by omega) hf (fun e x y => by
              rw [hx e x (by omega)]
              split
              · next q => exact ⟨by omega, by omega, fun _ => q⟩
              · exact ⟨by omega, by omega, fun q => by omega⟩) (fun n hn e x y h => by
              rw [show n = 0 by omega] at h ⊢
              have h : e = a := h
              rw [hx e x (by omega), if_pos h]; exact Int.le_refl _)
          · skip
            have j43 : ∀ v : Int, (v = if (i : Int) = a then 0 else 99) → AW E mX8_quiet G 0 0 43 [vR m, vI a, vI b, vI i, vU] [vI v, vI i, vR (m + 10)] M1 := by
              intro v hv
              refine A_iast dX8_quiet_43 (by assumption) (by omega) (by omega) (fun M43 e43 k43 => ?_)
              refine A_iinc dX8_quiet_44 (by decide) rfl rfl ⟨by omega, by omega⟩ ?_
              refine A_goto (tgt := 21) dX8_quiet_47 (by decide) ?_
              refine ih _ (by omega) (i + 1) M43 rfl (by omega) (fun y hy => by rw [e43, upm_c hy]; exact hf y hy) (fun k x y => ?_)
              rw [e43, upm_x]
              by_cases e : k = i
              · rw [if_pos ⟨rfl, e⟩, hv, e]
              · rw [if_neg (fun z => e z.2)]; exact hx k x (by omega)
            refine A_aload_n dX8_quiet_27 rfl ?_
            refine A_getR dX8_quiet_28 fl_RX8_45 (by assumption) (by rfl) ?_
            refine A_iload_n dX8_quiet_31 rfl ?_
            refine A_iload_n dX8_quiet_32 rfl ?_
            refine A_iload_n dX8_quiet_33 rfl ?_
            refine A_icmp_ne (tgt := 41) dX8_quiet_34 (by decide) (fun h34 => ?_) (fun h34 => ?_)
            · skip
              refine A_bipush dX8_quiet_41 bp_99 (by decide) ?_
              first | exact j43 0 (by rw [if_pos (by omega)]) | exact j43 99 (by rw [if_neg (by omega)])
            · skip
              refine A_iconst dX8_quiet_37 (by decide) ?_
              refine A_goto (tgt := 43) dX8_quiet_38 (by decide) ?_
              first | exact j43 0 (by rw [if_pos (by omega)]) | exact j43 99 (by rw [if_neg (by omega)])
      exact lp _ 0 M rfl (by omega) (fun _ _ => rfl) (fun k x y => by omega)
    · skip
      refine A_bipush dX8_quiet_16 bp_m2 (by decide) ?_
      exact A_iret hR dX8_quiet_18 rfl ⟨_, rfl, hY, frY_r, by unfold R_quiet; rw [if_neg (fun q => by first | (have := q2.mpr q.1; omega) | (have := q10.mpr q.2; omega))]⟩

