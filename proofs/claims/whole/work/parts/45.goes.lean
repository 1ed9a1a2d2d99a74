/-! THE MODEL's answers: where it goes on -/
theorem wS_uC {S : GS} {C : CS} (h : wS S) (hC : wC (sT S) C) (hG : csG C ≤ 9999) : wS (uC S C) := ⟨h.1, ⟨hC, hG⟩, h.2.2⟩
theorem atB_64 (A : Fn) (d : Int) {n : Nat} (h : n ≤ 6) : atB A d n < 64 := Nat.lt_of_lt_of_le (atB_lt A d n) (p2_le (n := 6) h)
def f_go (S : GS) (n : Int) : Int := if 1 ≤ n ∧ n ≤ 99 then (if csG (sC S) + n ≤ 9999 then csG (sC S) + n else -5) else -3
def g_go (S : GS) (n : Int) : GS := if (1 ≤ n ∧ n ≤ 99) ∧ csG (sC S) + n ≤ 9999 then uC S (itC (sT S) (sC S) n.toNat) else S
theorem w_go {S : GS} (n : Int) (h : wS S) : wS (g_go S n) := by
  unfold g_go
  split
  · have i := itC_w h.1 h.2.1.1 n.toNat
    exact wS_uC h i.1 (by rw [i.2]; omega)
  · exact h
def spC (C : CS) (t v : Int) : CS := (csW C, csG C, csQ C, fun k => if k = t then v else csS C k, csA C, csSw C, csC C, csF C)
def stC (C : CS) (f v : Int) : CS := (csW C, csG C, csQ C, csS C, csA C, fun k => if k = f then v else csSw C k, csC C, csF C)
def siC (C : CS) (d : Int) : CS := (csW C, csG C, d, csS C, csA C, csSw C, csC C, csF C)
def f_spill (S : GS) (t v : Int) : Int := if 0 ≤ t ∧ t < oT (sT S) then (if 0 ≤ v ∧ v ≤ 99 then csS (sC S) t else -3) else -2
def g_spill (S : GS) (t v : Int) : GS := if (0 ≤ t ∧ t < oT (sT S)) ∧ 0 ≤ v ∧ v ≤ 99 then uC S (spC (sC S) t v) else S
theorem w_spill {S : GS} (t v : Int) (h : wS S) : wS (g_spill S t v) := by
  unfold g_spill
  split
  · next q =>
    refine wS_uC h ?_ h.2.1.2
    obtain ⟨a, b, c⟩ := h.2.1.1
    refine ⟨a, fun k x y => ?_, c⟩
    show 0 ≤ (if k = t then v else csS (sC S) k) ∧ (if k = t then v else csS (sC S) k) ≤ 99
    split
    · exact q.2
    · exact b k x y
  · exact h
def f_stamp (S : GS) (f v : Int) : Int := if 0 ≤ f ∧ f < oF (sT S) then (if 0 ≤ v ∧ v ≤ 9 then (if csF (sC S) f = -1 then csSw (sC S) f else -4) else -3) else -2
def g_stamp (S : GS) (f v : Int) : GS := if (0 ≤ f ∧ f < oF (sT S)) ∧ (0 ≤ v ∧ v ≤ 9) ∧ csF (sC S) f = -1 then uC S (stC (sC S) f v) else S
theorem w_stamp {S : GS} (f v : Int) (h : wS S) : wS (g_stamp S f v) := by
  unfold g_stamp
  split
  · next q =>
    refine wS_uC h ?_ h.2.1.2
    obtain ⟨a, b, c⟩ := h.2.1.1
    refine ⟨a, b, fun k x y => ?_⟩
    have e := c k x y
    refine ⟨e.1, e.2.1, ?_, ?_, e.2.2.2.2⟩
    · show 0 ≤ (if k = f then v else csSw (sC S) k)
      split
      · exact q.2.1.1
      · exact e.2.2.1
    · show (if k = f then v else csSw (sC S) k) ≤ 9
      split
      · exact q.2.1.2
      · exact e.2.2.2.1
  · exact h
theorem w_rain {S : GS} (h : wS S) : wS (uC S (rnC (sC S))) := by
  refine wS_uC h ?_ h.2.1.2
  obtain ⟨a, b, c⟩ := h.2.1.1
  refine ⟨a, fun k x y => ?_, c⟩
  have := b k x y
  show 0 ≤ csS (sC S) k / 2 ∧ csS (sC S) k / 2 ≤ 99
  omega
def f_sit (S : GS) (d : Int) : Int := if d = -1 ∨ (0 ≤ d ∧ d < oD (sT S)) then csQ (sC S) else -2
def g_sit (S : GS) (d : Int) : GS := if d = -1 ∨ (0 ≤ d ∧ d < oD (sT S)) then uC S (siC (sC S) d) else S
theorem w_sit {S : GS} (d : Int) (h : wS S) : wS (g_sit S d) := by
  unfold g_sit
  split
  · refine wS_uC h ?_ h.2.1.2
    obtain ⟨a, b, c⟩ := h.2.1.1
    refine ⟨⟨a.1, a.2.1, a.2.2.1, ?_, ?_⟩, b, c⟩
    · show -1 ≤ d
      omega
    · show d < oD (sT S)
      have := h.1.1
      omega
  · exact h
def f_keep (S : GS) (k : Int) : Int := if 0 ≤ k ∧ k ≤ 1 then csG (sC S) else -2
def g_keep (S : GS) (k : Int) : GS := if 0 ≤ k ∧ k ≤ 1 then uK S k else S
theorem w_keep {S : GS} (k : Int) (h : wS S) : wS (g_keep S k) := by
  unfold g_keep
  split
  · obtain ⟨h1, h2, h3, h4, h5, h6⟩ := h
    unfold uK
    split
    · exact ⟨h1, h2, ⟨Or.inr rfl, h3.2⟩, fun _ => h2, h5, h6⟩
    · exact ⟨h1, h2, ⟨h3.1, Or.inr rfl⟩, h4, fun _ => h2, h6⟩
  · exact h
def f_back (S : GS) (k : Int) : Int := if k = 0 then (if sb0 S = 1 then csG (sK0 S) else -4) else if k = 1 then (if sb1 S = 1 then csG (sK1 S) else -4) else -2
def g_back (S : GS) (k : Int) : GS := if k = 0 ∧ sb0 S = 1 then uC S (sK0 S) else if k = 1 ∧ sb1 S = 1 then uC S (sK1 S) else S
theorem w_back {S : GS} (k : Int) (h : wS S) : wS (g_back S k) := by
  unfold g_back
  split
  · next q => exact wS_uC h (h.2.2.2.1 q.2).1 (h.2.2.2.1 q.2).2
  · split
    · next q => exact wS_uC h (h.2.2.2.2.1 q.2).1 (h.2.2.2.2.1 q.2).2
    · exact h
def f_later (S : GS) (f t w : Int) : Int := if 0 ≤ w ∧ w ≤ 2 then (if 0 ≤ f ∧ ((w < 2 → f < oF (sT S)) ∧ (w = 2 → f < oT (sT S))) then (if 0 ≤ t ∧ t ≤ 99 then (if w = 0 then csA (itC (sT S) (sC S) t.toNat) f else if w = 1 then csSw (itC (sT S) (sC S) t.toNat) f else csS (itC (sT S) (sC S) t.toNat) f) else -3) else -2) else -3
def f_filed (S : GS) (f : Int) : Int := if 0 ≤ f ∧ f < oF (sT S) then csF (itC (sT S) (sC S) 200) f else -2
def f_queue (S : GS) (d t : Int) : Int := if 0 ≤ d ∧ d < oD (sT S) then (if 0 ≤ t ∧ t ≤ 99 then quN (itC (sT S) (sC S) t.toNat) d (oF (sT S)) else -3) else -2
theorem cp_3 {M M1 : Mem} {m : Nat} {T : TD} {C : CS} (hT : wT T) (h : rM M m 0 T C) (q : (∀ y, y ≠ m + 1 → M1 y = M y) ∧ (∀ k : Int, k < 39 * (3 : Nat) ∨ 39 * ((3 : Nat) : Int) + 39 ≤ k → M1 (m + 1) k = M (m + 1) k) ∧ ∀ k : Int, 0 ≤ k → k < 39 → M1 (m + 1) (39 * (3 : Nat) + k) = M (m + 1) (39 * (0 : Nat) + k)) : frM M M1 m 117 ∧ rM M1 m 117 T C :=
  ⟨⟨fun y y1 _ => q.1 y y1, fun k hk => q.2.1 k (by omega)⟩, rM_cp (b := 3) hT (rM_NT h) q.2.2⟩
theorem uC_0 {M M1 : Mem} {m : Nat} {S : GS} {C : CS} (h : rY M m S) (hT : wT (sT S)) (f : frM M M1 m 0) (hC : rM M1 m 0 (sT S) C) : rY M1 m (uC S C) ∧ frY M M1 m :=
  ⟨rY_uC h hT f.1 (fun k hk => f.2 k (by omega)) hC, fun y hy => f.1 y (by omega) (by omega)⟩
/-- one cell of the row alone -/
theorem up_0 {M : Mem} {m : Nat} {T : TD} {C C' : CS} {j v : Int} (h : rM M m 0 T C) (hj : 0 ≤ j ∧ j < 39)
    (h1 : (if 0 = j then v else csG C) = csG C' ∧ (if 1 = j then v else csW C) = csW C' ∧ (if 2 = j then v else csQ C) = csQ C') (h2 : ∀ k : Int, 0 ≤ k → k < oT T → (if 3 + k = j then v else csS C k) = csS C' k) (h3 : ∀ k : Int, 0 ≤ k → k < oF T → (if 15 + k = j then v else csA C k) = csA C' k ∧ (if 21 + k = j then v else csSw C k) = csSw C' k ∧ (if 27 + k = j then v else csC C k) = csC C' k ∧ (if 33 + k = j then v else csF C k) = csF C' k) : frM M (upm M (m + 1) j v) m 0 ∧ rM (upm M (m + 1) j v) m 0 T C' := by
  have up : ∀ k : Int, upm M (m + 1) j v (m + 1) k = if k = j then v else M (m + 1) k := fun k => by
    rw [upm_x]
    by_cases e : k = j
    · rw [if_pos ⟨rfl, e⟩, if_pos e]
    · rw [if_neg (fun z => e z.2), if_neg e]
  obtain ⟨⟨c0, c1, c2⟩, cs, cf⟩ := rM_0 h
  refine ⟨⟨fun y y1 _ => upm_c y1, fun k hk => upm_k (by omega)⟩, rM_0i ⟨by rw [up, c0]; exact h1.1, by rw [up, c1]; exact h1.2.1, by rw [up, c2]; exact h1.2.2⟩ (fun k x y => by rw [up, cs k x y]; exact h2 k x y) (fun k x y => ?_)⟩
  have := h3 k x y
  have q := cf k x y
  rw [up, up, up, up, q.1, q.2.1, q.2.2.1, q.2.2.2]
  exact this
set_option maxRecDepth 100000 in
set_option maxHeartbeats 4000000 in
theorem m_desk {E : EN} {l : Launch} {M : Mem} {m : Nat} {S : GS} (hO : isMod E m) (hY : rY M m S) (hw : wS S) {d w : Int} : Cn E l mX8_desk 2 [vR m, vI d, vI w] M (fun r M1 => ∃ z, r = vI z ∧ (M1 = M ∧ z = f_desk S d w)) := by
  refine Cn.of (by decide) rfl (Nat.le_of_ble_eq_true rfl) 3 rfl (fun oka okm G hR => ?_)
  obtain ⟨a0, a1, a2, a3, a4, a5, a6, a7, a8, a9, a10, a11, a12⟩ := id hO
  obtain ⟨hrI, hrM, hk0, hk1, hrb, ⟨hb0, hb1⟩, ⟨hL, hX⟩, ⟨hN, hsn⟩, hcr⟩ := id hY
  obtain ⟨hwT, ⟨hwC, hwG⟩, ⟨wb0, wb1⟩, wk0, wk1, wL, ⟨wN, wsn⟩, wcr, wcr0⟩ := id hw
  obtain ⟨⟨i0, i1, i2, i3⟩, ik, it, ie⟩ := id hrI
  obtain ⟨⟨c0, c1, c2⟩, cs, cf⟩ := rM_0 hrM
  obtain ⟨wt0, wtk, wtt, wtf⟩ := id hwT
  obtain ⟨wc0, wcs, wcf⟩ := id hwC
  refine A_aload_n dX8_desk_0 rfl ?_
  refine A_iload_n dX8_desk_1 rfl ?_
  refine A_vI1 (mj := mX8_isDesk) dX8_desk_2 hR.rm (by decide) ok_X8_isDesk mv_X8_isDesk ml_RX8_151 (by assumption) rfl rfl rfl (m_isDesk hO hrI hwT) (fun z2 M2 g2 k2 q2 => ?_)
  obtain ⟨e2, z2r, q2⟩ := q2
  subst M2
  refine A_if_ne (tgt := 11) dX8_desk_5 (by decide) (fun h5 => ?_) (fun h5 => ?_)
  · skip
    have dt : 0 ≤ d ∧ d < oD (sT S) := q2.mp (by omega)
    refine A_iconst dX8_desk_11 (by decide) ?_
    refine A_istore_n dX8_desk_12 (by decide) rfl ?_
    refine A_iconst dX8_desk_13 (by decide) ?_
    refine A_istore dX8_desk_14 (by decide) rfl ?_
    refine A_iconst dX8_desk_16 (by decide) ?_
    refine A_istore dX8_desk_17 (by decide) rfl ?_
    have lp : ∀ (k : Nat) (i : Nat) (x : Nat), oF (sT S) - i = k → (i ≤ oF (sT S)) → (x = atB (csA (sC S)) d i) → AW E mX8_desk G 0 0 19 [vR m, vI d, vI w, vI x, vI 0, vI i] [] M := by
      intro k
      induction k using Nat.strongRecOn with
      | ind k ih =>
        intro i x hk h0 hx
        refine A_iload dX8_desk_19 rfl ?_
        refine A_aload_n dX8_desk_21 rfl ?_
        refine A_getI (ki := 12) dX8_desk_22 fl_RX8_64 (by assumption) (by rfl) rfl ?_
        rw [i2]
        refine A_icmp_ge (tgt := 59) dX8_desk_25 (by decide) (fun h25 => ?_) (fun h25 => ?_)
        · skip
          have hi : i = oF (sT S) := by omega
          subst hi
          refine A_iconst dX8_desk_59 (by decide) ?_
          refine A_istore dX8_desk_60 (by decide) rfl ?_
          have lq : ∀ (k : Nat) (i : Nat) (y : Int), oT (sT S) - i = k → (i ≤ oT (sT S)) → (y = trN (oA (sT S)) (oB (sT S)) d i) → AW E mX8_desk G 0 0 62 [vR m, vI d, vI w, vI x, vI y, vI i] [] M := by
            intro k
            induction k using Nat.strongRecOn with
            | ind k2 ih2 =>
              intro i y hk h0 hy
              refine A_iload dX8_desk_62 rfl ?_
              refine A_aload_n dX8_desk_64 rfl ?_
              refine A_getI (ki := 10) dX8_desk_65 fl_RX8_61 (by assumption) (by rfl) rfl ?_
              rw [i1]
              refine A_icmp_ge (tgt := 97) dX8_desk_68 (by decide) (fun h68 => ?_) (fun h68 => ?_)
              · skip
                have hi : i = oT (sT S) := by omega
                subst hi
                refine A_iload_n dX8_desk_97 rfl ?_
                refine A_if_ne (tgt := 110) dX8_desk_98 (by decide) (fun h98 => ?_) (fun h98 => ?_)
                · skip
                  refine A_iload_n dX8_desk_110 rfl ?_
                  refine A_iconst dX8_desk_111 (by decide) ?_
                  refine A_icmp_ne (tgt := 119) dX8_desk_112 (by decide) (fun h112 => ?_) (fun h112 => ?_)
                  · skip
                    refine A_iload_n dX8_desk_119 rfl ?_
                    refine A_iconst dX8_desk_120 (by decide) ?_
                    refine A_icmp_ne (tgt := 129) dX8_desk_121 (by decide) (fun h121 => ?_) (fun h121 => ?_)
                    · skip
                      refine A_bipush dX8_desk_129 bp_m3 (by decide) ?_
                      exact A_iret hR dX8_desk_131 rfl ⟨_, rfl, rfl, by unfold f_desk; rw [if_pos dt]; first | rw [if_pos (by omega)] | (rw [if_neg (by omega), if_pos (by omega), hx]; done) | (rw [if_neg (by omega), if_neg (by omega), if_pos (by omega)]; exact hy) | rw [if_neg (by omega), if_neg (by omega), if_neg (by omega)]⟩
                    · skip
                      refine A_iload dX8_desk_124 rfl ?_
                      refine A_goto (tgt := 131) dX8_desk_126 (by decide) ?_
                      exact A_iret hR dX8_desk_131 rfl ⟨_, rfl, rfl, by unfold f_desk; rw [if_pos dt]; first | rw [if_pos (by omega)] | (rw [if_neg (by omega), if_pos (by omega), hx]; done) | (rw [if_neg (by omega), if_neg (by omega), if_pos (by omega)]; exact hy) | rw [if_neg (by omega), if_neg (by omega), if_neg (by omega)]⟩
                  · skip
                    refine A_iload_n dX8_desk_115 rfl ?_
                    refine A_goto (tgt := 131) dX8_desk_116 (by decide) ?_
                    exact A_iret hR dX8_desk_131 rfl ⟨_, rfl, rfl, by unfold f_desk; rw [if_pos dt]; first | rw [if_pos (by omega)] | (rw [if_neg (by omega), if_pos (by omega), hx]; done) | (rw [if_neg (by omega), if_neg (by omega), if_pos (by omega)]; exact hy) | rw [if_neg (by omega), if_neg (by omega), if_neg (by omega)]⟩
                · skip
                  refine A_aload_n dX8_desk_101 rfl ?_
                  refine A_getR dX8_desk_102 fl_RX8_27 (by assumption) (by rfl) ?_
                  refine A_iload_n dX8_desk_105 rfl ?_
                  refine A_iald dX8_desk_106 (by assumption) (by omega) (by omega) ?_
                  rw [ik d (by omega) (by omega)]
                  refine A_goto (tgt := 131) dX8_desk_107 (by decide) ?_
                  exact A_iret hR dX8_desk_131 rfl ⟨_, rfl, rfl, by unfold f_desk; rw [if_pos dt]; first | rw [if_pos (by omega)] | (rw [if_neg (by omega), if_pos (by omega), hx]; done) | (rw [if_neg (by omega), if_neg (by omega), if_pos (by omega)]; exact hy) | rw [if_neg (by omega), if_neg (by omega), if_neg (by omega)]⟩
              · skip
                have g1 := it i (by omega) (by omega)
                have tr := trN_r (oA (sT S)) (oB (sT S)) d i
                have j88 : ∀ u : Int, (y + u = trN (oA (sT S)) (oB (sT S)) d (i + 1)) → AW E mX8_desk G 0 0 88 [vR m, vI d, vI w, vI x, vI y, vI i] [vI u, vI y] M := by
                  intro u hu
                  have tr1 := trN_r (oA (sT S)) (oB (sT S)) d (i + 1)
                  refine A_iadd dX8_desk_88 ⟨by omega, by omega⟩ ?_
                  refine A_istore dX8_desk_89 (by decide) rfl ?_
                  refine A_iinc dX8_desk_91 (by decide) rfl rfl ⟨by omega, by omega⟩ ?_
                  refine A_goto (tgt := 62) dX8_desk_94 (by decide) ?_
                  exact ih2 _ (by omega) (i + 1) _ rfl (by omega) hu
                refine A_iload dX8_desk_71 rfl ?_
                refine A_aload_n dX8_desk_73 rfl ?_
                refine A_iload dX8_desk_74 rfl ?_
                refine A_iload_n dX8_desk_76 rfl ?_
                refine A_vI2 (mj := mX8_isOf) dX8_desk_77 hR.rm (by decide) ok_X8_isOf mv_X8_isOf ml_RX8_154 (by assumption) rfl rfl rfl (m_isOf hO (by omega) (by omega)) (fun z77 M77 g77 k77 q77 => ?_)
                obtain ⟨e77, q77a, q77b⟩ := q77
                subst M77
                rw [g1.1, g1.2] at q77b
                refine A_if_eq (tgt := 87) dX8_desk_80 (by decide) (fun h80 => ?_) (fun h80 => ?_)
                · skip
                  refine A_iconst dX8_desk_87 (by decide) ?_
                  first | exact j88 1 (by rw [trN, if_pos (by omega)]; omega) | exact j88 0 (by rw [trN, if_neg (by omega)]; omega)
                · skip
                  refine A_iconst dX8_desk_83 (by decide) ?_
                  refine A_goto (tgt := 88) dX8_desk_84 (by decide) ?_
                  first | exact j88 1 (by rw [trN, if_pos (by omega)]; omega) | exact j88 0 (by rw [trN, if_neg (by omega)]; omega)
          exact lq _ 0 0 rfl (by omega) rfl
        · skip
          have al := atB_lt (csA (sC S)) d (i + 1)
          have al2 : 2 ^ (i + 1) ≤ 2 ^ 6 := p2_le (by omega)
          have j51 : ∀ y : Nat, (x ||| y = atB (csA (sC S)) d (i + 1)) → AW E mX8_desk G 0 0 51 [vR m, vI d, vI w, vI x, vI 0, vI i] [vI y, vI x] M := by
            intro y hy
            refine A_ior (z := ((x ||| y : Nat) : Int)) dX8_desk_51 (b_or x y) (by rw [hy]; exact rng64 (by omega)) ?_
            refine A_istore_n dX8_desk_52 (by decide) rfl ?_
            refine A_iinc dX8_desk_53 (by decide) rfl rfl ⟨by omega, by omega⟩ ?_
            refine A_goto (tgt := 19) dX8_desk_56 (by decide) ?_
            exact ih _ (by omega) (i + 1) _ rfl (by omega) hy
          refine A_iload_n dX8_desk_28 rfl ?_
          refine A_aload_n dX8_desk_29 rfl ?_
          refine A_getR dX8_desk_30 fl_RX8_7 (by assumption) (by rfl) ?_
          refine A_bipush dX8_desk_33 bp_15 (by decide) ?_
          refine A_iload dX8_desk_35 rfl ?_
          refine A_iadd dX8_desk_37 ⟨by omega, by omega⟩ ?_
          refine A_iald dX8_desk_38 (by assumption) (by omega) (by omega) ?_
          rw [(cf i (by omega) (by omega)).1]
          refine A_iload_n dX8_desk_39 rfl ?_
          refine A_icmp_ne (tgt := 50) dX8_desk_40 (by decide) (fun h40 => ?_) (fun h40 => ?_)
          · skip
            refine A_iconst dX8_desk_50 (by decide) ?_
            first | exact j51 (2 ^ i) (by rw [atB, if_pos (by omega), hx]; exact b_add (atB_lt _ _ _)) | exact j51 0 (by rw [atB, if_neg (by omega), hx]; exact Nat.or_zero _)
          · skip
            refine A_iconst dX8_desk_43 (by decide) ?_
            refine A_iload dX8_desk_44 rfl ?_
            refine A_ishl (z := ((2 ^ i : Nat) : Int)) dX8_desk_46 (b_shl i (by omega)) (rng_p2 (by omega)) ?_
            refine A_goto (tgt := 51) dX8_desk_47 (by decide) ?_
            first | exact j51 (2 ^ i) (by rw [atB, if_pos (by omega), hx]; exact b_add (atB_lt _ _ _)) | exact j51 0 (by rw [atB, if_neg (by omega), hx]; exact Nat.or_zero _)
    exact lp _ 0 0 rfl (by omega) rfl
  · skip
    refine A_bipush dX8_desk_8 bp_m2 (by decide) ?_
    exact A_iret hR dX8_desk_10 rfl ⟨_, rfl, rfl, by unfold f_desk; rw [if_neg (fun q => by have := q2.mpr q; omega)]⟩

set_option maxRecDepth 100000 in
set_option maxHeartbeats 4000000 in
theorem m_go {E : EN} {l : Launch} {M : Mem} {m : Nat} {S : GS} (hO : isMod E m) (hY : rY M m S) (hw : wS S) {n : Int} : Cn E l mX8_go 4 [vR m, vI n] M (fun r M1 => ∃ z, r = vI z ∧ (rY M1 m (g_go S n) ∧ frY M M1 m ∧ z = f_go S n)) := by
  refine Cn.of (by decide) rfl (Nat.le_of_ble_eq_true rfl) 1 rfl (fun oka okm G hR => ?_)
  obtain ⟨a0, a1, a2, a3, a4, a5, a6, a7, a8, a9, a10, a11, a12⟩ := id hO
  obtain ⟨hrI, hrM, hk0, hk1, hrb, ⟨hb0, hb1⟩, ⟨hL, hX⟩, ⟨hN, hsn⟩, hcr⟩ := id hY
  obtain ⟨hwT, ⟨hwC, hwG⟩, ⟨wb0, wb1⟩, wk0, wk1, wL, ⟨wN, wsn⟩, wcr, wcr0⟩ := id hw
  obtain ⟨⟨i0, i1, i2, i3⟩, ik, it, ie⟩ := id hrI
  obtain ⟨⟨c0, c1, c2⟩, cs, cf⟩ := rM_0 hrM
  obtain ⟨wt0, wtk, wtt, wtf⟩ := id hwT
  obtain ⟨wc0, wcs, wcf⟩ := id hwC
  refine A_iload_n dX8_go_0 rfl ?_
  refine A_i2l dX8_go_1 ?_
  refine A_lconst dX8_go_2 ?_
  refine A_ldc2 dX8_go_3 kc_RX8_183 (by decide) ?_
  refine A_sI3 (mj := mX8_in) dX8_go_6 hR.rm (by decide) ok_X8_in st_X8_in ml_RX8_73 rfl (m_in) (fun z6 M6 g6 k6 q6 => ?_)
  obtain ⟨e6, z6r, q6⟩ := q6
  subst M6
  refine A_if_ne (tgt := 15) dX8_go_9 (by decide) (fun h9 => ?_) (fun h9 => ?_)
  · skip
    have da : 1 ≤ n ∧ n ≤ 99 := by have := q6.mp (by omega); exact ⟨by omega, by omega⟩
    obtain ⟨k, rfl⟩ : ∃ k : Nat, n = k := ⟨n.toNat, by omega⟩
    refine A_aload_n dX8_go_15 rfl ?_
    refine A_getR dX8_go_16 fl_RX8_7 (by assumption) (by rfl) ?_
    refine A_iconst dX8_go_19 (by decide) ?_
    refine A_iald dX8_go_20 (by assumption) (by omega) (by omega) ?_
    rw [c0]
    refine A_iload_n dX8_go_21 rfl ?_
    refine A_iadd dX8_go_22 ⟨by omega, by omega⟩ ?_
    refine A_sipush dX8_go_23 sp_9999 (by decide) ?_
    refine A_icmp_le (tgt := 32) dX8_go_26 (by decide) (fun h26 => ?_) (fun h26 => ?_)
    · skip
      refine A_iconst dX8_go_32 (by decide) ?_
      refine A_istore_n dX8_go_33 (by decide) rfl ?_
      have lp : ∀ (kk : Nat) (i : Nat) (M1 : Mem), k - i = kk → (i ≤ k) → (frM M M1 m 0) → (rM M1 m 0 (sT S) (itC (sT S) (sC S) i)) → AW E mX8_go G 0 0 34 [vR m, vI k, vI i] [] M1 := by
        intro kk
        induction kk using Nat.strongRecOn with
        | ind kk ih =>
          intro i M1 hk h0 hf hc
          refine A_iload_n dX8_go_34 rfl ?_
          refine A_iload_n dX8_go_35 rfl ?_
          refine A_icmp_ge (tgt := 50) dX8_go_36 (by decide) (fun h36 => ?_) (fun h36 => ?_)
          · skip
            have hi : i = k := by omega
            subst hi
            refine A_aload_n dX8_go_50 rfl ?_
            refine A_getR dX8_go_51 fl_RX8_7 (by assumption) (by rfl) ?_
            refine A_iconst dX8_go_54 (by decide) ?_
            refine A_iald dX8_go_55 (by assumption) (by omega) (by omega) ?_
            rw [show M1 (m + 1) 0 = csG (itC (sT S) (sC S) i) from (rM_0 hc).1.1]
            exact A_iret hR dX8_go_56 rfl ⟨_, rfl, by unfold g_go; rw [if_pos ⟨da, by omega⟩, Int.toNat_natCast]; exact (uC_0 hY hwT hf hc).1, (uC_0 hY hwT hf hc).2, by unfold f_go; rw [if_pos da, if_pos (by omega), (itC_w hwT hwC i).2]⟩
          · skip
            refine A_aload_n dX8_go_39 rfl ?_
            refine A_iconst dX8_go_40 (by decide) ?_
            refine A_vV1 (mj := mX8_minute) dX8_go_41 hR.rm (by decide) ok_X8_minute mv_X8_minute ml_RX8_185 (by assumption) rfl rfl rfl (m_minute (b := 0) (C := itC (sT S) (sC S) i) hO (rI_fr hrI (fun y hy => hf.1 y (by omega) (by omega))) hc hwT (itC_w hwT hwC i).1 (by omega) (by have := (itC_w hwT hwC i).2; omega)) (fun M41 k41 q41 => ?_)
            obtain ⟨q41a, q41b⟩ := q41
            refine A_iinc dX8_go_44 (by decide) rfl rfl ⟨by omega, by omega⟩ ?_
            refine A_goto (tgt := 34) dX8_go_47 (by decide) ?_
            exact ih _ (by omega) (i + 1) M41 rfl (by omega) (frM_t hf q41a) q41b
      exact lp _ 0 M rfl (by omega) frM_r hrM
    · skip
      refine A_bipush dX8_go_29 bp_m5 (by decide) ?_
      exact A_iret hR dX8_go_31 rfl ⟨_, rfl, by unfold g_go; rw [if_neg (by omega)]; exact hY, frY_r, by unfold f_go; rw [if_pos da, if_neg (by omega)]⟩
  · skip
    refine A_bipush dX8_go_12 bp_m3 (by decide) ?_
    exact A_iret hR dX8_go_14 rfl ⟨_, rfl, by unfold g_go; rw [if_neg (fun q => by have := q6.mpr ⟨by omega, by omega⟩; omega)]; exact hY, frY_r, by unfold f_go; rw [if_neg (fun q => by have := q6.mpr ⟨by omega, by omega⟩; omega)]⟩

