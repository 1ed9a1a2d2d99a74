/-! SUGARSTAMPS: the whole object -/
def kAr : Nat → Option Nat := fun k => if k = 0 then some 29 else if k = 1 then some 37 else none
def isApp (E : EN) : Prop := At E 0 (.inl (7, [rf 1, rf 3, rf 11, rf 20, rf 28, rf 45, rf 46, rf 59, rf 63])) ∧ isTxt E 1 ∧ isTold E 3 ∧ isTold E 12 ∧ isCrs E 20 ∧ At E 28 (aR 2 kAr) ∧ isCrs E 29 ∧ isCrs E 37 ∧ At E 45 (aZ 2 nG) ∧ isFor E 46 3 20 ∧ isSgt E 59 ∧ isCrm E 63 ∧ At E 11 (.inl (3, [rf 1, rf 12, none, none, none, none]))
theorem frX_r {M : Mem} : frX M M := fun _ _ => rfl
/-- what stands, but for the text, the standing now, what is kept, what was seen, the crumbs -/
theorem rX_of {M M1 : Mem} {S S' : GS} (h : rX M S) (eT : sT S' = sT S) (hT : ∀ y, 3 ≤ y → y ≤ 10 → M1 y = M y) (h1 : rC M1 20 (sT S') (sC S')) (h2 : sb0 S' = 1 → rC M1 29 (sT S') (sK0 S')) (h3 : sb1 S' = 1 → rC M1 37 (sT S') (sK1 S')) (h4 : M1 45 0 = sb0 S' ∧ M1 45 1 = sb1 S') (h5 : M1 1 1 = sL S' ∧ ∀ k : Int, 0 ≤ k → k < sL S' → M1 2 k = sX S' k) (h6 : rS M1 59 (sN S') (sFl S') (sDk S') (sMn S')) (h7 : ∀ k : Int, 0 ≤ k → k < 8 → M1 64 k = sR S' k) : rX M1 S' := by
  obtain ⟨a, -⟩ := h
  refine ⟨?_, h1, h2, h3, h4, h5, h6, h7⟩
  rw [eT]
  obtain ⟨a1, a2, a3, a4⟩ := a
  refine ⟨by rw [hT 3 (by omega) (by omega)]; exact a1, by rw [hT (3 + 1) (by omega) (by omega)]; exact a2, by rw [hT (3 + 2) (by omega) (by omega), hT (3 + 3) (by omega) (by omega), hT (3 + 4) (by omega) (by omega)]; exact a3, by rw [hT (3 + 5) (by omega) (by omega), hT (3 + 6) (by omega) (by omega), hT (3 + 7) (by omega) (by omega)]; exact a4⟩
theorem rC_6 {M M1 : Mem} {c : Nat} {T : TD} {C : CS} (h : rC M c T C) (hf : ∀ y, c ≤ y → y ≤ c + 5 → M1 y = M y) : rC M1 c T C := by
  obtain ⟨a1, a2, a3⟩ := h
  refine ⟨by rw [hf c (by omega) (by omega)]; exact a1, by rw [hf (c + 1) (by omega) (by omega)]; exact a2, by rw [hf (c + 2) (by omega) (by omega), hf (c + 3) (by omega) (by omega), hf (c + 4) (by omega) (by omega), hf (c + 5) (by omega) (by omega)]; exact a3⟩
theorem rX_fr {M M1 : Mem} {S : GS} (h : rX M S) (hf : ∀ y, y ≤ 10 ∨ (20 ≤ y ∧ y ≤ 25) ∨ (29 ≤ y ∧ y ≤ 45) ∨ 59 ≤ y → M1 y = M y) : rX M1 S ∧ frX M M1 := by
  have g := h
  obtain ⟨a, b1, b2, b3, b4, b5, b6, b7⟩ := h
  exact ⟨rX_of g rfl (fun y _ _ => hf y (by omega)) (rC_6 b1 (fun y _ _ => hf y (by omega))) (fun z => rC_6 (b2 z) (fun y _ _ => hf y (by omega))) (fun z => rC_6 (b3 z) (fun y _ _ => hf y (by omega))) (by rw [hf 45 (by omega)]; exact b4) (by rw [hf 1 (by omega), hf 2 (by omega)]; exact b5) (rS_fr b6 (fun y _ _ => hf y (by omega))) (by rw [hf 64 (by omega)]; exact b7), fun y hy => hf y (by omega)⟩
theorem rX_uC {M M1 : Mem} {S : GS} {C : CS} (h : rX M S) (hf : ∀ y, y < 20 ∨ 28 ≤ y → M1 y = M y) (hC : rC M1 20 (sT S) C) : rX M1 (uC S C) ∧ frX M M1 := by
  have g := h
  obtain ⟨a, b1, b2, b3, b4, b5, b6, b7⟩ := h
  exact ⟨rX_of (S' := uC S C) g rfl (fun y _ _ => hf y (by omega)) hC (fun z => rC_6 (b2 z) (fun y _ _ => hf y (by omega))) (fun z => rC_6 (b3 z) (fun y _ _ => hf y (by omega))) (by rw [hf 45 (by omega)]; exact b4) (by rw [hf 1 (by omega), hf 2 (by omega)]; exact b5) (rS_fr b6 (fun y _ _ => hf y (by omega))) (by rw [hf 64 (by omega)]; exact b7), fun y hy => hf y (by omega)⟩
theorem rX_uT {M M1 : Mem} {S : GS} {n : Nat} {x : Fn} (h : rX M S) (hf : ∀ y, y ≠ 1 → y ≠ 2 → M1 y = M y) (hn : M1 1 1 = n) (hx : ∀ k : Int, 0 ≤ k → k < n → M1 2 k = x k) : rX M1 (uT S n x) ∧ frX M M1 := by
  have g := h
  obtain ⟨a, b1, b2, b3, b4, b5, b6, b7⟩ := h
  exact ⟨rX_of (S' := uT S n x) g rfl (fun y _ _ => hf y (by omega) (by omega)) (rC_6 b1 (fun y _ _ => hf y (by omega) (by omega))) (fun z => rC_6 (b2 z) (fun y _ _ => hf y (by omega) (by omega))) (fun z => rC_6 (b3 z) (fun y _ _ => hf y (by omega) (by omega))) (by rw [hf 45 (by omega) (by omega)]; exact b4) ⟨hn, hx⟩ (rS_fr b6 (fun y _ _ => hf y (by omega) (by omega))) (by rw [hf 64 (by omega) (by omega)]; exact b7), fun y hy => hf y (by omega) (by omega)⟩
theorem rX_uS {M M1 : Mem} {S : GS} {n : Nat} {a b c : Fn} (h : rX M S) (hf : ∀ y, y < 59 ∨ 63 ≤ y → M1 y = M y) (hs : rS M1 59 n a b c) : rX M1 (uS S n a b c) ∧ frX M M1 := by
  have g := h
  obtain ⟨-, b1, b2, b3, b4, b5, b6, b7⟩ := h
  exact ⟨rX_of (S' := uS S n a b c) g rfl (fun y _ _ => hf y (by omega)) (rC_6 b1 (fun y _ _ => hf y (by omega))) (fun z => rC_6 (b2 z) (fun y _ _ => hf y (by omega))) (fun z => rC_6 (b3 z) (fun y _ _ => hf y (by omega))) (by rw [hf 45 (by omega)]; exact b4) (by rw [hf 1 (by omega), hf 2 (by omega)]; exact b5) hs (by rw [hf 64 (by omega)]; exact b7), fun y hy => hf y (by omega)⟩
theorem rX_uR {M M1 : Mem} {S : GS} {r : Fn} (h : rX M S) (hf : ∀ y, y ≠ 64 → M1 y = M y) (hr : ∀ k : Int, 0 ≤ k → k < 8 → M1 64 k = r k) : rX M1 (uR S r) ∧ frX M M1 := by
  have g := h
  obtain ⟨-, b1, b2, b3, b4, b5, b6, b7⟩ := h
  exact ⟨rX_of (S' := uR S r) g rfl (fun y _ _ => hf y (by omega)) (rC_6 b1 (fun y _ _ => hf y (by omega))) (fun z => rC_6 (b2 z) (fun y _ _ => hf y (by omega))) (fun z => rC_6 (b3 z) (fun y _ _ => hf y (by omega))) (by rw [hf 45 (by omega)]; exact b4) (by rw [hf 1 (by omega), hf 2 (by omega)]; exact b5) (rS_fr b6 (fun y _ _ => hf y (by omega))) hr, fun y hy => hf y (by omega)⟩
set_option maxRecDepth 100000 in
set_option maxHeartbeats 4000000 in
theorem x_isDesk {E : EN} {l : Launch} {M : Mem} {S : GS} (hO : isApp E) (hY : rX M S) (hw : wS S) {d : Int} : Cn E l mX7_isDesk 0 [vR 0, vI d] M (fun r M1 => ∃ z, r = vI z ∧ (M1 = M ∧ (z = 0 ∨ z = 1) ∧ (z = 1 ↔ 0 ≤ d ∧ d < oD (sT S)))) := by
  refine Cn.of (by decide) rfl (Nat.le_of_ble_eq_true rfl) 0 rfl (fun oka okm G hR => ?_)
  obtain ⟨p0, pX, pT, pD, pN, p28, pk0, pk1, p45, pF, pS, pR, p11⟩ := id hO
  obtain ⟨b0, b1, b2, b3, b4, b5, b6, b7⟩ := id pT
  obtain ⟨d0, d1, d2, d3, d4, d5, d6, d7⟩ := id pN
  obtain ⟨f0, fC, f9, f10, f11, f12⟩ := id pF
  obtain ⟨g0, gp1, gp2, gp3⟩ := id pS
  obtain ⟨h0', h1'⟩ := id pR
  obtain ⟨xt0, xt1⟩ := id pX
  obtain ⟨hrT, hrC, hk0, hk1, ⟨hb0, hb1⟩, ⟨hL, hX⟩, hrS, hcr⟩ := id hY
  obtain ⟨⟨t0, t1, t2, t3, t4⟩, tk, tt, tf⟩ := id hrT
  obtain ⟨⟨n0, n1, n2, n3⟩, ns, nf⟩ := id hrC
  obtain ⟨⟨r0, r1⟩, rs⟩ := id hrS
  obtain ⟨hwT, ⟨hwC, hwG⟩, ⟨wb0, wb1⟩, wk0, wk1, wL, ⟨wN, wsn⟩, wcr, wcr0⟩ := id hw
  obtain ⟨wt0, wtk, wtt, wtf⟩ := id hwT
  obtain ⟨wc0, wcs, wcf⟩ := id hwC
  refine A_iload_n dX7_isDesk_0 rfl ?_
  refine A_if_lt (tgt := 19) dX7_isDesk_1 (by decide) (fun h1 => ?_) (fun h1 => ?_)
  · skip
    refine A_iconst dX7_isDesk_19 (by decide) ?_
    exact A_zret hR dX7_isDesk_20 rfl (by first | exact Or.inl rfl | exact Or.inr rfl | omega) ⟨_, rfl, rfl, by omega, by omega⟩
  · skip
    refine A_iload_n dX7_isDesk_4 rfl ?_
    refine A_aload_n dX7_isDesk_5 rfl ?_
    refine A_getR dX7_isDesk_6 fl_RX7_19 (by assumption) (by rfl) ?_
    refine A_getI (ki := 0) dX7_isDesk_9 fl_RX7_247 (by assumption) (by rfl) rfl ?_
    rw [t0]
    refine A_icmp_ge (tgt := 19) dX7_isDesk_12 (by decide) (fun h12 => ?_) (fun h12 => ?_)
    · skip
      refine A_iconst dX7_isDesk_19 (by decide) ?_
      exact A_zret hR dX7_isDesk_20 rfl (by first | exact Or.inl rfl | exact Or.inr rfl | omega) ⟨_, rfl, rfl, by omega, by omega⟩
    · skip
      refine A_iconst dX7_isDesk_15 (by decide) ?_
      refine A_goto (tgt := 20) dX7_isDesk_16 (by decide) ?_
      exact A_zret hR dX7_isDesk_20 rfl (by first | exact Or.inl rfl | exact Or.inr rfl | omega) ⟨_, rfl, rfl, by omega, by omega⟩

set_option maxRecDepth 100000 in
set_option maxHeartbeats 4000000 in
theorem x_isTrail {E : EN} {l : Launch} {M : Mem} {S : GS} (hO : isApp E) (hY : rX M S) (hw : wS S) {d : Int} : Cn E l mX7_isTrail 0 [vR 0, vI d] M (fun r M1 => ∃ z, r = vI z ∧ (M1 = M ∧ (z = 0 ∨ z = 1) ∧ (z = 1 ↔ 0 ≤ d ∧ d < oT (sT S)))) := by
  refine Cn.of (by decide) rfl (Nat.le_of_ble_eq_true rfl) 0 rfl (fun oka okm G hR => ?_)
  obtain ⟨p0, pX, pT, pD, pN, p28, pk0, pk1, p45, pF, pS, pR, p11⟩ := id hO
  obtain ⟨b0, b1, b2, b3, b4, b5, b6, b7⟩ := id pT
  obtain ⟨d0, d1, d2, d3, d4, d5, d6, d7⟩ := id pN
  obtain ⟨f0, fC, f9, f10, f11, f12⟩ := id pF
  obtain ⟨g0, gp1, gp2, gp3⟩ := id pS
  obtain ⟨h0', h1'⟩ := id pR
  obtain ⟨xt0, xt1⟩ := id pX
  obtain ⟨hrT, hrC, hk0, hk1, ⟨hb0, hb1⟩, ⟨hL, hX⟩, hrS, hcr⟩ := id hY
  obtain ⟨⟨t0, t1, t2, t3, t4⟩, tk, tt, tf⟩ := id hrT
  obtain ⟨⟨n0, n1, n2, n3⟩, ns, nf⟩ := id hrC
  obtain ⟨⟨r0, r1⟩, rs⟩ := id hrS
  obtain ⟨hwT, ⟨hwC, hwG⟩, ⟨wb0, wb1⟩, wk0, wk1, wL, ⟨wN, wsn⟩, wcr, wcr0⟩ := id hw
  obtain ⟨wt0, wtk, wtt, wtf⟩ := id hwT
  obtain ⟨wc0, wcs, wcf⟩ := id hwC
  refine A_iload_n dX7_isTrail_0 rfl ?_
  refine A_if_lt (tgt := 19) dX7_isTrail_1 (by decide) (fun h1 => ?_) (fun h1 => ?_)
  · skip
    refine A_iconst dX7_isTrail_19 (by decide) ?_
    exact A_zret hR dX7_isTrail_20 rfl (by first | exact Or.inl rfl | exact Or.inr rfl | omega) ⟨_, rfl, rfl, by omega, by omega⟩
  · skip
    refine A_iload_n dX7_isTrail_4 rfl ?_
    refine A_aload_n dX7_isTrail_5 rfl ?_
    refine A_getR dX7_isTrail_6 fl_RX7_19 (by assumption) (by rfl) ?_
    refine A_getI (ki := 1) dX7_isTrail_9 fl_RX7_179 (by assumption) (by rfl) rfl ?_
    rw [t1]
    refine A_icmp_ge (tgt := 19) dX7_isTrail_12 (by decide) (fun h12 => ?_) (fun h12 => ?_)
    · skip
      refine A_iconst dX7_isTrail_19 (by decide) ?_
      exact A_zret hR dX7_isTrail_20 rfl (by first | exact Or.inl rfl | exact Or.inr rfl | omega) ⟨_, rfl, rfl, by omega, by omega⟩
    · skip
      refine A_iconst dX7_isTrail_15 (by decide) ?_
      refine A_goto (tgt := 20) dX7_isTrail_16 (by decide) ?_
      exact A_zret hR dX7_isTrail_20 rfl (by first | exact Or.inl rfl | exact Or.inr rfl | omega) ⟨_, rfl, rfl, by omega, by omega⟩

set_option maxRecDepth 100000 in
set_option maxHeartbeats 4000000 in
theorem x_isFile {E : EN} {l : Launch} {M : Mem} {S : GS} (hO : isApp E) (hY : rX M S) (hw : wS S) {d : Int} : Cn E l mX7_isFile 0 [vR 0, vI d] M (fun r M1 => ∃ z, r = vI z ∧ (M1 = M ∧ (z = 0 ∨ z = 1) ∧ (z = 1 ↔ 0 ≤ d ∧ d < oF (sT S)))) := by
  refine Cn.of (by decide) rfl (Nat.le_of_ble_eq_true rfl) 0 rfl (fun oka okm G hR => ?_)
  obtain ⟨p0, pX, pT, pD, pN, p28, pk0, pk1, p45, pF, pS, pR, p11⟩ := id hO
  obtain ⟨b0, b1, b2, b3, b4, b5, b6, b7⟩ := id pT
  obtain ⟨d0, d1, d2, d3, d4, d5, d6, d7⟩ := id pN
  obtain ⟨f0, fC, f9, f10, f11, f12⟩ := id pF
  obtain ⟨g0, gp1, gp2, gp3⟩ := id pS
  obtain ⟨h0', h1'⟩ := id pR
  obtain ⟨xt0, xt1⟩ := id pX
  obtain ⟨hrT, hrC, hk0, hk1, ⟨hb0, hb1⟩, ⟨hL, hX⟩, hrS, hcr⟩ := id hY
  obtain ⟨⟨t0, t1, t2, t3, t4⟩, tk, tt, tf⟩ := id hrT
  obtain ⟨⟨n0, n1, n2, n3⟩, ns, nf⟩ := id hrC
  obtain ⟨⟨r0, r1⟩, rs⟩ := id hrS
  obtain ⟨hwT, ⟨hwC, hwG⟩, ⟨wb0, wb1⟩, wk0, wk1, wL, ⟨wN, wsn⟩, wcr, wcr0⟩ := id hw
  obtain ⟨wt0, wtk, wtt, wtf⟩ := id hwT
  obtain ⟨wc0, wcs, wcf⟩ := id hwC
  refine A_iload_n dX7_isFile_0 rfl ?_
  refine A_if_lt (tgt := 19) dX7_isFile_1 (by decide) (fun h1 => ?_) (fun h1 => ?_)
  · skip
    refine A_iconst dX7_isFile_19 (by decide) ?_
    exact A_zret hR dX7_isFile_20 rfl (by first | exact Or.inl rfl | exact Or.inr rfl | omega) ⟨_, rfl, rfl, by omega, by omega⟩
  · skip
    refine A_iload_n dX7_isFile_4 rfl ?_
    refine A_aload_n dX7_isFile_5 rfl ?_
    refine A_getR dX7_isFile_6 fl_RX7_19 (by assumption) (by rfl) ?_
    refine A_getI (ki := 2) dX7_isFile_9 fl_RX7_114 (by assumption) (by rfl) rfl ?_
    rw [t2]
    refine A_icmp_ge (tgt := 19) dX7_isFile_12 (by decide) (fun h12 => ?_) (fun h12 => ?_)
    · skip
      refine A_iconst dX7_isFile_19 (by decide) ?_
      exact A_zret hR dX7_isFile_20 rfl (by first | exact Or.inl rfl | exact Or.inr rfl | omega) ⟨_, rfl, rfl, by omega, by omega⟩
    · skip
      refine A_iconst dX7_isFile_15 (by decide) ?_
      refine A_goto (tgt := 20) dX7_isFile_16 (by decide) ?_
      exact A_zret hR dX7_isFile_20 rfl (by first | exact Or.inl rfl | exact Or.inr rfl | omega) ⟨_, rfl, rfl, by omega, by omega⟩

set_option maxRecDepth 100000 in
set_option maxHeartbeats 4000000 in
theorem x_trail {E : EN} {l : Launch} {M : Mem} {S : GS} (hO : isApp E) (hY : rX M S) (hw : wS S) {t w : Int} : Cn E l mX7_trail 1 [vR 0, vI t, vI w] M (fun r M1 => ∃ z, r = vI z ∧ (M1 = M ∧ z = f_trail S t w)) := by
  refine Cn.of (by decide) rfl (Nat.le_of_ble_eq_true rfl) 0 rfl (fun oka okm G hR => ?_)
  obtain ⟨p0, pX, pT, pD, pN, p28, pk0, pk1, p45, pF, pS, pR, p11⟩ := id hO
  obtain ⟨b0, b1, b2, b3, b4, b5, b6, b7⟩ := id pT
  obtain ⟨d0, d1, d2, d3, d4, d5, d6, d7⟩ := id pN
  obtain ⟨f0, fC, f9, f10, f11, f12⟩ := id pF
  obtain ⟨g0, gp1, gp2, gp3⟩ := id pS
  obtain ⟨h0', h1'⟩ := id pR
  obtain ⟨xt0, xt1⟩ := id pX
  obtain ⟨hrT, hrC, hk0, hk1, ⟨hb0, hb1⟩, ⟨hL, hX⟩, hrS, hcr⟩ := id hY
  obtain ⟨⟨t0, t1, t2, t3, t4⟩, tk, tt, tf⟩ := id hrT
  obtain ⟨⟨n0, n1, n2, n3⟩, ns, nf⟩ := id hrC
  obtain ⟨⟨r0, r1⟩, rs⟩ := id hrS
  obtain ⟨hwT, ⟨hwC, hwG⟩, ⟨wb0, wb1⟩, wk0, wk1, wL, ⟨wN, wsn⟩, wcr, wcr0⟩ := id hw
  obtain ⟨wt0, wtk, wtt, wtf⟩ := id hwT
  obtain ⟨wc0, wcs, wcf⟩ := id hwC
  refine A_aload_n dX7_trail_0 rfl ?_
  refine A_iload_n dX7_trail_1 rfl ?_
  refine A_vI1 (mj := mX7_isTrail) dX7_trail_2 hR.rm (by decide) ok_X7_isTrail mv_X7_isTrail ml_RX7_125 (by assumption) rfl rfl rfl (x_isTrail hO hY hw) (fun z2 M2 g2 k2 q2 => ?_)
  obtain ⟨e2, z2r, q2⟩ := q2
  subst M2
  refine A_if_ne (tgt := 11) dX7_trail_5 (by decide) (fun h5 => ?_) (fun h5 => ?_)
  · skip
    have dt : 0 ≤ t ∧ t < oT (sT S) := q2.mp (by omega)
    refine A_iload_n dX7_trail_11 rfl ?_
    rcases (show w = 0 ∨ w = 1 ∨ w = 2 ∨ (w < 0 ∨ 2 < w) by omega) with h12 | h12 | h12 | h12
    · refine A_tsIn (tgt := 40) dX7_trail_12 0 (by omega) (by omega) rfl (by decide) ?_
      refine A_aload_n dX7_trail_40 rfl ?_
      refine A_getR dX7_trail_41 fl_RX7_19 (by assumption) (by rfl) ?_
      refine A_getR dX7_trail_44 fl_RX7_128 (by assumption) (by rfl) ?_
      refine A_iload_n dX7_trail_47 rfl ?_
      refine A_iald dX7_trail_48 (by assumption) (by omega) (by omega) ?_
      rw [(tt t (by omega) (by omega)).1]
      exact A_iret hR dX7_trail_49 rfl ⟨_, rfl, rfl, by unfold f_trail; rw [if_pos dt]; first | rw [if_pos (by omega)] | rw [if_neg (by omega), if_pos (by omega)] | rw [if_neg (by omega), if_neg (by omega), if_pos (by omega)] | rw [if_neg (by omega), if_neg (by omega), if_neg (by omega)]⟩
    · refine A_tsIn (tgt := 50) dX7_trail_12 1 (by omega) (by omega) rfl (by decide) ?_
      refine A_aload_n dX7_trail_50 rfl ?_
      refine A_getR dX7_trail_51 fl_RX7_19 (by assumption) (by rfl) ?_
      refine A_getR dX7_trail_54 fl_RX7_131 (by assumption) (by rfl) ?_
      refine A_iload_n dX7_trail_57 rfl ?_
      refine A_iald dX7_trail_58 (by assumption) (by omega) (by omega) ?_
      rw [(tt t (by omega) (by omega)).2.1]
      exact A_iret hR dX7_trail_59 rfl ⟨_, rfl, rfl, by unfold f_trail; rw [if_pos dt]; first | rw [if_pos (by omega)] | rw [if_neg (by omega), if_pos (by omega)] | rw [if_neg (by omega), if_neg (by omega), if_pos (by omega)] | rw [if_neg (by omega), if_neg (by omega), if_neg (by omega)]⟩
    · refine A_tsIn (tgt := 60) dX7_trail_12 2 (by omega) (by omega) rfl (by decide) ?_
      refine A_aload_n dX7_trail_60 rfl ?_
      refine A_getR dX7_trail_61 fl_RX7_35 (by assumption) (by rfl) ?_
      refine A_getR dX7_trail_64 fl_RX7_134 (by assumption) (by rfl) ?_
      refine A_iload_n dX7_trail_67 rfl ?_
      refine A_iald dX7_trail_68 (by assumption) (by omega) (by omega) ?_
      rw [ns t (by omega) (by omega)]
      exact A_iret hR dX7_trail_69 rfl ⟨_, rfl, rfl, by unfold f_trail; rw [if_pos dt]; first | rw [if_pos (by omega)] | rw [if_neg (by omega), if_pos (by omega)] | rw [if_neg (by omega), if_neg (by omega), if_pos (by omega)] | rw [if_neg (by omega), if_neg (by omega), if_neg (by omega)]⟩
    · refine A_tsOut (tgt := 70) dX7_trail_12 (by omega) (by decide) ?_
      refine A_bipush dX7_trail_70 bp_m3 (by decide) ?_
      exact A_iret hR dX7_trail_72 rfl ⟨_, rfl, rfl, by unfold f_trail; rw [if_pos dt]; first | rw [if_pos (by omega)] | rw [if_neg (by omega), if_pos (by omega)] | rw [if_neg (by omega), if_neg (by omega), if_pos (by omega)] | rw [if_neg (by omega), if_neg (by omega), if_neg (by omega)]⟩
  · skip
    refine A_bipush dX7_trail_8 bp_m2 (by decide) ?_
    exact A_iret hR dX7_trail_10 rfl ⟨_, rfl, rfl, by unfold f_trail; rw [if_neg (fun q => by have := q2.mpr q; omega)]⟩

set_option maxRecDepth 100000 in
set_option maxHeartbeats 4000000 in
theorem x_file {E : EN} {l : Launch} {M : Mem} {S : GS} (hO : isApp E) (hY : rX M S) (hw : wS S) {t w : Int} : Cn E l mX7_file 1 [vR 0, vI t, vI w] M (fun r M1 => ∃ z, r = vI z ∧ (M1 = M ∧ z = f_file S t w)) := by
  refine Cn.of (by decide) rfl (Nat.le_of_ble_eq_true rfl) 0 rfl (fun oka okm G hR => ?_)
  obtain ⟨p0, pX, pT, pD, pN, p28, pk0, pk1, p45, pF, pS, pR, p11⟩ := id hO
  obtain ⟨b0, b1, b2, b3, b4, b5, b6, b7⟩ := id pT
  obtain ⟨d0, d1, d2, d3, d4, d5, d6, d7⟩ := id pN
  obtain ⟨f0, fC, f9, f10, f11, f12⟩ := id pF
  obtain ⟨g0, gp1, gp2, gp3⟩ := id pS
  obtain ⟨h0', h1'⟩ := id pR
  obtain ⟨xt0, xt1⟩ := id pX
  obtain ⟨hrT, hrC, hk0, hk1, ⟨hb0, hb1⟩, ⟨hL, hX⟩, hrS, hcr⟩ := id hY
  obtain ⟨⟨t0, t1, t2, t3, t4⟩, tk, tt, tf⟩ := id hrT
  obtain ⟨⟨n0, n1, n2, n3⟩, ns, nf⟩ := id hrC
  obtain ⟨⟨r0, r1⟩, rs⟩ := id hrS
  obtain ⟨hwT, ⟨hwC, hwG⟩, ⟨wb0, wb1⟩, wk0, wk1, wL, ⟨wN, wsn⟩, wcr, wcr0⟩ := id hw
  obtain ⟨wt0, wtk, wtt, wtf⟩ := id hwT
  obtain ⟨wc0, wcs, wcf⟩ := id hwC
  refine A_aload_n dX7_file_0 rfl ?_
  refine A_iload_n dX7_file_1 rfl ?_
  refine A_vI1 (mj := mX7_isFile) dX7_file_2 hR.rm (by decide) ok_X7_isFile mv_X7_isFile ml_RX7_137 (by assumption) rfl rfl rfl (x_isFile hO hY hw) (fun z2 M2 g2 k2 q2 => ?_)
  obtain ⟨e2, z2r, q2⟩ := q2
  subst M2
  refine A_if_ne (tgt := 11) dX7_file_5 (by decide) (fun h5 => ?_) (fun h5 => ?_)
  · skip
    have dt : 0 ≤ t ∧ t < oF (sT S) := q2.mp (by omega)
    have f1 := nf t (by omega) (by omega)
    refine A_iload_n dX7_file_11 rfl ?_
    rcases (show w = 0 ∨ w = 1 ∨ w = 2 ∨ w = 3 ∨ w = 4 ∨ (w < 0 ∨ 4 < w) by omega) with h12 | h12 | h12 | h12 | h12 | h12
    · refine A_tsIn (tgt := 48) dX7_file_12 0 (by omega) (by omega) rfl (by decide) ?_
      refine A_aload_n dX7_file_48 rfl ?_
      refine A_getR dX7_file_49 fl_RX7_35 (by assumption) (by rfl) ?_
      refine A_getR dX7_file_52 fl_RX7_140 (by assumption) (by rfl) ?_
      refine A_iload_n dX7_file_55 rfl ?_
      refine A_iald dX7_file_56 (by assumption) (by omega) (by omega) ?_
      rw [f1.1]
      exact A_iret hR dX7_file_57 rfl ⟨_, rfl, rfl, (by unfold f_file; rw [if_pos dt]; first | rw [if_pos (by omega)] | rw [if_neg (by omega), if_pos (by omega)] | rw [if_neg (by omega), if_neg (by omega), if_pos (by omega)] | rw [if_neg (by omega), if_neg (by omega), if_neg (by omega), if_pos (by omega)] | rw [if_neg (by omega), if_neg (by omega), if_neg (by omega), if_neg (by omega), if_pos (by omega)] | rw [if_neg (by omega), if_neg (by omega), if_neg (by omega), if_neg (by omega), if_neg (by omega)])⟩
    · refine A_tsIn (tgt := 58) dX7_file_12 1 (by omega) (by omega) rfl (by decide) ?_
      refine A_aload_n dX7_file_58 rfl ?_
      refine A_getR dX7_file_59 fl_RX7_19 (by assumption) (by rfl) ?_
      refine A_getR dX7_file_62 fl_RX7_143 (by assumption) (by rfl) ?_
      refine A_iload_n dX7_file_65 rfl ?_
      refine A_iald dX7_file_66 (by assumption) (by omega) (by omega) ?_
      rw [(tf t (by omega) (by omega)).2.1]
      exact A_iret hR dX7_file_67 rfl ⟨_, rfl, rfl, (by unfold f_file; rw [if_pos dt]; first | rw [if_pos (by omega)] | rw [if_neg (by omega), if_pos (by omega)] | rw [if_neg (by omega), if_neg (by omega), if_pos (by omega)] | rw [if_neg (by omega), if_neg (by omega), if_neg (by omega), if_pos (by omega)] | rw [if_neg (by omega), if_neg (by omega), if_neg (by omega), if_neg (by omega), if_pos (by omega)] | rw [if_neg (by omega), if_neg (by omega), if_neg (by omega), if_neg (by omega), if_neg (by omega)])⟩
    · refine A_tsIn (tgt := 68) dX7_file_12 2 (by omega) (by omega) rfl (by decide) ?_
      refine A_aload_n dX7_file_68 rfl ?_
      refine A_getR dX7_file_69 fl_RX7_35 (by assumption) (by rfl) ?_
      refine A_getR dX7_file_72 fl_RX7_146 (by assumption) (by rfl) ?_
      refine A_iload_n dX7_file_75 rfl ?_
      refine A_iald dX7_file_76 (by assumption) (by omega) (by omega) ?_
      rw [f1.2.1]
      exact A_iret hR dX7_file_77 rfl ⟨_, rfl, rfl, (by unfold f_file; rw [if_pos dt]; first | rw [if_pos (by omega)] | rw [if_neg (by omega), if_pos (by omega)] | rw [if_neg (by omega), if_neg (by omega), if_pos (by omega)] | rw [if_neg (by omega), if_neg (by omega), if_neg (by omega), if_pos (by omega)] | rw [if_neg (by omega), if_neg (by omega), if_neg (by omega), if_neg (by omega), if_pos (by omega)] | rw [if_neg (by omega), if_neg (by omega), if_neg (by omega), if_neg (by omega), if_neg (by omega)])⟩
    · refine A_tsIn (tgt := 78) dX7_file_12 3 (by omega) (by omega) rfl (by decide) ?_
      refine A_aload_n dX7_file_78 rfl ?_
      refine A_getR dX7_file_79 fl_RX7_35 (by assumption) (by rfl) ?_
      refine A_getR dX7_file_82 fl_RX7_149 (by assumption) (by rfl) ?_
      refine A_iload_n dX7_file_85 rfl ?_
      refine A_iald dX7_file_86 (by assumption) (by omega) (by omega) ?_
      rw [f1.2.2.1]
      exact A_iret hR dX7_file_87 rfl ⟨_, rfl, rfl, (by unfold f_file; rw [if_pos dt]; first | rw [if_pos (by omega)] | rw [if_neg (by omega), if_pos (by omega)] | rw [if_neg (by omega), if_neg (by omega), if_pos (by omega)] | rw [if_neg (by omega), if_neg (by omega), if_neg (by omega), if_pos (by omega)] | rw [if_neg (by omega), if_neg (by omega), if_neg (by omega), if_neg (by omega), if_pos (by omega)] | rw [if_neg (by omega), if_neg (by omega), if_neg (by omega), if_neg (by omega), if_neg (by omega)])⟩
    · refine A_tsIn (tgt := 88) dX7_file_12 4 (by omega) (by omega) rfl (by decide) ?_
      refine A_aload_n dX7_file_88 rfl ?_
      refine A_getR dX7_file_89 fl_RX7_35 (by assumption) (by rfl) ?_
      refine A_getR dX7_file_92 fl_RX7_152 (by assumption) (by rfl) ?_
      refine A_iload_n dX7_file_95 rfl ?_
      refine A_iald dX7_file_96 (by assumption) (by omega) (by omega) ?_
      rw [f1.2.2.2]
      exact A_iret hR dX7_file_97 rfl ⟨_, rfl, rfl, (by unfold f_file; rw [if_pos dt]; first | rw [if_pos (by omega)] | rw [if_neg (by omega), if_pos (by omega)] | rw [if_neg (by omega), if_neg (by omega), if_pos (by omega)] | rw [if_neg (by omega), if_neg (by omega), if_neg (by omega), if_pos (by omega)] | rw [if_neg (by omega), if_neg (by omega), if_neg (by omega), if_neg (by omega), if_pos (by omega)] | rw [if_neg (by omega), if_neg (by omega), if_neg (by omega), if_neg (by omega), if_neg (by omega)])⟩
    · refine A_tsOut (tgt := 98) dX7_file_12 (by omega) (by decide) ?_
      refine A_bipush dX7_file_98 bp_m3 (by decide) ?_
      exact A_iret hR dX7_file_100 rfl ⟨_, rfl, rfl, (by unfold f_file; rw [if_pos dt]; first | rw [if_pos (by omega)] | rw [if_neg (by omega), if_pos (by omega)] | rw [if_neg (by omega), if_neg (by omega), if_pos (by omega)] | rw [if_neg (by omega), if_neg (by omega), if_neg (by omega), if_pos (by omega)] | rw [if_neg (by omega), if_neg (by omega), if_neg (by omega), if_neg (by omega), if_pos (by omega)] | rw [if_neg (by omega), if_neg (by omega), if_neg (by omega), if_neg (by omega), if_neg (by omega)])⟩
  · skip
    refine A_bipush dX7_file_8 bp_m2 (by decide) ?_
    exact A_iret hR dX7_file_10 rfl ⟨_, rfl, rfl, by unfold f_file; rw [if_neg (fun q => by have := q2.mpr q; omega)]⟩

set_option maxRecDepth 100000 in
set_option maxHeartbeats 4000000 in
theorem x_desk {E : EN} {l : Launch} {M : Mem} {S : GS} (hO : isApp E) (hY : rX M S) (hw : wS S) {d w : Int} : Cn E l mX7_desk 2 [vR 0, vI d, vI w] M (fun r M1 => ∃ z, r = vI z ∧ (M1 = M ∧ z = f_desk S d w)) := by
  refine Cn.of (by decide) rfl (Nat.le_of_ble_eq_true rfl) 0 rfl (fun oka okm G hR => ?_)
  obtain ⟨p0, pX, pT, pD, pN, p28, pk0, pk1, p45, pF, pS, pR, p11⟩ := id hO
  obtain ⟨b0, b1, b2, b3, b4, b5, b6, b7⟩ := id pT
  obtain ⟨d0, d1, d2, d3, d4, d5, d6, d7⟩ := id pN
  obtain ⟨f0, fC, f9, f10, f11, f12⟩ := id pF
  obtain ⟨g0, gp1, gp2, gp3⟩ := id pS
  obtain ⟨h0', h1'⟩ := id pR
  obtain ⟨xt0, xt1⟩ := id pX
  obtain ⟨hrT, hrC, hk0, hk1, ⟨hb0, hb1⟩, ⟨hL, hX⟩, hrS, hcr⟩ := id hY
  obtain ⟨⟨t0, t1, t2, t3, t4⟩, tk, tt, tf⟩ := id hrT
  obtain ⟨⟨n0, n1, n2, n3⟩, ns, nf⟩ := id hrC
  obtain ⟨⟨r0, r1⟩, rs⟩ := id hrS
  obtain ⟨hwT, ⟨hwC, hwG⟩, ⟨wb0, wb1⟩, wk0, wk1, wL, ⟨wN, wsn⟩, wcr, wcr0⟩ := id hw
  obtain ⟨wt0, wtk, wtt, wtf⟩ := id hwT
  obtain ⟨wc0, wcs, wcf⟩ := id hwC
  refine A_aload_n dX7_desk_0 rfl ?_
  refine A_iload_n dX7_desk_1 rfl ?_
  refine A_vI1 (mj := mX7_isDesk) dX7_desk_2 hR.rm (by decide) ok_X7_isDesk mv_X7_isDesk ml_RX7_106 (by assumption) rfl rfl rfl (x_isDesk hO hY hw) (fun z2 M2 g2 k2 q2 => ?_)
  obtain ⟨e2, z2r, q2⟩ := q2
  subst M2
  refine A_if_ne (tgt := 11) dX7_desk_5 (by decide) (fun h5 => ?_) (fun h5 => ?_)
  · skip
    have dt : 0 ≤ d ∧ d < oD (sT S) := q2.mp (by omega)
    refine A_iload_n dX7_desk_11 rfl ?_
    rcases (show w = 0 ∨ w = 1 ∨ w = 2 ∨ (w < 0 ∨ 2 < w) by omega) with h12 | h12 | h12 | h12
    · refine A_tsIn (tgt := 40) dX7_desk_12 0 (by omega) (by omega) rfl (by decide) ?_
      refine A_aload_n dX7_desk_40 rfl ?_
      refine A_getR dX7_desk_41 fl_RX7_19 (by assumption) (by rfl) ?_
      refine A_getR dX7_desk_44 fl_RX7_110 (by assumption) (by rfl) ?_
      refine A_iload_n dX7_desk_47 rfl ?_
      refine A_iald dX7_desk_48 (by assumption) (by omega) (by omega) ?_
      rw [tk d (by omega) (by omega)]
      exact A_iret hR dX7_desk_49 rfl ⟨_, rfl, rfl, by unfold f_desk; rw [if_pos dt]; first | rw [if_pos (by omega)] | rw [if_neg (by omega), if_pos (by omega)] | rw [if_neg (by omega), if_neg (by omega), if_pos (by omega)] | rw [if_neg (by omega), if_neg (by omega), if_neg (by omega)]⟩
    · refine A_tsIn (tgt := 50) dX7_desk_12 1 (by omega) (by omega) rfl (by decide) ?_
      refine A_aload_n dX7_desk_50 rfl ?_
      refine A_getR dX7_desk_51 fl_RX7_35 (by assumption) (by rfl) ?_
      refine A_iload_n dX7_desk_54 rfl ?_
      refine A_aload_n dX7_desk_55 rfl ?_
      refine A_getR dX7_desk_56 fl_RX7_19 (by assumption) (by rfl) ?_
      refine A_getI (ki := 2) dX7_desk_59 fl_RX7_114 (by assumption) (by rfl) rfl ?_
      rw [t2]
      refine A_vI2 (mj := mX0_filesAt) dX7_desk_62 hR.rm (by decide) ok_X0_filesAt mv_X0_filesAt ml_RX7_117 (by assumption) rfl rfl rfl (c_filesAt (n := oF (sT S)) pN (by omega)) (fun z62 M62 g62 k62 q62 => ?_)
      obtain ⟨e62, q62⟩ := q62
      subst M62
      rw [atB_ext _ (fun k x y => (nf k x y).1)] at q62
      subst z62
      exact A_iret hR dX7_desk_65 rfl ⟨_, rfl, rfl, by unfold f_desk; rw [if_pos dt]; first | rw [if_pos (by omega)] | rw [if_neg (by omega), if_pos (by omega)] | rw [if_neg (by omega), if_neg (by omega), if_pos (by omega)] | rw [if_neg (by omega), if_neg (by omega), if_neg (by omega)]⟩
    · refine A_tsIn (tgt := 66) dX7_desk_12 2 (by omega) (by omega) rfl (by decide) ?_
      refine A_aload_n dX7_desk_66 rfl ?_
      refine A_getR dX7_desk_67 fl_RX7_19 (by assumption) (by rfl) ?_
      refine A_iload_n dX7_desk_70 rfl ?_
      refine A_vI1 (mj := mX6_trailsOf) dX7_desk_71 hR.rm (by decide) ok_X6_trailsOf mv_X6_trailsOf ml_RX7_121 (by assumption) rfl rfl rfl (c_trailsOf (n := oT (sT S)) pT t1 (by omega)) (fun z71 M71 g71 k71 q71 => ?_)
      obtain ⟨e71, q71⟩ := q71
      subst M71
      rw [trN_ext _ (fun k x y => ⟨(tt k x y).1, (tt k x y).2.1⟩)] at q71
      subst z71
      exact A_iret hR dX7_desk_74 rfl ⟨_, rfl, rfl, by unfold f_desk; rw [if_pos dt]; first | rw [if_pos (by omega)] | rw [if_neg (by omega), if_pos (by omega)] | rw [if_neg (by omega), if_neg (by omega), if_pos (by omega)] | rw [if_neg (by omega), if_neg (by omega), if_neg (by omega)]⟩
    · refine A_tsOut (tgt := 75) dX7_desk_12 (by omega) (by decide) ?_
      refine A_bipush dX7_desk_75 bp_m3 (by decide) ?_
      exact A_iret hR dX7_desk_77 rfl ⟨_, rfl, rfl, by unfold f_desk; rw [if_pos dt]; first | rw [if_pos (by omega)] | rw [if_neg (by omega), if_pos (by omega)] | rw [if_neg (by omega), if_neg (by omega), if_pos (by omega)] | rw [if_neg (by omega), if_neg (by omega), if_neg (by omega)]⟩
  · skip
    refine A_bipush dX7_desk_8 bp_m2 (by decide) ?_
    exact A_iret hR dX7_desk_10 rfl ⟨_, rfl, rfl, by unfold f_desk; rw [if_neg (fun q => by have := q2.mpr q; omega)]⟩

set_option maxRecDepth 100000 in
set_option maxHeartbeats 4000000 in
theorem x_as {E : EN} {l : Launch} {M : Mem} {S : GS} (hO : isApp E) (hY : rX M S) (hw : wS S) {d a : Int} : Cn E l mX7_as 2 [vR 0, vI d, vI a] M (fun r M1 => ∃ z, r = vI z ∧ (M1 = M ∧ z = f_as S d a)) := by
  refine Cn.of (by decide) rfl (Nat.le_of_ble_eq_true rfl) 0 rfl (fun oka okm G hR => ?_)
  obtain ⟨p0, pX, pT, pD, pN, p28, pk0, pk1, p45, pF, pS, pR, p11⟩ := id hO
  obtain ⟨b0, b1, b2, b3, b4, b5, b6, b7⟩ := id pT
  obtain ⟨d0, d1, d2, d3, d4, d5, d6, d7⟩ := id pN
  obtain ⟨f0, fC, f9, f10, f11, f12⟩ := id pF
  obtain ⟨g0, gp1, gp2, gp3⟩ := id pS
  obtain ⟨h0', h1'⟩ := id pR
  obtain ⟨xt0, xt1⟩ := id pX
  obtain ⟨hrT, hrC, hk0, hk1, ⟨hb0, hb1⟩, ⟨hL, hX⟩, hrS, hcr⟩ := id hY
  obtain ⟨⟨t0, t1, t2, t3, t4⟩, tk, tt, tf⟩ := id hrT
  obtain ⟨⟨n0, n1, n2, n3⟩, ns, nf⟩ := id hrC
  obtain ⟨⟨r0, r1⟩, rs⟩ := id hrS
  obtain ⟨hwT, ⟨hwC, hwG⟩, ⟨wb0, wb1⟩, wk0, wk1, wL, ⟨wN, wsn⟩, wcr, wcr0⟩ := id hw
  obtain ⟨wt0, wtk, wtt, wtf⟩ := id hwT
  obtain ⟨wc0, wcs, wcf⟩ := id hwC
  refine A_aload_n dX7_as_0 rfl ?_
  refine A_iload_n dX7_as_1 rfl ?_
  refine A_vI1 (mj := mX7_isDesk) dX7_as_2 hR.rm (by decide) ok_X7_isDesk mv_X7_isDesk ml_RX7_106 (by assumption) rfl rfl rfl (x_isDesk hO hY hw) (fun z2 M2 g2 k2 q2 => ?_)
  obtain ⟨e2, z2r, q2⟩ := q2
  subst M2
  refine A_if_ne (tgt := 11) dX7_as_5 (by decide) (fun h5 => ?_) (fun h5 => ?_)
  · skip
    have dt : 0 ≤ d ∧ d < oD (sT S) := q2.mp (by omega)
    refine A_iload_n dX7_as_11 rfl ?_
    refine A_if_lt (tgt := 20) dX7_as_12 (by decide) (fun h12 => ?_) (fun h12 => ?_)
    · skip
      refine A_bipush dX7_as_20 bp_m3 (by decide) ?_
      exact A_iret hR dX7_as_22 rfl ⟨_, rfl, rfl, by unfold f_as; rw [if_pos dt, if_neg (by omega)]⟩
    · skip
      refine A_iload_n dX7_as_15 rfl ?_
      refine A_iconst dX7_as_16 (by decide) ?_
      refine A_icmp_le (tgt := 23) dX7_as_17 (by decide) (fun h17 => ?_) (fun h17 => ?_)
      · skip
        have da : 0 ≤ a ∧ a ≤ 4 := by omega
        refine A_aload_n dX7_as_23 rfl ?_
        refine A_getR dX7_as_24 fl_RX7_19 (by assumption) (by rfl) ?_
        refine A_iload_n dX7_as_27 rfl ?_
        refine A_iload_n dX7_as_28 rfl ?_
        refine A_vI2 (mj := mX6_isA) dX7_as_29 hR.rm (by decide) ok_X6_isA mv_X6_isA ml_RX7_155 (by assumption) rfl rfl rfl (c_isA pT (by omega) (by omega)) (fun z29 M29 g29 k29 q29 => ?_)
        obtain ⟨e29, q29a, q29b⟩ := q29
        subst M29
        rw [tk d (by omega) (by omega)] at q29b
        refine A_if_ne (tgt := 38) dX7_as_32 (by decide) (fun h32 => ?_) (fun h32 => ?_)
        · skip
          refine A_aload_n dX7_as_38 rfl ?_
          refine A_getR dX7_as_39 fl_RX7_19 (by assumption) (by rfl) ?_
          refine A_iload_n dX7_as_42 rfl ?_
          refine A_iconst dX7_as_43 (by decide) ?_
          refine A_vI2 (mj := mX6_sweetnessBehind) dX7_as_44 hR.rm (by decide) ok_X6_sweetnessBehind mv_X6_sweetnessBehind ml_RX7_159 (by assumption) rfl rfl rfl (c_swb pT (by omega) (by omega) (by omega) (by omega)) (fun z44 M44 g44 k44 q44 => ?_)
          obtain ⟨e44, q44⟩ := q44
          subst M44
          rw [tk d (by omega) (by omega)] at q44
          exact A_iret hR dX7_as_47 rfl ⟨_, rfl, rfl, by unfold f_as; rw [if_pos dt, if_pos da, if_pos (q29b.mp (by omega))]; exact q44⟩
        · skip
          refine A_bipush dX7_as_35 bp_m4 (by decide) ?_
          exact A_iret hR dX7_as_37 rfl ⟨_, rfl, rfl, by unfold f_as; rw [if_pos dt, if_pos da, if_neg (fun q => by have := q29b.mpr q; omega)]⟩
      · skip
        refine A_bipush dX7_as_20 bp_m3 (by decide) ?_
        exact A_iret hR dX7_as_22 rfl ⟨_, rfl, rfl, by unfold f_as; rw [if_pos dt, if_neg (by omega)]⟩
  · skip
    refine A_bipush dX7_as_8 bp_m2 (by decide) ?_
    exact A_iret hR dX7_as_10 rfl ⟨_, rfl, rfl, by unfold f_as; rw [if_neg (fun q => by have := q2.mpr q; omega)]⟩

set_option maxRecDepth 100000 in
set_option maxHeartbeats 4000000 in
theorem x_next {E : EN} {l : Launch} {M : Mem} {S : GS} (hO : isApp E) (hY : rX M S) (hw : wS S) {f : Int} : Cn E l mX7_next 3 [vR 0, vI f] M (fun r M1 => ∃ z, r = vI z ∧ (rX M1 (S) ∧ frX M M1 ∧ z = f_next S f)) := by
  refine Cn.of (by decide) rfl (Nat.le_of_ble_eq_true rfl) 0 rfl (fun oka okm G hR => ?_)
  obtain ⟨p0, pX, pT, pD, pN, p28, pk0, pk1, p45, pF, pS, pR, p11⟩ := id hO
  obtain ⟨b0, b1, b2, b3, b4, b5, b6, b7⟩ := id pT
  obtain ⟨d0, d1, d2, d3, d4, d5, d6, d7⟩ := id pN
  obtain ⟨f0, fC, f9, f10, f11, f12⟩ := id pF
  obtain ⟨g0, gp1, gp2, gp3⟩ := id pS
  obtain ⟨h0', h1'⟩ := id pR
  obtain ⟨xt0, xt1⟩ := id pX
  obtain ⟨hrT, hrC, hk0, hk1, ⟨hb0, hb1⟩, ⟨hL, hX⟩, hrS, hcr⟩ := id hY
  obtain ⟨⟨t0, t1, t2, t3, t4⟩, tk, tt, tf⟩ := id hrT
  obtain ⟨⟨n0, n1, n2, n3⟩, ns, nf⟩ := id hrC
  obtain ⟨⟨r0, r1⟩, rs⟩ := id hrS
  obtain ⟨hwT, ⟨hwC, hwG⟩, ⟨wb0, wb1⟩, wk0, wk1, wL, ⟨wN, wsn⟩, wcr, wcr0⟩ := id hw
  obtain ⟨wt0, wtk, wtt, wtf⟩ := id hwT
  obtain ⟨wc0, wcs, wcf⟩ := id hwC
  refine A_aload_n dX7_next_0 rfl ?_
  refine A_iload_n dX7_next_1 rfl ?_
  refine A_vI1 (mj := mX7_isFile) dX7_next_2 hR.rm (by decide) ok_X7_isFile mv_X7_isFile ml_RX7_137 (by assumption) rfl rfl rfl (x_isFile hO hY hw) (fun z2 M2 g2 k2 q2 => ?_)
  obtain ⟨e2, z2r, q2⟩ := q2
  subst M2
  refine A_if_ne (tgt := 11) dX7_next_5 (by decide) (fun h5 => ?_) (fun h5 => ?_)
  · skip
    have dt : 0 ≤ f ∧ f < oF (sT S) := q2.mp (by omega)
    refine A_aload_n dX7_next_11 rfl ?_
    refine A_getR dX7_next_12 fl_RX7_35 (by assumption) (by rfl) ?_
    refine A_aload_n dX7_next_15 rfl ?_
    refine A_getR dX7_next_16 fl_RX7_19 (by assumption) (by rfl) ?_
    refine A_vI1 (mj := mX0_choose) dX7_next_19 hR.rm (by decide) ok_X0_choose mv_X0_choose ml_RX7_169 (by assumption) rfl rfl rfl (c_choose (t := 3) (c := 20) pN pT (Or.inl (by omega)) hrT hrC hwT hwC) (fun z19 M19 g19 k19 q19 => ?_)
    obtain ⟨y1, y2, -⟩ := q19
    refine A_pop dX7_next_22 rfl ?_
    refine A_aload_n dX7_next_23 rfl ?_
    refine A_getR dX7_next_24 fl_RX7_35 (by assumption) (by rfl) ?_
    refine A_getR dX7_next_27 fl_RX7_173 (by assumption) (by rfl) ?_
    refine A_iload_n dX7_next_30 rfl ?_
    refine A_iald dX7_next_31 (by assumption) (by omega) (by omega) ?_
    rw [y2 f dt.1 dt.2]
    exact A_iret hR dX7_next_32 rfl ⟨_, rfl, (rX_fr hY (fun y hy => y1 y (by omega) (by omega))).1, (rX_fr hY (fun y hy => y1 y (by omega) (by omega))).2, by unfold f_next; rw [if_pos dt]⟩
  · skip
    refine A_bipush dX7_next_8 bp_m2 (by decide) ?_
    exact A_iret hR dX7_next_10 rfl ⟨_, rfl, hY, frX_r, by unfold f_next; rw [if_neg (fun q => by have := q2.mpr q; omega)]⟩

set_option maxRecDepth 100000 in
set_option maxHeartbeats 4000000 in
theorem x_go {E : EN} {l : Launch} {M : Mem} {S : GS} (hO : isApp E) (hY : rX M S) (hw : wS S) {n : Int} : Cn E l mX7_go 5 [vR 0, vI n] M (fun r M1 => ∃ z, r = vI z ∧ (rX M1 (g_go S n) ∧ frX M M1 ∧ z = f_go S n)) := by
  refine Cn.of (by decide) rfl (Nat.le_of_ble_eq_true rfl) 0 rfl (fun oka okm G hR => ?_)
  obtain ⟨p0, pX, pT, pD, pN, p28, pk0, pk1, p45, pF, pS, pR, p11⟩ := id hO
  obtain ⟨b0, b1, b2, b3, b4, b5, b6, b7⟩ := id pT
  obtain ⟨d0, d1, d2, d3, d4, d5, d6, d7⟩ := id pN
  obtain ⟨f0, fC, f9, f10, f11, f12⟩ := id pF
  obtain ⟨g0, gp1, gp2, gp3⟩ := id pS
  obtain ⟨h0', h1'⟩ := id pR
  obtain ⟨xt0, xt1⟩ := id pX
  obtain ⟨hrT, hrC, hk0, hk1, ⟨hb0, hb1⟩, ⟨hL, hX⟩, hrS, hcr⟩ := id hY
  obtain ⟨⟨t0, t1, t2, t3, t4⟩, tk, tt, tf⟩ := id hrT
  obtain ⟨⟨n0, n1, n2, n3⟩, ns, nf⟩ := id hrC
  obtain ⟨⟨r0, r1⟩, rs⟩ := id hrS
  obtain ⟨hwT, ⟨hwC, hwG⟩, ⟨wb0, wb1⟩, wk0, wk1, wL, ⟨wN, wsn⟩, wcr, wcr0⟩ := id hw
  obtain ⟨wt0, wtk, wtt, wtf⟩ := id hwT
  obtain ⟨wc0, wcs, wcf⟩ := id hwC
  refine A_iload_n dX7_go_0 rfl ?_
  refine A_iconst dX7_go_1 (by decide) ?_
  refine A_icmp_lt (tgt := 11) dX7_go_2 (by decide) (fun h2 => ?_) (fun h2 => ?_)
  · skip
    refine A_bipush dX7_go_11 bp_m3 (by decide) ?_
    exact A_iret hR dX7_go_13 rfl ⟨_, rfl, by unfold g_go; rw [if_neg (by omega)]; exact hY, frX_r, by unfold f_go; rw [if_neg (by omega)]⟩
  · skip
    refine A_iload_n dX7_go_5 rfl ?_
    refine A_bipush dX7_go_6 bp_99 (by decide) ?_
    refine A_icmp_le (tgt := 14) dX7_go_8 (by decide) (fun h8 => ?_) (fun h8 => ?_)
    · skip
      have da : 1 ≤ n ∧ n ≤ 99 := by omega
      obtain ⟨n, rfl⟩ : ∃ j : Nat, n = j := ⟨n.toNat, by omega⟩
      refine A_aload_n dX7_go_14 rfl ?_
      refine A_getR dX7_go_15 fl_RX7_35 (by assumption) (by rfl) ?_
      refine A_getI (ki := 1) dX7_go_18 fl_RX7_162 (by assumption) (by rfl) rfl ?_
      rw [n1]
      refine A_iload_n dX7_go_21 rfl ?_
      refine A_iadd dX7_go_22 ⟨by omega, by omega⟩ ?_
      refine A_sipush dX7_go_23 sp_9999 (by decide) ?_
      refine A_icmp_le (tgt := 32) dX7_go_26 (by decide) (fun h26 => ?_) (fun h26 => ?_)
      · skip
        refine A_aload_n dX7_go_32 rfl ?_
        refine A_getR dX7_go_33 fl_RX7_35 (by assumption) (by rfl) ?_
        refine A_aload_n dX7_go_36 rfl ?_
        refine A_getR dX7_go_37 fl_RX7_19 (by assumption) (by rfl) ?_
        refine A_iload_n dX7_go_40 rfl ?_
        refine A_vV2 (mj := mX0_run) dX7_go_41 hR.rm (by decide) ok_X0_run mv_X0_run ml_RX7_165 (by assumption) rfl rfl rfl (c_run (n := n) (t := 3) (c := 20) pN pT (Or.inl (by omega)) hrT hrC hwT hwC (by omega) (by omega)) (fun M41 k41 q41 => ?_)
        obtain ⟨y1, y2⟩ := q41
        refine A_aload_n dX7_go_44 rfl ?_
        refine A_getR dX7_go_45 fl_RX7_35 (by assumption) (by rfl) ?_
        refine A_getI (ki := 1) dX7_go_48 fl_RX7_162 (by assumption) (by rfl) rfl ?_
        rw [y2.1.2.1]
        exact A_iret hR dX7_go_51 rfl ⟨_, rfl, by unfold g_go; rw [if_pos ⟨da, by omega⟩, Int.toNat_natCast]; exact (rX_uC hY (fun y hy => y1 y (by omega)) y2).1, (rX_uC hY (fun y hy => y1 y (by omega)) y2).2, by unfold f_go; rw [if_pos da, if_pos (by omega), (itC_w hwT hwC n).2]⟩
      · skip
        refine A_bipush dX7_go_29 bp_m5 (by decide) ?_
        exact A_iret hR dX7_go_31 rfl ⟨_, rfl, by unfold g_go; rw [if_neg (by omega)]; exact hY, frX_r, by unfold f_go; rw [if_pos da, if_neg (by omega)]⟩
    · skip
      refine A_bipush dX7_go_11 bp_m3 (by decide) ?_
      exact A_iret hR dX7_go_13 rfl ⟨_, rfl, by unfold g_go; rw [if_neg (by omega)]; exact hY, frX_r, by unfold f_go; rw [if_neg (by omega)]⟩

