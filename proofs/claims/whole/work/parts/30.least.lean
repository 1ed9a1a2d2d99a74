/-! HONEY: the least; SMEAR -/
theorem late_it {T : TD} {C : CS} {f : Int} (hW : 0 ≤ csW C) (h0 : 0 ≤ f) (h : csF C f = -1) : ∀ n : Nat, csF (itC T C n) f ≠ -1 → csW C < n
  | 0 => fun x => absurd h x
  | n + 1 => fun x => by
    by_cases e : csF (itC T C n) f = -1
    · have x2 : csF (mnB T (itC T C n) (crd T (itC T C n))) f ≠ -1 := x
      rw [mnB_F] at x2
      split at x2
      · rename_i q
        have u := (crd_u h0 q.1).2.2
        rw [it_W hW] at u
        omega
      · exact absurd e x2
    · have := late_it hW h0 h n e
      omega
def isHn (T : TD) (C : CS) (s m size : Nat) (z : Int) (row : Fn) : Prop := (z = -1 ∧ ∀ a, ¬ good T C s m a) ∨ (0 ≤ z ∧ ∃ a : Fn, (∀ p : Int, 0 ≤ p → p < size → row p = a p) ∧ good T C s m a ∧ smN a size = z ∧ ∀ b, good T C s m b → z ≤ smN b size ∧ (smN b size = z → nmN a size ≤ nmN b size))
theorem rng64 {a : Nat} (h : a < 64) : rng (a : Int) := ⟨by omega, by omega⟩
set_option maxRecDepth 100000 in
set_option maxHeartbeats 4000000 in
theorem c_leastHoney {E : EN} {l : Launch} {M : Mem} {f t n : Nat} {T : TD} {C : CS}{s m : Nat}(hF : isFor E f t n) (hT : isTold E t) (hN : isCrs E n) (hd1 : t + 8 ≤ n) (hd2 : n + 8 ≤ f) (hrT : rT M t T) (hrC : rC M n T C) (hwT : wT T) (hwC : wC T C) (hG : csG C ≤ 9999)(hs4 : rkN s (oF T) ≤ 4) (hs : s < 2 ^ oF T) (hm : m ≤ 1000) (hun : ∀ g : Nat, g < oF T → s.testBit g = true → csF C g = -1) : Cn E l mX2_leastHoney 10 [vR f, vI s, vI m] M (fun r M1 => ∃ z, r = vI z ∧ (fr M M1 (f + 1) 12 ∧ isHn T C s m (rkN s (oF T)) z (M1 (f + 10)))) := by
  refine Cn.of (by decide) rfl (Nat.le_of_ble_eq_true rfl) 2 rfl (fun oka okm G hR => ?_)
  obtain ⟨aF0, hTr, aF9, aF10, aF11, aF12⟩ := id hF
  have cT := crs_at hTr
  have cN := crs_at hN
  have tD := told_at hT
  obtain ⟨cT0, cT1, cT2, cT3, cT4, cT5, cT6, cT7⟩ := id hTr
  obtain ⟨cN0, cN1, cN2, cN3, cN4, cN5, cN6, cN7⟩ := id hN
  obtain ⟨aT0, aT1, aT2, aT3, aT4, aT5, aT6, aT7⟩ := id hT
  obtain ⟨⟨t0, t1, t2, t3, t4⟩, tk, tt, tf⟩ := id hrT
  obtain ⟨⟨c0, c1, c2, c3⟩, cs, cf⟩ := id hrC
  obtain ⟨wt0, wtk, wtt, wtf⟩ := id hwT
  obtain ⟨wc0, wcs, wcf⟩ := id hwC
  have s64 : s < 64 := Nat.lt_of_lt_of_le hs (p2_le (n := 6) wt0.2.2.2.1)
  refine A_iconst dX2_leastHoney_0 (by decide) ?_
  refine A_istore_n dX2_leastHoney_1 (by decide) rfl ?_
  refine A_iconst dX2_leastHoney_2 (by decide) ?_
  refine A_istore dX2_leastHoney_3 (by decide) rfl ?_
  have lp : ∀ (k : Nat) (i : Nat) (M1 : Mem), oF T - i = k → (i ≤ oF T) → (∀ y, y ≠ f + 9 → y ≠ f + 12 → M1 y = M y) → (isMem (M1 (f + 9)) s i (rkN s i)) → AW E mX2_leastHoney G 0 0 5 [vR f, vI s, vI m, vI (rkN s i), vI i] [] M1 := by
    intro k
    induction k using Nat.strongRecOn with
    | ind k ih =>
      intro i M1 hk h0 hf hM
      have rT1 : rT M1 t T := rT_fr hrT (c := f) (n := 13) (fun y hy => hf y (by omega) (by omega)) (by omega)
      have rC1 : rC M1 n T C := rC_fr hrC (c := f) (n := 13) (fun y hy => hf y (by omega) (by omega)) (by omega)
      refine A_iload dX2_leastHoney_5 rfl ?_
      refine A_aload_n dX2_leastHoney_7 rfl ?_
      refine A_getR dX2_leastHoney_8 fl_RX2_31 (by assumption) (by rfl) ?_
      refine A_getI (ki := 2) dX2_leastHoney_11 fl_RX2_53 (by assumption) (by rfl) rfl ?_
      rw [rT1.1.2.2.1]
      refine A_icmp_ge (tgt := 63) dX2_leastHoney_14 (by decide) (fun h14 => ?_) (fun h14 => ?_)
      · skip
        have hi : i = oF T := by omega
        subst hi
        refine A_iconst dX2_leastHoney_63 (by decide) ?_
        refine A_istore dX2_leastHoney_64 (by decide) rfl ?_
        have lq : ∀ (k : Nat) (tg : Nat) (M2 : Mem), 100 - tg = k → (tg ≤ 37) → (fr M M2 (f + 1) 12) → (isMem (M2 (f + 9)) s (oF T) (rkN s (oF T))) → (∀ a, good T C s m a → (tg : Int) ≤ smN a (rkN s (oF T))) → AW E mX2_leastHoney G 0 0 66 [vR f, vI s, vI m, vI (rkN s (oF T)), vI tg] [] M2 := by
          intro k
          induction k using Nat.strongRecOn with
          | ind k2 ih2 =>
            intro tg M2 hk ht hf2 hM2 hx
            have rT2 : rT M2 t T := rT_fr hrT hf2 (by omega)
            have rC2 : rC M2 n T C := rC_fr hrC hf2 (by omega)
            have s0 : smN (fun _ => (0 : Int)) 0 = 0 := rfl
            refine A_iload dX2_leastHoney_66 rfl ?_
            refine A_iload_n dX2_leastHoney_68 rfl ?_
            refine A_bipush dX2_leastHoney_69 bp_9 (by decide) ?_
            refine A_imul dX2_leastHoney_71 ⟨by omega, by omega⟩ ?_
            refine A_icmp_gt (tgt := 97) dX2_leastHoney_72 (by decide) (fun h72 => ?_) (fun h72 => ?_)
            · skip
              refine A_iconst dX2_leastHoney_97 (by decide) ?_
              exact A_iret hR dX2_leastHoney_98 rfl ⟨_, rfl, hf2, Or.inl ⟨rfl, fun a ha => by
          have h1 := hx a ha
          have h2 := (sm_split (k := 0) (rkN s (oF T)) (by omega) (good_d hM2 hwC ha)).2
          have e : smN a 0 = 0 := rfl
          omega⟩⟩
            · skip
              refine A_aload_n dX2_leastHoney_75 rfl ?_
              refine A_iload dX2_leastHoney_76 rfl ?_
              refine A_iconst dX2_leastHoney_78 (by decide) ?_
              refine A_iload_n dX2_leastHoney_79 rfl ?_
              refine A_iload_n dX2_leastHoney_80 rfl ?_
              refine A_iload_n dX2_leastHoney_81 rfl ?_
              refine A_vI5 (mj := mX2_spreads) dX2_leastHoney_82 hR.rm (by omega) ok_X2_spreads mv_X2_spreads ml_RX2_63 (by assumption) rfl rfl rfl (c_spreads (d := rkN s (oF T)) (place := 0) (left := tg) (sh := fun _ => 0) hF hT hN hd1 hd2 hwT hwC hG hs4 rfl hs hm hun (by omega) rT2 rC2 hM2 (fun p a b => by omega) (fun g a b c => by omega) (by omega) (by omega) (fun e => by omega)) (fun z82 M82 g82 k82 q82 => ?_)
              obtain ⟨f82, -, z0, zT, zF⟩ := q82
              have f82b : fr M M82 (f + 1) 12 := fun y hy => by rw [f82 y (by omega) (by omega)]; exact hf2 y hy
              refine A_if_eq (tgt := 91) dX2_leastHoney_85 (by decide) (fun h85 => ?_) (fun h85 => ?_)
              · skip
                refine A_iinc dX2_leastHoney_91 (by decide) rfl rfl ⟨by omega, by omega⟩ ?_
                refine A_goto (tgt := 66) dX2_leastHoney_94 (by decide) ?_
                refine ih2 _ ?_ (tg + 1) M82 rfl (by omega) f82b (by rw [f82 _ (by omega) (by omega)]; exact hM2) (fun a ha => ?_)
                · omega
                · have h1 := hx a ha
                  have h2 := zF h85 a (fun p x y => by omega) ha
                  omega
              · skip
                refine A_iload dX2_leastHoney_88 rfl ?_
                exact A_iret hR dX2_leastHoney_90 rfl ⟨_, rfl, f82b, Or.inr ⟨by omega, by
          obtain ⟨a, a1, a2, a3, a4, a5⟩ := zT (by omega)
          refine ⟨a, a1, a3, by omega, fun b hb => ⟨hx b hb, fun e => a5 b (fun p x y => by omega) hb (by omega)⟩⟩⟩⟩
        exact lq _ 0 M1 rfl (by omega) (fun y hy => hf y (by omega) (by omega)) hM (fun a ha => by have := (sm_split (k := 0) (rkN s (oF T)) (by omega) (good_d hM hwC ha)).1; have e : smN a 0 = 0 := rfl; omega)
      · skip
        refine A_iload_n dX2_leastHoney_17 rfl ?_
        refine A_iload dX2_leastHoney_18 rfl ?_
        refine A_ishr (z := ((s / 2 ^ i : Nat) : Int)) dX2_leastHoney_20 (b_shr s s64 i (by omega)) (rng64 (Nat.lt_of_le_of_lt (Nat.div_le_self _ _) s64)) ?_
        refine A_iconst dX2_leastHoney_21 (by decide) ?_
        refine A_iand (z := ((s / 2 ^ i % 2 : Nat) : Int)) dX2_leastHoney_22 (b_a1 _) (rng64 (by omega)) ?_
        refine A_if_eq (tgt := 57) dX2_leastHoney_23 (by decide) (fun h23 => ?_) (fun h23 => ?_)
        · skip
          have nb : ¬ s.testBit i = true := (tb_iff s i).mp (by omega)
          refine A_iinc dX2_leastHoney_57 (by decide) rfl rfl ⟨by omega, by omega⟩ ?_
          refine A_goto (tgt := 5) dX2_leastHoney_60 (by decide) ?_
          have e : rkN s (i + 1) = rkN s i := by rw [rkN, if_neg nb]; omega
          have h := ih (oF T - (i + 1)) (by omega) (i + 1) M1 rfl (by omega) hf (fun p a b => by
            rw [e] at b
            obtain ⟨g, g1, g2, g3⟩ := hM p a b
            exact ⟨g, g1, by omega, g3⟩)
          rw [e] at h
          exact h
        · skip
          have yb : s.testBit i = true := Classical.byContradiction fun x => h23 (by have := (tb_iff s i).mpr x; omega)
          have rl := rkN_lt (b := oF T) (by omega) yb
          have e : rkN s (i + 1) = rkN s i + 1 := by rw [rkN, if_pos yb]
          refine A_iload_n dX2_leastHoney_26 rfl ?_
          refine A_iconst dX2_leastHoney_27 (by decide) ?_
          refine A_icmp_lt (tgt := 34) dX2_leastHoney_28 (by decide) (fun h28 => ?_) (fun h28 => ?_)
          · skip
            refine A_aload_n dX2_leastHoney_34 rfl ?_
            refine A_iload dX2_leastHoney_35 rfl ?_
            refine A_iload_n dX2_leastHoney_37 rfl ?_
            refine A_vI2 (mj := mX2_mayBeInTime) dX2_leastHoney_38 hR.rm (by omega) ok_X2_mayBeInTime mv_X2_mayBeInTime ml_RX2_59 (by assumption) rfl rfl rfl (c_mayBe (g := i) (m := m) hF hT hN hd1 hd2 rT1 rC1 hwT hwC hG (by omega) hm) (fun z38 M38 g38 k38 q38 => ?_)
            obtain ⟨q38a, z0, q38b⟩ := q38
            refine A_if_ne (tgt := 46) dX2_leastHoney_41 (by decide) (fun h41 => ?_) (fun h41 => ?_)
            · skip
              refine A_aload_n dX2_leastHoney_46 rfl ?_
              refine A_getR dX2_leastHoney_47 fl_RX2_18 (by assumption) (by rfl) ?_
              refine A_iload_n dX2_leastHoney_50 rfl ?_
              refine A_iinc dX2_leastHoney_51 (by decide) rfl rfl ⟨by omega, by omega⟩ ?_
              refine A_iload dX2_leastHoney_54 rfl ?_
              refine A_iast dX2_leastHoney_56 (by assumption) (by omega) (by omega) (fun M56 e56 k56 => ?_)
              refine A_iinc dX2_leastHoney_57 (by decide) rfl rfl ⟨by omega, by omega⟩ ?_
              refine A_goto (tgt := 5) dX2_leastHoney_60 (by decide) ?_
              have h := ih (oF T - (i + 1)) (by omega) (i + 1) M56 rfl (by omega) (fun y y1 y2 => by rw [e56, upm_c y1, q38a y (by omega)]; exact hf y y1 y2) (fun p a b => by
                rw [e] at b
                rw [e56, upm_x, q38a _ (by omega)]
                by_cases q : p = rkN s i
                · rw [if_pos ⟨rfl, q⟩]
                  exact ⟨i, rfl, by omega, yb, by omega⟩
                · rw [if_neg (fun z => q z.2)]
                  obtain ⟨g, g1, g2, g3⟩ := hM p a (by omega)
                  exact ⟨g, g1, by omega, g3⟩)
              rw [e] at h
              exact h
            · skip
              refine A_iconst dX2_leastHoney_44 (by decide) ?_
              exact A_iret hR dX2_leastHoney_45 rfl ⟨_, rfl, fun y hy => by rw [q38a y (by omega)]; exact hf y (by omega) (by omega), Or.inl ⟨rfl, fun a ha => by
          have r := ha.2 i (by omega) yb
          have hw := hC_w (s := s) (sh := a) hwC (fun g x y => ha.1 g x y)
          have u : csF (hC C s a) i = -1 := hun i (by omega) yb
          have lt := late_it (T := T) (C := hC C s a) (f := (i : Int)) hw.1.1 (by omega) u m r
          have en := end_it (T := T) (C := hC C s a) (f := (i : Int)) (by omega) u m r
          have wy := way_it (C := C) hwT hw rfl (f := (i : Int)) (by omega) (by omega) m
          rw [en] at wy
          have wW : csW (hC C s a) = csW C := rfl
          rw [wW] at lt wy
          exact q38b h41 (m - (csW C).toNat) (by omega) wy⟩⟩
          · skip
            omega
  exact lp _ 0 M rfl (by omega) (fun y _ _ => rfl) (fun p a b => by have : rkN s 0 = 0 := rfl; omega)

/-- with another scent of one trail -/
def ssc (C : CS) (j v : Int) : CS := (csW C, csG C, csQ C, fun k => if k = j then v else csS C k, csA C, csSw C, csC C, csF C)
theorem ssc_w {T : TD} {C : CS} {j v : Int} (h : wC T C) (h0 : 0 ≤ v) (h1 : v ≤ 99) : wC T (ssc C j v) := by
  obtain ⟨a, b, c⟩ := h
  refine ⟨a, fun k x y => ?_, c⟩
  have q := b k x y
  show 0 ≤ (if k = j then v else csS C k) ∧ (if k = j then v else csS C k) ≤ 99
  split
  · exact ⟨h0, h1⟩
  · exact q
/-- the minute of filing by the v-th smear -/
def wsm (T : TD) (C : CS) (g : Int) (m v : Nat) : Int := csF (itC T (ssc C ((v / 100 : Nat) : Int) ((v % 100 : Nat) : Int)) m) g
/-- the best of the first smears -/
def bsm (T : TD) (C : CS) (g : Int) (m : Nat) : Nat → Int
  | 0 => -1
  | v + 1 => if wsm T C g m v ≠ -1 ∧ (bsm T C g m v = -1 ∨ wsm T C g m v < wsm T C g m (bsm T C g m v).toNat) then v else bsm T C g m v
theorem bsm_r (T : TD) (C : CS) (g : Int) (m : Nat) : ∀ v : Nat, -1 ≤ bsm T C g m v ∧ bsm T C g m v < v ∧ (bsm T C g m v ≠ -1 → wsm T C g m (bsm T C g m v).toNat ≠ -1)
  | 0 => by unfold bsm; exact ⟨by omega, by omega, fun h => absurd rfl h⟩
  | v + 1 => by
    have ih := bsm_r T C g m v
    unfold bsm
    split
    · rename_i q; exact ⟨by omega, by omega, fun _ => by rw [show ((v : Int)).toNat = v by omega]; exact q.1⟩
    · exact ⟨ih.1, by omega, ih.2.2⟩
theorem wsm_g {T : TD} {C : CS} (hT : wT T) (hC : wC T C) {g : Int} (h0 : 0 ≤ g) (h : csF C g = -1) (m v : Nat) (hx : wsm T C g m v ≠ -1) : csG C ≤ wsm T C g m v ∧ wsm T C g m v < csG C + m ∧ ∀ n : Nat, (csF (itC T (ssc C ((v / 100 : Nat) : Int) ((v % 100 : Nat) : Int)) n) g ≠ -1 ↔ wsm T C g m v < csG C + n) :=
  when_it hT (ssc_w hC (by omega) (by omega)) h0 h m hx
/-- none is better than one that is filed at once -/
theorem bsm_end {T : TD} {C : CS} (hT : wT T) (hC : wC T C) {g : Int} (h0 : 0 ≤ g) (h : csF C g = -1) (m : Nat) {v : Nat} (hb : bsm T C g m v ≠ -1) (hw : wsm T C g m (bsm T C g m v).toNat ≤ csG C) : ∀ n : Nat, bsm T C g m (v + n) = bsm T C g m v
  | 0 => rfl
  | n + 1 => by
    have ih := bsm_end hT hC h0 h m hb hw n
    show bsm T C g m (v + n + 1) = _
    rw [bsm, if_neg, ih]
    rintro ⟨q1, q2⟩
    have := (wsm_g hT hC h0 h m (v + n) q1).1
    rw [ih] at q2
    omega
/-- the row of the best smear -/
def smr (T : TD) (C : CS) (g : Int) (m v : Nat) (S : Fn) : Prop := (bsm T C g m v = -1 → S 0 = -1 ∧ S 1 = -1 ∧ S 2 = -1) ∧ (bsm T C g m v ≠ -1 → S 0 = wsm T C g m (bsm T C g m v).toNat ∧ S 1 = bsm T C g m v / 100 ∧ S 2 = bsm T C g m v % 100)
set_option maxRecDepth 100000 in
set_option maxHeartbeats 4000000 in
theorem c_findSmear {E : EN} {l : Launch} {M : Mem} {f t n : Nat} {T : TD} {C : CS}{g m : Nat}(hF : isFor E f t n) (hT : isTold E t) (hN : isCrs E n) (hd1 : t + 8 ≤ n) (hd2 : n + 8 ≤ f) (hrT : rT M t T) (hrC : rC M n T C) (hwT : wT T) (hwC : wC T C) (hG : csG C ≤ 9999)(hg : g < oF T) (hm0 : 1 ≤ m) (hm : m ≤ 99) (hun : csF C g = -1) : Cn E l mX2_findSmear 5 [vR f, vI g, vI m] M (fun r M1 => r = vU ∧ (fr M M1 (f + 1) 11 ∧ smr T C g m (100 * oT T) (M1 (f + 11)))) := by
  refine Cn.of (by decide) rfl (Nat.le_of_ble_eq_true rfl) 3 rfl (fun oka okm G hR => ?_)
  obtain ⟨aF0, hTr, aF9, aF10, aF11, aF12⟩ := id hF
  have cT := crs_at hTr
  have cN := crs_at hN
  have tD := told_at hT
  obtain ⟨cT0, cT1, cT2, cT3, cT4, cT5, cT6, cT7⟩ := id hTr
  obtain ⟨cN0, cN1, cN2, cN3, cN4, cN5, cN6, cN7⟩ := id hN
  obtain ⟨aT0, aT1, aT2, aT3, aT4, aT5, aT6, aT7⟩ := id hT
  obtain ⟨⟨t0, t1, t2, t3, t4⟩, tk, tt, tf⟩ := id hrT
  obtain ⟨⟨c0, c1, c2, c3⟩, cs, cf⟩ := id hrC
  obtain ⟨wt0, wtk, wtt, wtf⟩ := id hwT
  obtain ⟨wc0, wcs, wcf⟩ := id hwC
  refine A_aload_n dX2_findSmear_0 rfl ?_
  refine A_getR dX2_findSmear_1 fl_RX2_25 (by assumption) (by rfl) ?_
  refine A_iconst dX2_findSmear_4 (by decide) ?_
  refine A_sV2 (mj := mJ7_fill_53178) dX2_findSmear_5 hR.rm (by decide) ok_J7_fill_53178 st_J7_fill_53178 ml_RX2_96 rfl (c_fill (n := 3) aF11 (by omega)) (fun M5 k5 q5 => ?_)
  refine A_iload_n dX2_findSmear_8 rfl ?_
  refine A_istore_n dX2_findSmear_9 (by decide) rfl ?_
  refine A_iconst dX2_findSmear_10 (by decide) ?_
  refine A_istore dX2_findSmear_11 (by decide) rfl ?_
  have lp : ∀ (k : Nat) (j : Nat) (w : Int) (M1 : Mem) (x5 : AV), oT T - j = k → (j ≤ oT T) → (fr M M1 (f + 1) 11) → ((bsm T C g m (100 * j) = -1 → w = m) ∧ (bsm T C g m (100 * j) ≠ -1 → w = wsm T C g m (bsm T C g m (100 * j)).toNat - csG C)) → (smr T C g m (100 * j) (M1 (f + 11))) → AW E mX2_findSmear G 0 0 13 [vR f, vI g, vI m, vI w, vI j, x5] [] M1 := by
    intro k
    induction k using Nat.strongRecOn with
    | ind k ih =>
      intro j w M1 x5 hk h0 hf hw hx
      have rT1 : rT M1 t T := rT_fr hrT hf (by omega)
      refine A_iload dX2_findSmear_13 rfl ?_
      refine A_aload_n dX2_findSmear_15 rfl ?_
      refine A_getR dX2_findSmear_16 fl_RX2_31 (by assumption) (by rfl) ?_
      refine A_getI (ki := 1) dX2_findSmear_19 fl_RX2_102 (by assumption) (by rfl) rfl ?_
      rw [rT1.1.2.1]
      refine A_icmp_ge (tgt := 144) dX2_findSmear_22 (by decide) (fun h22 => ?_) (fun h22 => ?_)
      · skip
        have hi : j = oT T := by omega
        subst hi
        exact A_vret hR dX2_findSmear_144 rfl ⟨rfl, hf, hx⟩
      · skip
        refine A_iconst dX2_findSmear_25 (by decide) ?_
        refine A_istore dX2_findSmear_26 (by decide) rfl ?_
        have lq : ∀ (k : Nat) (v : Nat) (w : Int) (M2 : Mem), 100 - v = k → (v ≤ 100) → (fr M M2 (f + 1) 11) → ((bsm T C g m (100 * j + v) = -1 → w = m) ∧ (bsm T C g m (100 * j + v) ≠ -1 → w = wsm T C g m (bsm T C g m (100 * j + v)).toNat - csG C)) → (smr T C g m (100 * j + v) (M2 (f + 11))) → AW E mX2_findSmear G 0 0 28 [vR f, vI g, vI m, vI w, vI j, vI v] [] M2 := by
          intro k
          induction k using Nat.strongRecOn with
          | ind k2 ih2 =>
            intro v w M2 hk hv hf2 hw1 hx1
            have rT2 : rT M2 t T := rT_fr hrT hf2 (by omega)
            have rC2 : rC M2 n T C := rC_fr hrC hf2 (by omega)
            refine A_iload dX2_findSmear_28 rfl ?_
            refine A_bipush dX2_findSmear_30 bp_99 (by decide) ?_
            refine A_icmp_gt (tgt := 138) dX2_findSmear_32 (by decide) (fun h32 => ?_) (fun h32 => ?_)
            · skip
              have hi : v = 100 := by omega
              subst hi
              refine A_iinc dX2_findSmear_138 (by decide) rfl rfl ⟨by omega, by omega⟩ ?_
              refine A_goto (tgt := 13) dX2_findSmear_141 (by decide) ?_
              exact ih _ (by omega) (j + 1) w M2 _ rfl (by omega) hf2 hw1 hx1
            · skip
              refine A_iload_n dX2_findSmear_35 rfl ?_
              skip
              refine A_if_le (tgt := 138) dX2_findSmear_36 (by decide) (fun h36 => ?_) (fun h36 => ?_)
              · skip
                have bn : bsm T C g m (100 * j + v) ≠ -1 := fun q => by have := hw1.1 q; omega
                have bw := hw1.2 bn
                have be := bsm_end hwT hwC (g := (g : Int)) (by omega) hun m bn (by omega) (100 - v)
                rw [show 100 * j + v + (100 - v) = 100 * (j + 1) by omega] at be
                refine A_iinc dX2_findSmear_138 (by decide) rfl rfl ⟨by omega, by omega⟩ ?_
                refine A_goto (tgt := 13) dX2_findSmear_141 (by decide) ?_
                refine ih _ (by omega) (j + 1) w M2 _ rfl (by omega) hf2 ?_ ?_
                · rw [be]; exact hw1
                · unfold smr at hx1 ⊢; rw [be]; exact hx1
              · skip
                refine A_aload_n dX2_findSmear_39 rfl ?_
                refine A_getR dX2_findSmear_40 fl_RX2_12 (by assumption) (by rfl) ?_
                refine A_aload_n dX2_findSmear_43 rfl ?_
                refine A_getR dX2_findSmear_44 fl_RX2_35 (by assumption) (by rfl) ?_
                refine A_vV1 (mj := mX0_takeFrom) dX2_findSmear_47 hR.rm (by decide) ok_X0_takeFrom mv_X0_takeFrom ml_RX2_38 (by assumption) rfl rfl rfl (c_takeC hTr hN (by omega)) (fun M47 k47 q47 => ?_)
                obtain ⟨q47a, q47b, q47c, q47d⟩ := q47
                have rT47 : rT M47 t T := rT_fr rT2 q47a (by omega)
                have rC47 : rC M47 (f + 1) T C := rC_cp rC2 q47b q47c q47d hwT
                refine A_aload_n dX2_findSmear_50 rfl ?_
                refine A_getR dX2_findSmear_51 fl_RX2_12 (by assumption) (by rfl) ?_
                refine A_getR dX2_findSmear_54 fl_RX2_105 (by assumption) (by rfl) ?_
                refine A_iload dX2_findSmear_57 rfl ?_
                refine A_iload dX2_findSmear_59 rfl ?_
                refine A_iast dX2_findSmear_61 (by assumption) (by omega) (by omega) (fun M61 e61 k61 => ?_)
                have f61 : fr M47 M61 (f + 1) 8 := fun y hy => by rw [e61, upm_c (by omega)]
                have rT61 : rT M61 t T := rT_fr rT47 f61 (by omega)
                have rC61 : rC M61 (f + 1) T (ssc C j v) := by
                  obtain ⟨⟨a, b, c, d⟩, x, y⟩ := rC47
                  refine ⟨⟨by rw [e61, upm_c (by omega)]; exact a, by rw [e61, upm_c (by omega)]; exact b, by rw [e61, upm_c (by omega)]; exact c, by rw [e61, upm_c (by omega)]; exact d⟩, fun k z w => ?_, fun k z w => by rw [e61, upm_c (by omega), upm_c (by omega), upm_c (by omega), upm_c (by omega)]; exact y k z w⟩
                  rw [e61, show f + 2 = f + 1 + 1 from rfl, upm_x]
                  show _ = if k = j then (v : Int) else csS C k
                  by_cases hk : k = j
                  · rw [if_pos ⟨rfl, hk⟩, if_pos hk]
                  · rw [if_neg (fun z => hk z.2), if_neg hk]; exact x k z w
                have ew : w = ((w.toNat : Nat) : Int) := by omega
                refine A_aload_n dX2_findSmear_62 rfl ?_
                refine A_getR dX2_findSmear_63 fl_RX2_12 (by assumption) (by rfl) ?_
                refine A_aload_n dX2_findSmear_66 rfl ?_
                refine A_getR dX2_findSmear_67 fl_RX2_31 (by assumption) (by rfl) ?_
                refine A_iconst dX2_findSmear_70 (by decide) ?_
                refine A_iload_n dX2_findSmear_71 rfl ?_
                refine A_ishl (z := ((2 ^ g : Nat) : Int)) dX2_findSmear_72 (b_shl g (by omega)) (rng_p2 (by omega)) ?_
                refine A_iload_n dX2_findSmear_73 rfl ?_
                have ejv : ssc C (((100 * j + v) / 100 : Nat) : Int) (((100 * j + v) % 100 : Nat) : Int) = ssc C j v := by
                  rw [show (100 * j + v) / 100 = j by omega, show (100 * j + v) % 100 = v by omega]
                have wr := wsm_g hwT hwC (g := (g : Int)) (by omega) hun m (100 * j + v)
                rw [ejv] at wr
                have bw : bsm T C g m (100 * j + v) ≠ -1 → csG C ≤ wsm T C g m (bsm T C g m (100 * j + v)).toNat ∧ wsm T C g m (bsm T C g m (100 * j + v)).toNat < csG C + m := fun q => by
                  have := wsm_g hwT hwC (g := (g : Int)) (by omega) hun m _ ((bsm_r T C g m (100 * j + v)).2.2 q)
                  exact ⟨this.1, this.2.1⟩
                have wdef : wsm T C g m (100 * j + v) = csF (itC T (ssc C j v) m) g := by unfold wsm; rw [ejv]
                have wle : w ≤ m := by
                  by_cases q : bsm T C g m (100 * j + v) = -1
                  · have := hw1.1 q; omega
                  · have := hw1.2 q; have := bw q; omega
                have cru {l : Launch} := c_runUntil (l := l) (C := ssc C j v) (s := 2 ^ g) (n := w.toNat) hTr hT (by omega) rT61 rC61 hwT (ssc_w hwC (by omega) (by omega)) (by show csG C < 100000; omega) (by omega) (Nat.pow_lt_pow_right (by omega) hg)
                rw [← ew] at cru
                refine A_vI3 (mj := mX0_runUntilFiled) dX2_findSmear_74 hR.rm (by decide) ok_X0_runUntilFiled mv_X0_runUntilFiled ml_RX2_46 (by assumption) rfl rfl rfl (cru) (fun z74 M74 g74 k74 q74 => ?_)
                obtain ⟨q74a, z0, hu⟩ := q74
                have f74 : ∀ y, (y < f + 1 ∨ f + 9 ≤ y) → M74 y = M2 y := fun y hy => by rw [q74a y (by omega), f61 y (by omega), q47a y (by omega)]
                obtain ⟨jj, hjj, rCj, keq, kz⟩ := hu
                have keq := keq g hg Nat.testBit_two_pow_self
                have kz1 : z74 = 1 ↔ csF (itC T (ssc C j v) w.toNat) g ≠ -1 := by
                  rw [kz]
                  constructor
                  · exact fun h => h g hg Nat.testBit_two_pow_self
                  · intro h x y z
                    have e : g = x := by
                      rw [Nat.testBit_two_pow] at z
                      exact of_decide_eq_true z
                    rw [← e]; exact h
                have lat : csF (itC T (ssc C j v) w.toNat) g ≠ -1 → csF (itC T (ssc C j v) m) g = csF (itC T (ssc C j v) w.toNat) g := fun q => it_later (T := T) (C := ssc C j v) (f := (g : Int)) (by omega) (by omega) q
                refine A_if_ne (tgt := 83) dX2_findSmear_77 (by decide) (fun h77 => ?_) (fun h77 => ?_)
                · skip
                  have vn : csF (itC T (ssc C j v) w.toNat) g ≠ -1 := kz1.mp (by omega)
                  have vw := (lat vn).symm
                  have rf5 : M74 (f + 6) g = csF (itC T (ssc C j v) w.toNat) g := (rCj.2.2 g (by omega) (by omega)).2.2.2.trans keq
                  refine A_aload_n dX2_findSmear_83 rfl ?_
                  refine A_getR dX2_findSmear_84 fl_RX2_25 (by assumption) (by rfl) ?_
                  refine A_iconst dX2_findSmear_87 (by decide) ?_
                  refine A_aload_n dX2_findSmear_88 rfl ?_
                  refine A_getR dX2_findSmear_89 fl_RX2_12 (by assumption) (by rfl) ?_
                  refine A_getR dX2_findSmear_92 fl_RX2_50 (by assumption) (by rfl) ?_
                  refine A_iload_n dX2_findSmear_95 rfl ?_
                  refine A_iald dX2_findSmear_96 (by assumption) (by omega) (by omega) ?_
                  rw [rf5]
                  refine A_iast dX2_findSmear_97 (by assumption) (by omega) (by omega) (fun M97 e97 k97 => ?_)
                  refine A_aload_n dX2_findSmear_98 rfl ?_
                  refine A_getR dX2_findSmear_99 fl_RX2_25 (by assumption) (by rfl) ?_
                  refine A_iconst dX2_findSmear_102 (by decide) ?_
                  refine A_iload dX2_findSmear_103 rfl ?_
                  refine A_iast dX2_findSmear_105 (by assumption) (by omega) (by omega) (fun M105 e105 k105 => ?_)
                  refine A_aload_n dX2_findSmear_106 rfl ?_
                  refine A_getR dX2_findSmear_107 fl_RX2_25 (by assumption) (by rfl) ?_
                  refine A_iconst dX2_findSmear_110 (by decide) ?_
                  refine A_iload dX2_findSmear_111 rfl ?_
                  refine A_iast dX2_findSmear_113 (by assumption) (by omega) (by omega) (fun M113 e113 k113 => ?_)
                  refine A_aload_n dX2_findSmear_114 rfl ?_
                  refine A_getR dX2_findSmear_115 fl_RX2_12 (by assumption) (by rfl) ?_
                  refine A_getR dX2_findSmear_118 fl_RX2_50 (by assumption) (by rfl) ?_
                  refine A_iload_n dX2_findSmear_121 rfl ?_
                  refine A_iald dX2_findSmear_122 (by assumption) (by omega) (by omega) ?_
                  rw [show M113 (f + 6) g = csF (itC T (ssc C j v) w.toNat) g by rw [e113, upm_c (by omega), e105, upm_c (by omega), e97, upm_c (by omega)]; exact rf5]
                  refine A_aload_n dX2_findSmear_123 rfl ?_
                  refine A_getR dX2_findSmear_124 fl_RX2_35 (by assumption) (by rfl) ?_
                  refine A_getI (ki := 1) dX2_findSmear_127 fl_RX2_108 (by assumption) (by rfl) rfl ?_
                  rw [show M113 n 1 = csG C by rw [e113, upm_c (by omega), e105, upm_c (by omega), e97, upm_c (by omega), f74 n (by omega)]; exact rC2.1.2.1]
                  have e113' := e113
                  have wr2 := (wr (by rw [wdef, ← vw]; exact vn))
                  rw [wdef, ← vw] at wr2
                  refine A_isub dX2_findSmear_130 ⟨by omega, by omega⟩ ?_
                  refine A_istore_n dX2_findSmear_131 (by decide) rfl ?_
                  refine A_iinc dX2_findSmear_132 (by decide) rfl rfl ⟨by omega, by omega⟩ ?_
                  refine A_goto (tgt := 28) dX2_findSmear_135 (by decide) ?_
                  have new : bsm T C g m (100 * j + (v + 1)) = ((100 * j + v : Nat) : Int) := by
                    show bsm T C g m (100 * j + v + 1) = _
                    rw [bsm, if_pos]
                    refine ⟨by rw [wdef, ← vw]; exact vn, ?_⟩
                    by_cases q : bsm T C g m (100 * j + v) = -1
                    · exact Or.inl q
                    · right
                      have := hw1.2 q
                      have w3 := (wr (by rw [wdef, ← vw]; exact vn)).2.2 w.toNat
                      have := w3.mp (kz1.mp (by omega))
                      omega
                  have e113 : ∀ y, y ≠ f + 11 → M113 y = M74 y := fun y hy => by rw [e113, upm_c hy, e105, upm_c hy, e97, upm_c hy]
                  have wv : wsm T C g m (100 * j + v) = csF (itC T (ssc C j v) w.toNat) g := by rw [wdef, ← vw]
                  refine ih2 _ (by omega) (v + 1) _ M113 rfl (by omega) (fun y hy => by rw [e113 y (by omega), f74 y (by omega)]; exact hf2 y hy) ⟨fun q => by rw [new] at q; omega, fun _ => by rw [new, show ((100 * j + v : Nat) : Int).toNat = 100 * j + v by omega, wv]⟩ ⟨fun q => by rw [new] at q; omega, fun _ => ?_⟩
                  rw [new, show ((100 * j + v : Nat) : Int).toNat = 100 * j + v by omega, wv]
                  refine ⟨?_, ?_, ?_⟩
                  · rw [e113', upm_k (by omega), e105, upm_k (by omega), e97, upm_s]
                  · rw [e113', upm_k (by omega), e105, upm_s]; omega
                  · rw [e113', upm_s]; omega
                · skip
                  refine A_goto (tgt := 132) dX2_findSmear_80 (by decide) ?_
                  refine A_iinc dX2_findSmear_132 (by decide) rfl rfl ⟨by omega, by omega⟩ ?_
                  refine A_goto (tgt := 28) dX2_findSmear_135 (by decide) ?_
                  have same : bsm T C g m (100 * j + (v + 1)) = bsm T C g m (100 * j + v) := by
                    show bsm T C g m (100 * j + v + 1) = _
                    rw [bsm, if_neg]
                    rintro ⟨p1, p2⟩
                    have w3 := wr p1
                    have w4 : ¬ csF (itC T (ssc C j v) w.toNat) g ≠ -1 := fun h => by have := kz1.mpr h; omega
                    rw [w3.2.2 w.toNat] at w4
                    rcases p2 with p2 | p2
                    · have := hw1.1 p2; omega
                    · by_cases q : bsm T C g m (100 * j + v) = -1
                      · have := hw1.1 q; omega
                      · have := hw1.2 q; omega
                  refine ih2 _ (by omega) (v + 1) w M74 rfl (by omega) (fun y hy => by rw [f74 y (by omega)]; exact hf2 y hy) ?_ ?_
                  · rw [same]; exact hw1
                  · unfold smr at hx1 ⊢; rw [same, f74 _ (by omega)]; exact hx1
        exact lq _ 0 w M1 rfl (by omega) hf hw hx
  exact lp _ 0 m M5 vU rfl (by omega) (fun y hy => by rw [q5, flm_o (by omega)]) ⟨fun _ => rfl, fun q => absurd rfl q⟩ ⟨fun _ => by rw [q5]; exact ⟨flm_i (by omega) (by omega), flm_i (by omega) (by omega), flm_i (by omega) (by omega)⟩, fun q => absurd rfl q⟩

