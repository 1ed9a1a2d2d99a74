/-! FORESIGHT: stamps, the fewest trails, smears -/
set_option maxRecDepth 100000 in
set_option maxHeartbeats 4000000 in
theorem c_stampsBy {E : EN} {l : Launch} {M : Mem} {f t n s cn : Nat} {T : TD} {C : CS} {fl dk mn : Fn} {g : Nat}(hF : isFor E f t n) (hT : isTold E t) (hN : isCrs E n) (hd1 : t + 8 ≤ n) (hd2 : n + 8 ≤ f) (hrT : rT M t T) (hrC : rC M n T C) (hwT : wT T) (hwC : wC T C) (hG : csG C ≤ 9999)(hSg : isSgt E s) (hd3 : f + 13 ≤ s) (hrS : rS M s cn fl dk mn) (hm : ∀ k : Int, 0 ≤ k → k < cn → 0 ≤ mn k ∧ mn k ≤ 99) (hg : g < oF T) : Cn E l mX2_stampsBy 6 [vR f, vR s, vI g] M (fun r M1 => ∃ z, r = vI z ∧ (fr M M1 (f + 1) 8 ∧ ∃ b : Nat, z = b ∧ isSt T fl dk mn cn g 10 b)) := by
  refine Cn.of (by decide) rfl (Nat.le_of_ble_eq_true rfl) 2 rfl (fun oka okm G hR => ?_)
  obtain ⟨aF0, hTr, aF9, aF10, aF11, aF12⟩ := id hF
  have cT := crs_at hTr
  have cN := crs_at hN
  have tD := told_at hT
  obtain ⟨cT0, cT1, cT2, cT3, cT4, cT5, cT6, cT7⟩ := id hTr
  obtain ⟨cN0, cN1, cN2, cN3, cN4, cN5, cN6, cN7⟩ := id hN
  obtain ⟨aT0, aT1, aT2, aT3, aT4, aT5, aT6, aT7⟩ := id hT
  obtain ⟨⟨t0, t1, t2, t3, t4⟩, tk, tt, tf⟩ := id hrT
  obtain ⟨⟨c0, c1, c2, c3⟩, cs, cf⟩ := id hrC
  obtain ⟨wt0, wtk, wtt, wtf⟩ := id hwT
  obtain ⟨wc0, wcs, wcf⟩ := id hwC
  refine A_iconst dX2_stampsBy_0 (by decide) ?_
  refine A_istore_n dX2_stampsBy_1 (by decide) rfl ?_
  refine A_iconst dX2_stampsBy_2 (by decide) ?_
  refine A_istore dX2_stampsBy_3 (by decide) rfl ?_
  have lp : ∀ (k : Nat) (v : Nat) (b : Nat) (M1 : Mem), 10 - v = k → (v ≤ 10) → (fr M M1 (f + 1) 8) → (isSt T fl dk mn cn g v b) → AW E mX2_stampsBy G 0 0 5 [vR f, vR s, vI g, vI b, vI v] [] M1 := by
    intro k
    induction k using Nat.strongRecOn with
    | ind k ih =>
      intro v b M1 hk h0 hf hx
      have rT1 : rT M1 t T := rT_fr hrT hf (by omega)
      have rS1 : rS M1 s cn fl dk mn := rS_fr hrS (fun y p q => hf y (by omega))
      refine A_iload dX2_stampsBy_5 rfl ?_
      refine A_bipush dX2_stampsBy_7 bp_9 (by decide) ?_
      refine A_icmp_gt (tgt := 56) dX2_stampsBy_9 (by decide) (fun h9 => ?_) (fun h9 => ?_)
      · skip
        have hi : v = 10 := by omega
        subst hi
        refine A_iload_n dX2_stampsBy_56 rfl ?_
        exact A_iret hR dX2_stampsBy_57 rfl ⟨_, rfl, hf, _, rfl, hx⟩
      · skip
        refine A_aload_n dX2_stampsBy_12 rfl ?_
        refine A_getR dX2_stampsBy_13 fl_RX2_12 (by assumption) (by rfl) ?_
        refine A_aload_n dX2_stampsBy_16 rfl ?_
        refine A_getR dX2_stampsBy_17 fl_RX2_31 (by assumption) (by rfl) ?_
        refine A_vV1 (mj := mX0_begin) dX2_stampsBy_20 hR.rm (by decide) ok_X0_begin mv_X0_begin ml_RX2_143 (by assumption) rfl rfl rfl (c_begin hTr hT (by omega) rT1 hwT) (fun M20 k20 q20 => ?_)
        obtain ⟨q20a, q20b⟩ := q20
        have rT20 : rT M20 t T := rT_fr rT1 q20a (by omega)
        refine A_aload_n dX2_stampsBy_23 rfl ?_
        refine A_getR dX2_stampsBy_24 fl_RX2_12 (by assumption) (by rfl) ?_
        refine A_getR dX2_stampsBy_27 fl_RX2_84 (by assumption) (by rfl) ?_
        refine A_iload_n dX2_stampsBy_30 rfl ?_
        refine A_iload dX2_stampsBy_31 rfl ?_
        refine A_iast dX2_stampsBy_33 (by assumption) (by omega) (by omega) (fun M33 e33 k33 => ?_)
        have f33 : fr M20 M33 (f + 1) 8 := fun y hy => by rw [e33, upm_c (by omega)]
        have rT33 : rT M33 t T := rT_fr rT20 f33 (by omega)
        have rS33 : rS M33 s cn fl dk mn := rS_fr rS1 (fun y p q => by rw [f33 y (by omega)]; exact q20a y (by omega))
        have rC33 : rC M33 (f + 1) T (sws (bgC T) g v) := by
          obtain ⟨⟨a, b, c, d⟩, x, y⟩ := q20b
          refine ⟨⟨by rw [e33, upm_c (by omega)]; exact a, by rw [e33, upm_c (by omega)]; exact b, by rw [e33, upm_c (by omega)]; exact c, by rw [e33, upm_c (by omega)]; exact d⟩, fun k z w => by rw [e33, upm_c (by omega)]; exact x k z w, fun k z w => ?_⟩
          have q := y k z w
          refine ⟨by rw [e33, upm_c (by omega)]; exact q.1, ?_, by rw [e33, upm_c (by omega)]; exact q.2.2.1, by rw [e33, upm_c (by omega)]; exact q.2.2.2⟩
          rw [e33, show f + 4 = f + 1 + 3 from rfl, upm_x]
          show _ = if k = g then (v : Int) else csSw (bgC T) k
          by_cases hk : k = g
          · rw [if_pos ⟨rfl, hk⟩, if_pos hk]
          · rw [if_neg (fun z => hk z.2), if_neg hk]; exact q.2.1
        refine A_aload_n dX2_stampsBy_34 rfl ?_
        refine A_aload_n dX2_stampsBy_35 rfl ?_
        refine A_iload_n dX2_stampsBy_36 rfl ?_
        refine A_vI2 (mj := mX2_agreesWith) dX2_stampsBy_37 hR.rm (by decide) ok_X2_agreesWith mv_X2_agreesWith ml_RX2_147 (by assumption) rfl rfl rfl (c_agrees (C := sws (bgC T) g v) hF hT hN hSg hd1 hd2 hd3 rT33 rC33 hwT (sws_w (bgC_w hwT) (by omega) (by omega)) rfl rS33 hm hg) (fun z37 M37 g37 k37 q37 => ?_)
        obtain ⟨q37a, z0, q37b⟩ := q37
        refine A_if_eq (tgt := 50) dX2_stampsBy_40 (by decide) (fun h40 => ?_) (fun h40 => ?_)
        · skip
          refine A_iinc dX2_stampsBy_50 (by decide) rfl rfl ⟨by omega, by omega⟩ ?_
          refine A_goto (tgt := 5) dX2_stampsBy_53 (by decide) ?_
          refine ih _ ?_ (v + 1) _ M37 rfl (by omega) (fr_t hf (fr_t q20a (fr_t f33 q37a))) ?_
          · omega
          · exact isSt_n hx (fun h => by have := q37b.mpr h; omega)
        · skip
          refine A_iload_n dX2_stampsBy_43 rfl ?_
          refine A_iconst dX2_stampsBy_44 (by decide) ?_
          refine A_iload dX2_stampsBy_45 rfl ?_
          refine A_ishl (z := ((2 ^ v : Nat) : Int)) dX2_stampsBy_47 (b_shl v (by omega)) (rng_p2 (by omega)) ?_
          refine A_ior (z := ((b ||| 2 ^ v : Nat) : Int)) dX2_stampsBy_48 (b_or _ _) (rng_or (Nat.lt_of_lt_of_le hx.1 (p2_le (by omega))) (by omega)) ?_
          refine A_istore_n dX2_stampsBy_49 (by decide) rfl ?_
          refine A_iinc dX2_stampsBy_50 (by decide) rfl rfl ⟨by omega, by omega⟩ ?_
          refine A_goto (tgt := 5) dX2_stampsBy_53 (by decide) ?_
          refine ih _ ?_ (v + 1) _ M37 rfl (by omega) (fr_t hf (fr_t q20a (fr_t f33 q37a))) ?_
          · omega
          · exact isSt_y hx (q37b.mp (by omega))
  exact lp _ 0 0 M rfl (by omega) fr_r ⟨by decide, fun b hb => by omega⟩

/-! ways -/
def lets (T : TD) (C : CS) (d : Int) : Prop := d ≠ csQ C ∧ oK T d ≠ 3
/-- one of the first trails may be gone from a desk to another one: without scent (q), or else as files go now -/
def edN (q : Int) (T : TD) (C : CS) (n : Nat) (d e : Int) : Prop := ∃ j : Int, 0 ≤ j ∧ j < n ∧ ((oA T j = d ∧ oB T j = e) ∨ (oB T j = d ∧ oA T j = e)) ∧ (q ≠ 0 → csS C j = 0) ∧ (q = 0 → lets T C d)
def rch (q : Int) (T : TD) (C : CS) (a : Int) : Nat → Int → Prop
  | 0, d => d = a
  | n + 1, d => rch q T C a n d ∨ ∃ e, rch q T C a n e ∧ edN q T C (oT T) e d
theorem rch_m {q : Int} {T : TD} {C : CS} {a d : Int} {m : Nat} (h : rch q T C a m d) : ∀ {n : Nat}, m ≤ n → rch q T C a n d := by
  intro n
  induction n with
  | zero => intro hn; rw [show m = 0 by omega] at h; exact h
  | succ n ih =>
    intro hn
    by_cases e : m = n + 1
    · rw [← e]; exact h
    · exact Or.inl (ih (by omega))
def isDist (q : Int) (T : TD) (C : CS) (a b z : Int) : Prop := (z = -1 ∧ ¬ rch q T C a (oD T) b) ∨ (0 ≤ z ∧ rch q T C a z.toNat b ∧ ∀ m : Nat, (m : Int) < z → ¬ rch q T C a m b)
/-- what stands in the row of steps behind some levels -/
def bfi (q : Int) (T : TD) (C : CS) (a : Int) (S : Fn) (far : Nat) : Prop := (∀ d : Int, 0 ≤ d → d < oD T → S d = -1 ∨ (0 ≤ S d ∧ S d ≤ far ∧ rch q T C a (S d).toNat d ∧ ∀ m : Nat, (m : Int) < S d → ¬ rch q T C a m d)) ∧ ∀ d : Int, 0 ≤ d → d < oD T → rch q T C a far d → S d ≠ -1
def bfj (q : Int) (T : TD) (C : CS) (a : Int) (S : Fn) (far : Nat) (p : Int → Int → Prop) : Prop := (∀ d : Int, 0 ≤ d → d < oD T → S d = -1 ∨ (0 ≤ S d ∧ S d ≤ far + 1 ∧ rch q T C a (S d).toNat d ∧ ∀ m : Nat, (m : Int) < S d → ¬ rch q T C a m d)) ∧ (∀ d : Int, 0 ≤ d → d < oD T → rch q T C a far d → S d ≠ -1) ∧ ∀ d e : Int, p d e → S d = far → S e ≠ -1
theorem bf_in {q : Int} {T : TD} {C : CS} {a : Int} {S : Fn} {far : Nat} (h : bfi q T C a S far) : bfj q T C a S far (edN q T C 0) := by
  refine ⟨fun d x y => ?_, h.2, fun d e z => ?_⟩
  · rcases h.1 d x y with z | z
    · exact Or.inl z
    · exact Or.inr ⟨z.1, by omega, z.2.2⟩
  · obtain ⟨j, x, y, -⟩ := z
    omega
theorem bf_w {q : Int} {T : TD} {C : CS} {a : Int} {S : Fn} {far : Nat} {p p' : Int → Int → Prop} (h : bfj q T C a S far p) (hp : ∀ d e, p' d e → p d e) : bfj q T C a S far p' := ⟨h.1, h.2.1, fun d e z => h.2.2 d e (hp d e z)⟩
theorem bf_go {q : Int} {T : TD} {C : CS} {a : Int} {S S' : Fn} {far : Nat} {p : Int → Int → Prop} {d e : Int} (h : bfj q T C a S far p) (hd : 0 ≤ d ∧ d < oD T) (he : 0 ≤ e ∧ e < oD T) (hv : edN q T C (oT T) d e)
    (hs : (S d = far ∧ S e = -1 ∧ S' = fun k => if k = e then (far : Int) + 1 else S k) ∨ (¬ (S d = far ∧ S e = -1) ∧ S' = S)) : bfj q T C a S' far (fun x y => p x y ∨ (x = d ∧ y = e)) := by
  obtain ⟨h1, h2, h3⟩ := h
  rcases hs with ⟨s1, s2, rfl⟩ | ⟨s1, rfl⟩
  · refine ⟨fun k x y => ?_, fun k x y z => ?_, fun k y z w => ?_⟩
    · by_cases hk : k = e
      · subst hk
        right
        simp only [if_pos]
        have r1 : rch q T C a far d := by
          rcases h1 d hd.1 hd.2 with z | z
          · omega
          · rw [s1] at z; exact z.2.2.1
        refine ⟨by omega, by omega, ?_, fun m hm r => ?_⟩
        · rw [show ((far : Int) + 1).toNat = far + 1 by omega]
          exact Or.inr ⟨d, r1, hv⟩
        · exact h2 k x y (rch_m r (by omega)) s2
      · simp only [if_neg hk]
        exact h1 k x y
    · by_cases hk : k = e
      · simp only [if_pos hk]; omega
      · simp only [if_neg hk]; exact h2 k x y z
    · have wk : S k = far := by
        by_cases hk : k = e
        · simp only [if_pos hk] at w; omega
        · simpa only [if_neg hk] using w
      show (if y = e then (far : Int) + 1 else S y) ≠ -1
      by_cases hy : y = e
      · rw [if_pos hy]; omega
      · rw [if_neg hy]
        rcases z with z | z
        · exact h3 k y z wk
        · exact absurd z.2 hy
  · refine ⟨h1, h2, fun k y z w => ?_⟩
    rcases z with z | ⟨rfl, rfl⟩
    · exact h3 k y z w
    · exact fun x => s1 ⟨w, x⟩
theorem bf_out {q : Int} {T : TD} {C : CS} {a : Int} {S : Fn} {far : Nat} (hT : wT T) (h : bfj q T C a S far (edN q T C (oT T))) : bfi q T C a S (far + 1) := by
  obtain ⟨h1, h2, h3⟩ := h
  refine ⟨fun d x y => ?_, fun d x y z => ?_⟩
  · rcases h1 d x y with w | w
    · exact Or.inl w
    · exact Or.inr ⟨w.1, by omega, w.2.2⟩
  · rcases z with z | ⟨e, r, v⟩
    · exact h2 d x y z
    · have hr : 0 ≤ e ∧ e < oD T := by
        obtain ⟨j, j0, j1, jj, -⟩ := v
        have w := hT.2.2.1 j j0 j1
        rcases jj with jj | jj <;> omega
      have n1 := h2 e hr.1 hr.2 r
      rcases h1 e hr.1 hr.2 with w | w
      · exact absurd w n1
      · by_cases hk : S e = far
        · exact h3 e d v hk
        · intro sd
          have lt : S e < far ∨ S e = far + 1 := by omega
          rcases lt with lt | lt
          · have : rch q T C a ((S e).toNat + 1) d := Or.inr ⟨e, w.2.2.1, v⟩
            exact h2 d x y (rch_m this (by omega)) sd
          · exact w.2.2.2 far (by omega) r
theorem bf_0 {q : Int} {T : TD} {C : CS} {a : Int} {S : Fn} (hS : ∀ d : Int, 0 ≤ d → d < oD T → S d = if d = a then 0 else -1) : bfi q T C a S 0 := by
  refine ⟨fun d x y => ?_, fun d x y z => ?_⟩
  · rw [hS d x y]
    by_cases e : d = a
    · right
      rw [if_pos e]
      exact ⟨by omega, by omega, e, fun m hm => by omega⟩
    · left; rw [if_neg e]
  · rw [hS d x y, if_pos (show d = a from z)]; omega
set_option maxRecDepth 100000 in
set_option maxHeartbeats 4000000 in
theorem c_stepOver {E : EN} {l : Launch} {M : Mem} {f t n : Nat} {T : TD} {C : CS}{a b k q : Int}(hF : isFor E f t n) (hT : isTold E t) (hN : isCrs E n) (hd1 : t + 8 ≤ n) (hd2 : n + 8 ≤ f) (hrT : rT M t T) (hrC : rC M n T C) (hwT : wT T) (hwC : wC T C) (hG : csG C ≤ 9999)(ha : 0 ≤ a ∧ a < oD T) (hb : 0 ≤ b ∧ b < oD T) (hk : 0 ≤ k ∧ k ≤ 100) : Cn E l mX2_stepOver 1 [vR f, vI a, vI b, vI k, vI q] M (fun r M1 => r = vU ∧ ((M (f + 12) a = k ∧ M (f + 12) b = -1 ∧ (q = 0 → lets T C a) ∧ M1 = upm M (f + 12) b (k + 1)) ∨ (¬ (M (f + 12) a = k ∧ M (f + 12) b = -1 ∧ (q = 0 → lets T C a)) ∧ M1 = M))) := by
  refine Cn.of (by decide) rfl (Nat.le_of_ble_eq_true rfl) 0 rfl (fun oka okm G hR => ?_)
  obtain ⟨aF0, hTr, aF9, aF10, aF11, aF12⟩ := id hF
  have cT := crs_at hTr
  have cN := crs_at hN
  have tD := told_at hT
  obtain ⟨cT0, cT1, cT2, cT3, cT4, cT5, cT6, cT7⟩ := id hTr
  obtain ⟨cN0, cN1, cN2, cN3, cN4, cN5, cN6, cN7⟩ := id hN
  obtain ⟨aT0, aT1, aT2, aT3, aT4, aT5, aT6, aT7⟩ := id hT
  obtain ⟨⟨t0, t1, t2, t3, t4⟩, tk, tt, tf⟩ := id hrT
  obtain ⟨⟨c0, c1, c2, c3⟩, cs, cf⟩ := id hrC
  obtain ⟨wt0, wtk, wtt, wtf⟩ := id hwT
  obtain ⟨wc0, wcs, wcf⟩ := id hwC
  refine A_aload_n dX2_stepOver_0 rfl ?_
  refine A_getR dX2_stepOver_1 fl_RX2_28 (by assumption) (by rfl) ?_
  refine A_iload_n dX2_stepOver_4 rfl ?_
  refine A_iald dX2_stepOver_5 (by assumption) (by omega) (by omega) ?_
  refine A_iload_n dX2_stepOver_6 rfl ?_
  refine A_icmp_ne (tgt := 20) dX2_stepOver_7 (by decide) (fun h7 => ?_) (fun h7 => ?_)
  · skip
    exact A_vret hR dX2_stepOver_20 rfl ⟨rfl, Or.inr ⟨fun z => by omega, rfl⟩⟩
  · skip
    refine A_aload_n dX2_stepOver_10 rfl ?_
    refine A_getR dX2_stepOver_11 fl_RX2_28 (by assumption) (by rfl) ?_
    refine A_iload_n dX2_stepOver_14 rfl ?_
    refine A_iald dX2_stepOver_15 (by assumption) (by omega) (by omega) ?_
    refine A_iconst dX2_stepOver_16 (by decide) ?_
    refine A_icmp_eq (tgt := 21) dX2_stepOver_17 (by decide) (fun h17 => ?_) (fun h17 => ?_)
    · skip
      refine A_iload dX2_stepOver_21 rfl ?_
      refine A_if_ne (tgt := 41) dX2_stepOver_23 (by decide) (fun h23 => ?_) (fun h23 => ?_)
      · skip
        refine A_aload_n dX2_stepOver_41 rfl ?_
        refine A_getR dX2_stepOver_42 fl_RX2_28 (by assumption) (by rfl) ?_
        refine A_iload_n dX2_stepOver_45 rfl ?_
        refine A_iload_n dX2_stepOver_46 rfl ?_
        refine A_iconst dX2_stepOver_47 (by decide) ?_
        refine A_iadd dX2_stepOver_48 ⟨by omega, by omega⟩ ?_
        refine A_iast dX2_stepOver_49 (by assumption) (by omega) (by omega) (fun M49 e49 k49 => ?_)
        exact A_vret hR dX2_stepOver_50 rfl (by first | exact ⟨rfl, Or.inl ⟨(by omega), (by omega), fun z => (q35.mp (by omega)), e49⟩⟩ | exact ⟨rfl, Or.inl ⟨(by omega), (by omega), fun z => absurd z h23, e49⟩⟩ | exact ⟨rfl, Or.inr ⟨fun z => by have := q35.mpr (z.2.2 h23); omega, rfl⟩⟩)
      · skip
        refine A_aload_n dX2_stepOver_26 rfl ?_
        refine A_getR dX2_stepOver_27 fl_RX2_35 (by assumption) (by rfl) ?_
        refine A_iload_n dX2_stepOver_30 rfl ?_
        refine A_aload_n dX2_stepOver_31 rfl ?_
        refine A_getR dX2_stepOver_32 fl_RX2_31 (by assumption) (by rfl) ?_
        refine A_vI2 (mj := mX0_letsGo) dX2_stepOver_35 hR.rm (by decide) ok_X0_letsGo mv_X0_letsGo ml_RX2_124 (by assumption) rfl rfl rfl (c_letsGo hN hT (by omega) (by omega)) (fun z35 M35 g35 k35 q35 => ?_)
        obtain ⟨e35, z0, q35⟩ := q35
        subst M35
        rw [c2, tk a (by omega) (by omega)] at q35
        refine A_if_eq (tgt := 50) dX2_stepOver_38 (by decide) (fun h38 => ?_) (fun h38 => ?_)
        · skip
          exact A_vret hR dX2_stepOver_50 rfl (by first | exact ⟨rfl, Or.inl ⟨(by omega), (by omega), fun z => (q35.mp (by omega)), e49⟩⟩ | exact ⟨rfl, Or.inl ⟨(by omega), (by omega), fun z => absurd z h23, e49⟩⟩ | exact ⟨rfl, Or.inr ⟨fun z => by have := q35.mpr (z.2.2 h23); omega, rfl⟩⟩)
        · skip
          refine A_aload_n dX2_stepOver_41 rfl ?_
          refine A_getR dX2_stepOver_42 fl_RX2_28 (by assumption) (by rfl) ?_
          refine A_iload_n dX2_stepOver_45 rfl ?_
          refine A_iload_n dX2_stepOver_46 rfl ?_
          refine A_iconst dX2_stepOver_47 (by decide) ?_
          refine A_iadd dX2_stepOver_48 ⟨by omega, by omega⟩ ?_
          refine A_iast dX2_stepOver_49 (by assumption) (by omega) (by omega) (fun M49 e49 k49 => ?_)
          exact A_vret hR dX2_stepOver_50 rfl (by first | exact ⟨rfl, Or.inl ⟨(by omega), (by omega), fun z => (q35.mp (by omega)), e49⟩⟩ | exact ⟨rfl, Or.inl ⟨(by omega), (by omega), fun z => absurd z h23, e49⟩⟩ | exact ⟨rfl, Or.inr ⟨fun z => by have := q35.mpr (z.2.2 h23); omega, rfl⟩⟩)
    · skip
      exact A_vret hR dX2_stepOver_20 rfl ⟨rfl, Or.inr ⟨fun z => by omega, rfl⟩⟩

set_option maxRecDepth 100000 in
set_option maxHeartbeats 4000000 in
theorem c_fewest {E : EN} {l : Launch} {M : Mem} {f t n : Nat} {T : TD} {C : CS}{a b q : Int}(hF : isFor E f t n) (hT : isTold E t) (hN : isCrs E n) (hd1 : t + 8 ≤ n) (hd2 : n + 8 ≤ f) (hrT : rT M t T) (hrC : rC M n T C) (hwT : wT T) (hwC : wC T C) (hG : csG C ≤ 9999)(ha : 0 ≤ a ∧ a < oD T) (hb : 0 ≤ b ∧ b < oD T) : Cn E l mX2_fewestTrails 2 [vR f, vI a, vI b, vI q] M (fun r M1 => ∃ z, r = vI z ∧ (fr M M1 (f + 12) 1 ∧ isDist q T C a b z)) := by
  refine Cn.of (by decide) rfl (Nat.le_of_ble_eq_true rfl) 2 rfl (fun oka okm G hR => ?_)
  obtain ⟨aF0, hTr, aF9, aF10, aF11, aF12⟩ := id hF
  have cT := crs_at hTr
  have cN := crs_at hN
  have tD := told_at hT
  obtain ⟨cT0, cT1, cT2, cT3, cT4, cT5, cT6, cT7⟩ := id hTr
  obtain ⟨cN0, cN1, cN2, cN3, cN4, cN5, cN6, cN7⟩ := id hN
  obtain ⟨aT0, aT1, aT2, aT3, aT4, aT5, aT6, aT7⟩ := id hT
  obtain ⟨⟨t0, t1, t2, t3, t4⟩, tk, tt, tf⟩ := id hrT
  obtain ⟨⟨c0, c1, c2, c3⟩, cs, cf⟩ := id hrC
  obtain ⟨wt0, wtk, wtt, wtf⟩ := id hwT
  obtain ⟨wc0, wcs, wcf⟩ := id hwC
  refine A_aload_n dX2_fewestTrails_0 rfl ?_
  refine A_getR dX2_fewestTrails_1 fl_RX2_28 (by assumption) (by rfl) ?_
  refine A_iconst dX2_fewestTrails_4 (by decide) ?_
  refine A_sV2 (mj := mJ7_fill_53178) dX2_fewestTrails_5 hR.rm (by decide) ok_J7_fill_53178 st_J7_fill_53178 ml_RX2_96 rfl (c_fill (n := 8) aF12 (by omega)) (fun M5 k5 q5 => ?_)
  refine A_aload_n dX2_fewestTrails_8 rfl ?_
  refine A_getR dX2_fewestTrails_9 fl_RX2_28 (by assumption) (by rfl) ?_
  refine A_iload_n dX2_fewestTrails_12 rfl ?_
  refine A_iconst dX2_fewestTrails_13 (by decide) ?_
  refine A_iast dX2_fewestTrails_14 (by assumption) (by omega) (by omega) (fun M14 e14 k14 => ?_)
  refine A_iconst dX2_fewestTrails_15 (by decide) ?_
  refine A_istore dX2_fewestTrails_16 (by decide) rfl ?_
  have lp : ∀ (k : Nat) (far : Nat) (M1 : Mem) (x5 : AV), oD T - far = k → (far ≤ oD T) → (fr M M1 (f + 12) 1) → (bfi q T C a (M1 (f + 12)) far) → AW E mX2_fewestTrails G 0 0 18 [vR f, vI a, vI b, vI q, vI far, x5] [] M1 := by
    intro k
    induction k using Nat.strongRecOn with
    | ind k ih =>
      intro far M1 x5 hk h0 hf hx
      have rT1 : rT M1 t T := rT_fr hrT hf (by omega)
      refine A_iload dX2_fewestTrails_18 rfl ?_
      refine A_aload_n dX2_fewestTrails_20 rfl ?_
      refine A_getR dX2_fewestTrails_21 fl_RX2_31 (by assumption) (by rfl) ?_
      refine A_getI (ki := 0) dX2_fewestTrails_24 fl_RX2_111 (by assumption) (by rfl) rfl ?_
      rw [rT1.1.1]
      refine A_icmp_ge (tgt := 141) dX2_fewestTrails_27 (by decide) (fun h27 => ?_) (fun h27 => ?_)
      · skip
        refine A_aload_n dX2_fewestTrails_141 rfl ?_
        refine A_getR dX2_fewestTrails_142 fl_RX2_28 (by assumption) (by rfl) ?_
        refine A_iload_n dX2_fewestTrails_145 rfl ?_
        refine A_iald dX2_fewestTrails_146 (by assumption) (by omega) (by omega) ?_
        refine A_iret hR dX2_fewestTrails_147 rfl ⟨_, rfl, hf, ?_⟩
        have e : far = oD T := by omega
        subst e
        rcases hx.1 b hb.1 hb.2 with w | w
        · exact Or.inl ⟨w, fun r => hx.2 b hb.1 hb.2 r w⟩
        · exact Or.inr ⟨w.1, w.2.2⟩
      · skip
        refine A_aload_n dX2_fewestTrails_30 rfl ?_
        refine A_getR dX2_fewestTrails_31 fl_RX2_28 (by assumption) (by rfl) ?_
        refine A_iload_n dX2_fewestTrails_34 rfl ?_
        refine A_iald dX2_fewestTrails_35 (by assumption) (by omega) (by omega) ?_
        refine A_iconst dX2_fewestTrails_36 (by decide) ?_
        refine A_icmp_ne (tgt := 141) dX2_fewestTrails_37 (by decide) (fun h37 => ?_) (fun h37 => ?_)
        · skip
          refine A_aload_n dX2_fewestTrails_141 rfl ?_
          refine A_getR dX2_fewestTrails_142 fl_RX2_28 (by assumption) (by rfl) ?_
          refine A_iload_n dX2_fewestTrails_145 rfl ?_
          refine A_iald dX2_fewestTrails_146 (by assumption) (by omega) (by omega) ?_
          refine A_iret hR dX2_fewestTrails_147 rfl ⟨_, rfl, hf, ?_⟩
          rcases hx.1 b hb.1 hb.2 with w | w
          · exact absurd w h37
          · exact Or.inr ⟨w.1, w.2.2⟩
        · skip
          refine A_iconst dX2_fewestTrails_40 (by decide) ?_
          refine A_istore dX2_fewestTrails_41 (by decide) rfl ?_
          have lq : ∀ (k : Nat) (j : Nat) (M2 : Mem), oT T - j = k → (j ≤ oT T) → (fr M M2 (f + 12) 1) → (bfj q T C a (M2 (f + 12)) far (edN q T C j)) → AW E mX2_fewestTrails G 0 0 43 [vR f, vI a, vI b, vI q, vI far, vI j] [] M2 := by
            intro k
            induction k using Nat.strongRecOn with
            | ind k2 ih2 =>
              intro j M2 hk hj hf2 hy
              have rT2 : rT M2 t T := rT_fr hrT hf2 (by omega)
              have rC2 : rC M2 n T C := rC_fr hrC hf2 (by omega)
              refine A_iload dX2_fewestTrails_43 rfl ?_
              refine A_aload_n dX2_fewestTrails_45 rfl ?_
              refine A_getR dX2_fewestTrails_46 fl_RX2_31 (by assumption) (by rfl) ?_
              refine A_getI (ki := 1) dX2_fewestTrails_49 fl_RX2_102 (by assumption) (by rfl) rfl ?_
              rw [rT2.1.2.1]
              refine A_icmp_ge (tgt := 135) dX2_fewestTrails_52 (by decide) (fun h52 => ?_) (fun h52 => ?_)
              · skip
                have hi : j = oT T := by omega
                subst hi
                refine A_iinc dX2_fewestTrails_135 (by decide) rfl rfl ⟨by omega, by omega⟩ ?_
                refine A_goto (tgt := 18) dX2_fewestTrails_138 (by decide) ?_
                refine ih _ ?_ (far + 1) M2 _ rfl (by omega) hf2 (bf_out hwT hy)
                omega
              · skip
                have g1 := tt j (by omega) (by omega)
                have g2 := wtt j (by omega) (by omega)
                have h1 := rT2.2.2.1 j (by omega) (by omega)
                refine A_iload_n dX2_fewestTrails_55 rfl ?_
                refine A_if_eq (tgt := 75) dX2_fewestTrails_56 (by decide) (fun h56 => ?_) (fun h56 => ?_)
                · skip
                  refine A_aload_n dX2_fewestTrails_75 rfl ?_
                  refine A_aload_n dX2_fewestTrails_76 rfl ?_
                  refine A_getR dX2_fewestTrails_77 fl_RX2_31 (by assumption) (by rfl) ?_
                  refine A_getR dX2_fewestTrails_80 fl_RX2_114 (by assumption) (by rfl) ?_
                  refine A_iload dX2_fewestTrails_83 rfl ?_
                  refine A_iald dX2_fewestTrails_85 (by assumption) (by omega) (by omega) ?_
                  rw [h1.1]
                  refine A_aload_n dX2_fewestTrails_86 rfl ?_
                  refine A_getR dX2_fewestTrails_87 fl_RX2_31 (by assumption) (by rfl) ?_
                  refine A_getR dX2_fewestTrails_90 fl_RX2_117 (by assumption) (by rfl) ?_
                  refine A_iload dX2_fewestTrails_93 rfl ?_
                  refine A_iald dX2_fewestTrails_95 (by assumption) (by omega) (by omega) ?_
                  rw [h1.2.1]
                  refine A_iload dX2_fewestTrails_96 rfl ?_
                  refine A_iload_n dX2_fewestTrails_98 rfl ?_
                  refine A_vV4 (mj := mX2_stepOver) dX2_fewestTrails_99 hR.rm (by decide) ok_X2_stepOver mv_X2_stepOver ml_RX2_120 (by assumption) rfl rfl rfl (c_stepOver hF hT hN hd1 hd2 rT2 rC2 hwT hwC hG (by omega) (by omega) (by omega)) (fun M99 k99 q99 => ?_)
                  have f99 : fr M M99 (f + 12) 1 := by
                    rcases q99 with w | w
                    · rw [w.2.2.2]; exact fun y hy => by rw [upm_c (by omega)]; exact hf2 y hy
                    · rw [w.2]; exact hf2
                  have rT99 : rT M99 t T := rT_fr hrT f99 (by omega)
                  have rC99 : rC M99 n T C := rC_fr hrC f99 (by omega)
                  refine A_aload_n dX2_fewestTrails_102 rfl ?_
                  refine A_aload_n dX2_fewestTrails_103 rfl ?_
                  refine A_getR dX2_fewestTrails_104 fl_RX2_31 (by assumption) (by rfl) ?_
                  refine A_getR dX2_fewestTrails_107 fl_RX2_117 (by assumption) (by rfl) ?_
                  refine A_iload dX2_fewestTrails_110 rfl ?_
                  refine A_iald dX2_fewestTrails_112 (by assumption) (by omega) (by omega) ?_
                  rw [(rT99.2.2.1 j (by omega) (by omega)).2.1]
                  refine A_aload_n dX2_fewestTrails_113 rfl ?_
                  refine A_getR dX2_fewestTrails_114 fl_RX2_31 (by assumption) (by rfl) ?_
                  refine A_getR dX2_fewestTrails_117 fl_RX2_114 (by assumption) (by rfl) ?_
                  refine A_iload dX2_fewestTrails_120 rfl ?_
                  refine A_iald dX2_fewestTrails_122 (by assumption) (by omega) (by omega) ?_
                  rw [(rT99.2.2.1 j (by omega) (by omega)).1]
                  refine A_iload dX2_fewestTrails_123 rfl ?_
                  refine A_iload_n dX2_fewestTrails_125 rfl ?_
                  refine A_vV4 (mj := mX2_stepOver) dX2_fewestTrails_126 hR.rm (by decide) ok_X2_stepOver mv_X2_stepOver ml_RX2_120 (by assumption) rfl rfl rfl (c_stepOver hF hT hN hd1 hd2 rT99 rC99 hwT hwC hG (by omega) (by omega) (by omega)) (fun M126 k126 q126 => ?_)
                  have f126 : fr M M126 (f + 12) 1 := by
                    rcases q126 with w | w
                    · rw [w.2.2.2]; exact fun y hy => by rw [upm_c (by omega)]; exact f99 y hy
                    · rw [w.2]; exact f99
                  refine A_iinc dX2_fewestTrails_129 (by decide) rfl rfl ⟨by omega, by omega⟩ ?_
                  refine A_goto (tgt := 43) dX2_fewestTrails_132 (by decide) ?_
                  have vq : q ≠ 0 → csS C j = 0 := fun z => by first | exact absurd h56 z | exact h69
                  have y1 : bfj q T C a (M99 (f + 12)) far (fun x y => edN q T C j x y ∨ ((q = 0 → lets T C (oA T j)) ∧ x = oA T j ∧ y = oB T j)) := by
                    by_cases l : q = 0 → lets T C (oA T j)
                    · refine bf_w (bf_go (d := oA T j) (e := oB T j) hy (by omega) (by omega) ⟨j, by omega, by omega, Or.inl ⟨rfl, rfl⟩, vq, l⟩ ?_) (fun x y z => z.elim Or.inl (fun z => Or.inr z.2))
                      rcases q99 with w | w
                      · exact Or.inl ⟨w.1, w.2.1, by rw [w.2.2.2]; funext k; rw [upm_x]; simp⟩
                      · exact Or.inr ⟨fun z => w.1 ⟨z.1, z.2, l⟩, by rw [w.2]⟩
                    · have e99 : M99 = M2 := by
                        rcases q99 with w | w
                        · exact absurd w.2.2.1 l
                        · exact w.2
                      rw [e99]
                      exact bf_w hy (fun x y z => z.elim id (fun z => absurd z.1 l))
                  have y2 : bfj q T C a (M126 (f + 12)) far (edN q T C (j + 1)) := by
                    have fin : ∀ x y, edN q T C (j + 1) x y → (edN q T C j x y ∨ ((q = 0 → lets T C (oA T j)) ∧ x = oA T j ∧ y = oB T j)) ∨ ((q = 0 → lets T C (oB T j)) ∧ x = oB T j ∧ y = oA T j) := fun x y z => by
                      obtain ⟨i, i0, i1, ii, iq, il⟩ := z
                      by_cases e1 : i = j
                      · subst e1
                        rcases ii with ⟨rfl, rfl⟩ | ⟨rfl, rfl⟩
                        · exact Or.inl (Or.inr ⟨il, rfl, rfl⟩)
                        · exact Or.inr ⟨il, rfl, rfl⟩
                      · exact Or.inl (Or.inl ⟨i, i0, by omega, ii, iq, il⟩)
                    by_cases l : q = 0 → lets T C (oB T j)
                    · refine bf_w (bf_go (d := oB T j) (e := oA T j) y1 (by omega) (by omega) ⟨j, by omega, by omega, Or.inr ⟨rfl, rfl⟩, vq, l⟩ ?_) (fun x y z => (fin x y z).elim Or.inl (fun z => Or.inr z.2))
                      rcases q126 with w | w
                      · exact Or.inl ⟨w.1, w.2.1, by rw [w.2.2.2]; funext k; rw [upm_x]; simp⟩
                      · exact Or.inr ⟨fun z => w.1 ⟨z.1, z.2, l⟩, by rw [w.2]⟩
                    · have e126 : M126 = M99 := by
                        rcases q126 with w | w
                        · exact absurd w.2.2.1 l
                        · exact w.2
                      rw [e126]
                      exact bf_w y1 (fun x y z => (fin x y z).elim id (fun z => absurd z.1 l))
                  refine ih2 _ ?_ (j + 1) M126 rfl (by omega) f126 y2
                  omega
                · skip
                  refine A_aload_n dX2_fewestTrails_59 rfl ?_
                  refine A_getR dX2_fewestTrails_60 fl_RX2_35 (by assumption) (by rfl) ?_
                  refine A_getR dX2_fewestTrails_63 fl_RX2_105 (by assumption) (by rfl) ?_
                  refine A_iload dX2_fewestTrails_66 rfl ?_
                  refine A_iald dX2_fewestTrails_68 (by assumption) (by omega) (by omega) ?_
                  rw [rC2.2.1 j (by omega) (by omega)]
                  refine A_if_eq (tgt := 75) dX2_fewestTrails_69 (by decide) (fun h69 => ?_) (fun h69 => ?_)
                  · skip
                    refine A_aload_n dX2_fewestTrails_75 rfl ?_
                    refine A_aload_n dX2_fewestTrails_76 rfl ?_
                    refine A_getR dX2_fewestTrails_77 fl_RX2_31 (by assumption) (by rfl) ?_
                    refine A_getR dX2_fewestTrails_80 fl_RX2_114 (by assumption) (by rfl) ?_
                    refine A_iload dX2_fewestTrails_83 rfl ?_
                    refine A_iald dX2_fewestTrails_85 (by assumption) (by omega) (by omega) ?_
                    rw [h1.1]
                    refine A_aload_n dX2_fewestTrails_86 rfl ?_
                    refine A_getR dX2_fewestTrails_87 fl_RX2_31 (by assumption) (by rfl) ?_
                    refine A_getR dX2_fewestTrails_90 fl_RX2_117 (by assumption) (by rfl) ?_
                    refine A_iload dX2_fewestTrails_93 rfl ?_
                    refine A_iald dX2_fewestTrails_95 (by assumption) (by omega) (by omega) ?_
                    rw [h1.2.1]
                    refine A_iload dX2_fewestTrails_96 rfl ?_
                    refine A_iload_n dX2_fewestTrails_98 rfl ?_
                    refine A_vV4 (mj := mX2_stepOver) dX2_fewestTrails_99 hR.rm (by decide) ok_X2_stepOver mv_X2_stepOver ml_RX2_120 (by assumption) rfl rfl rfl (c_stepOver hF hT hN hd1 hd2 rT2 rC2 hwT hwC hG (by omega) (by omega) (by omega)) (fun M99 k99 q99 => ?_)
                    have f99 : fr M M99 (f + 12) 1 := by
                      rcases q99 with w | w
                      · rw [w.2.2.2]; exact fun y hy => by rw [upm_c (by omega)]; exact hf2 y hy
                      · rw [w.2]; exact hf2
                    have rT99 : rT M99 t T := rT_fr hrT f99 (by omega)
                    have rC99 : rC M99 n T C := rC_fr hrC f99 (by omega)
                    refine A_aload_n dX2_fewestTrails_102 rfl ?_
                    refine A_aload_n dX2_fewestTrails_103 rfl ?_
                    refine A_getR dX2_fewestTrails_104 fl_RX2_31 (by assumption) (by rfl) ?_
                    refine A_getR dX2_fewestTrails_107 fl_RX2_117 (by assumption) (by rfl) ?_
                    refine A_iload dX2_fewestTrails_110 rfl ?_
                    refine A_iald dX2_fewestTrails_112 (by assumption) (by omega) (by omega) ?_
                    rw [(rT99.2.2.1 j (by omega) (by omega)).2.1]
                    refine A_aload_n dX2_fewestTrails_113 rfl ?_
                    refine A_getR dX2_fewestTrails_114 fl_RX2_31 (by assumption) (by rfl) ?_
                    refine A_getR dX2_fewestTrails_117 fl_RX2_114 (by assumption) (by rfl) ?_
                    refine A_iload dX2_fewestTrails_120 rfl ?_
                    refine A_iald dX2_fewestTrails_122 (by assumption) (by omega) (by omega) ?_
                    rw [(rT99.2.2.1 j (by omega) (by omega)).1]
                    refine A_iload dX2_fewestTrails_123 rfl ?_
                    refine A_iload_n dX2_fewestTrails_125 rfl ?_
                    refine A_vV4 (mj := mX2_stepOver) dX2_fewestTrails_126 hR.rm (by decide) ok_X2_stepOver mv_X2_stepOver ml_RX2_120 (by assumption) rfl rfl rfl (c_stepOver hF hT hN hd1 hd2 rT99 rC99 hwT hwC hG (by omega) (by omega) (by omega)) (fun M126 k126 q126 => ?_)
                    have f126 : fr M M126 (f + 12) 1 := by
                      rcases q126 with w | w
                      · rw [w.2.2.2]; exact fun y hy => by rw [upm_c (by omega)]; exact f99 y hy
                      · rw [w.2]; exact f99
                    refine A_iinc dX2_fewestTrails_129 (by decide) rfl rfl ⟨by omega, by omega⟩ ?_
                    refine A_goto (tgt := 43) dX2_fewestTrails_132 (by decide) ?_
                    have vq : q ≠ 0 → csS C j = 0 := fun z => by first | exact absurd h56 z | exact h69
                    have y1 : bfj q T C a (M99 (f + 12)) far (fun x y => edN q T C j x y ∨ ((q = 0 → lets T C (oA T j)) ∧ x = oA T j ∧ y = oB T j)) := by
                      by_cases l : q = 0 → lets T C (oA T j)
                      · refine bf_w (bf_go (d := oA T j) (e := oB T j) hy (by omega) (by omega) ⟨j, by omega, by omega, Or.inl ⟨rfl, rfl⟩, vq, l⟩ ?_) (fun x y z => z.elim Or.inl (fun z => Or.inr z.2))
                        rcases q99 with w | w
                        · exact Or.inl ⟨w.1, w.2.1, by rw [w.2.2.2]; funext k; rw [upm_x]; simp⟩
                        · exact Or.inr ⟨fun z => w.1 ⟨z.1, z.2, l⟩, by rw [w.2]⟩
                      · have e99 : M99 = M2 := by
                          rcases q99 with w | w
                          · exact absurd w.2.2.1 l
                          · exact w.2
                        rw [e99]
                        exact bf_w hy (fun x y z => z.elim id (fun z => absurd z.1 l))
                    have y2 : bfj q T C a (M126 (f + 12)) far (edN q T C (j + 1)) := by
                      have fin : ∀ x y, edN q T C (j + 1) x y → (edN q T C j x y ∨ ((q = 0 → lets T C (oA T j)) ∧ x = oA T j ∧ y = oB T j)) ∨ ((q = 0 → lets T C (oB T j)) ∧ x = oB T j ∧ y = oA T j) := fun x y z => by
                        obtain ⟨i, i0, i1, ii, iq, il⟩ := z
                        by_cases e1 : i = j
                        · subst e1
                          rcases ii with ⟨rfl, rfl⟩ | ⟨rfl, rfl⟩
                          · exact Or.inl (Or.inr ⟨il, rfl, rfl⟩)
                          · exact Or.inr ⟨il, rfl, rfl⟩
                        · exact Or.inl (Or.inl ⟨i, i0, by omega, ii, iq, il⟩)
                      by_cases l : q = 0 → lets T C (oB T j)
                      · refine bf_w (bf_go (d := oB T j) (e := oA T j) y1 (by omega) (by omega) ⟨j, by omega, by omega, Or.inr ⟨rfl, rfl⟩, vq, l⟩ ?_) (fun x y z => (fin x y z).elim Or.inl (fun z => Or.inr z.2))
                        rcases q126 with w | w
                        · exact Or.inl ⟨w.1, w.2.1, by rw [w.2.2.2]; funext k; rw [upm_x]; simp⟩
                        · exact Or.inr ⟨fun z => w.1 ⟨z.1, z.2, l⟩, by rw [w.2]⟩
                      · have e126 : M126 = M99 := by
                          rcases q126 with w | w
                          · exact absurd w.2.2.1 l
                          · exact w.2
                        rw [e126]
                        exact bf_w y1 (fun x y z => (fin x y z).elim id (fun z => absurd z.1 l))
                    refine ih2 _ ?_ (j + 1) M126 rfl (by omega) f126 y2
                    omega
                  · skip
                    refine A_goto (tgt := 129) dX2_fewestTrails_72 (by decide) ?_
                    refine A_iinc dX2_fewestTrails_129 (by decide) rfl rfl ⟨by omega, by omega⟩ ?_
                    refine A_goto (tgt := 43) dX2_fewestTrails_132 (by decide) ?_
                    refine ih2 _ ?_ (j + 1) M2 rfl (by omega) hf2 (bf_w hy (fun d e z => ?_))
                    · omega
                    · obtain ⟨i, i0, i1, ii, iq, il⟩ := z
                      by_cases e1 : i = j
                      · subst e1
                        exact absurd (iq h56) h69
                      · exact ⟨i, i0, by omega, ii, iq, il⟩
          exact lq _ 0 M1 rfl (by omega) hf (bf_in hx)
  have hS : ∀ d : Int, 0 ≤ d → d < oD T → M14 (f + 12) d = if d = a then 0 else -1 := fun d x y => by
    rw [e14, upm_x, q5]
    by_cases e : d = a
    · rw [if_pos ⟨rfl, e⟩, if_pos e]
    · rw [if_neg (fun z => e z.2), if_neg e, flm_i x (by omega)]
  exact lp _ 0 M14 vU rfl (by omega) (fun y hy => by rw [e14, upm_c (by omega), q5, flm_o (by omega)]) (bf_0 hS)

