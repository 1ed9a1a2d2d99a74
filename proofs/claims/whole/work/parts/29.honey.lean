/-! HONEY -/
/-- how many of a set are below -/
def rkN (s : Nat) : Nat → Nat
  | 0 => 0
  | g + 1 => rkN s g + if s.testBit g = true then 1 else 0
theorem rkN_m (s : Nat) {a b : Nat} (h : a ≤ b) : rkN s a ≤ rkN s b := by
  induction b with
  | zero => rw [show a = 0 by omega]; exact Nat.le_refl _
  | succ b ih =>
    by_cases e : a = b + 1
    · rw [e]; exact Nat.le_refl _
    · have := ih (by omega)
      have q : rkN s (b + 1) = rkN s b + if s.testBit b = true then 1 else 0 := rfl
      omega
theorem rkN_lt {s a b : Nat} (h : a < b) (ha : s.testBit a = true) : rkN s a < rkN s b := by
  have h1 := rkN_m s (show a + 1 ≤ b by omega)
  have h2 : rkN s (a + 1) = rkN s a + 1 := by rw [rkN, if_pos ha]
  omega
theorem rkN_inj {s a b : Nat} (ha : s.testBit a = true) (hb : s.testBit b = true) (h : rkN s a = rkN s b) : a = b := by
  rcases Nat.lt_trichotomy a b with q | q | q
  · have := rkN_lt q ha; omega
  · exact q
  · have := rkN_lt q hb; omega
/-- with more sweetness for a set's files -/
def hC (C : CS) (s : Nat) (sh : Fn) : CS := (csW C, csG C, csQ C, csS C, csA C, fun g => csSw C g + (if s.testBit g.toNat = true then sh (rkN s g.toNat) else 0), csC C, csF C)
/-- the row of a set's files -/
def isMem (S : Fn) (s n size : Nat) : Prop := ∀ p : Int, 0 ≤ p → p < size → ∃ g : Nat, S p = g ∧ g < n ∧ s.testBit g = true ∧ (rkN s g : Int) = p
/-- a row of honey by which all come right -/
def good (T : TD) (C : CS) (s m : Nat) (sh : Fn) : Prop := (∀ g : Nat, g < oF T → s.testBit g = true → 0 ≤ sh (rkN s g) ∧ csSw C g + sh (rkN s g) ≤ 9) ∧ rdy T s (itC T (hC C s sh) m)
def nmN (S : Fn) : Nat → Int
  | 0 => 0
  | n + 1 => 10 * nmN S n + S n
def agre (a b : Fn) (n : Nat) : Prop := ∀ p : Int, 0 ≤ p → p < n → a p = b p
theorem agre_nm {a b : Fn} : ∀ n : Nat, agre a b n → nmN a n = nmN b n
  | 0, _ => rfl
  | n + 1, h => by
    rw [nmN, nmN, agre_nm n (fun p x y => h p x (by omega)), h n (by omega) (by omega)]
theorem agre_sm {a b : Fn} : ∀ n : Nat, agre a b n → smN a n = smN b n
  | 0, _ => rfl
  | n + 1, h => by
    rw [smN, smN, agre_sm n (fun p x y => h p x (by omega)), h n (by omega) (by omega)]
theorem nm_lt {a b : Fn} {k : Nat} (h : agre a b k) (hl : a k < b k) : ∀ n : Nat, k < n → (∀ p : Int, 0 ≤ p → p < n → (0 ≤ a p ∧ a p ≤ 9) ∧ 0 ≤ b p ∧ b p ≤ 9) → nmN a n < nmN b n
  | 0, x, _ => by omega
  | n + 1, x, hd => by
    have d := hd n (by omega) (by omega)
    by_cases e : k = n
    · subst e
      rw [nmN, nmN, agre_nm k h]; omega
    · have := nm_lt h hl n (by omega) (fun p x y => hd p x (by omega))
      rw [nmN, nmN]; omega
theorem sm_split {a : Fn} {k : Nat} : ∀ n : Nat, k ≤ n → (∀ p : Int, 0 ≤ p → p < n → 0 ≤ a p ∧ a p ≤ 9) → smN a k ≤ smN a n ∧ smN a n ≤ smN a k + 9 * ((n : Int) - k)
  | 0, x, _ => by rw [show k = 0 by omega]; omega
  | n + 1, x, hd => by
    have d := hd n (by omega) (by omega)
    by_cases e : k = n + 1
    · rw [e]; omega
    · have := sm_split (k := k) n (by omega) (fun p x y => hd p x (by omega))
      rw [smN]; omega
/-- a good row's figures -/
theorem good_d {T : TD} {C : CS} {s m size : Nat} {S sh : Fn} (hm : isMem S s (oF T) size) (hC0 : wC T C) (h : good T C s m sh) : ∀ p : Int, 0 ≤ p → p < size → 0 ≤ sh p ∧ sh p ≤ 9 := by
  intro p x y
  obtain ⟨g, -, g1, g2, g3⟩ := hm p x y
  have q := h.1 g g1 g2
  rw [g3] at q
  have w := hC0.2.2 g (by omega) (by omega)
  omega
theorem hC_w {T : TD} {C : CS} {s : Nat} {sh : Fn} (h : wC T C) (hs : ∀ g : Nat, g < oF T → s.testBit g = true → 0 ≤ sh (rkN s g) ∧ csSw C g + sh (rkN s g) ≤ 9) : wC T (hC C s sh) := by
  obtain ⟨a, b, c⟩ := h
  refine ⟨a, b, fun k x y => ?_⟩
  have q := c k x y
  have e : ((k.toNat : Nat) : Int) = k := by omega
  have w : 0 ≤ csSw (hC C s sh) k ∧ csSw (hC C s sh) k ≤ 9 := by
    show 0 ≤ csSw C k + (if s.testBit k.toNat = true then sh (rkN s k.toNat) else 0) ∧ csSw C k + (if s.testBit k.toNat = true then sh (rkN s k.toNat) else 0) ≤ 9
    by_cases hb : s.testBit k.toNat = true
    · have r := hs k.toNat (by omega) hb
      rw [e] at r
      rw [if_pos hb]; omega
    · rw [if_neg hb]; omega
  exact ⟨q.1, q.2.1, w.1, w.2, q.2.2.2.2⟩
theorem hC_ext {T : TD} {C : CS} {s size : Nat} {a b : Fn} (h : agre a b size) (hs : rkN s (oF T) ≤ size) : ∀ k : Int, 0 ≤ k → k < oF T → csSw (hC C s a) k = csSw (hC C s b) k := fun k x y => by
  show csSw C k + (if s.testBit k.toNat = true then a (rkN s k.toNat) else 0) = csSw C k + (if s.testBit k.toNat = true then b (rkN s k.toNat) else 0)
  by_cases hb : s.testBit k.toNat = true
  · have := rkN_lt (b := oF T) (by omega) hb
    rw [if_pos hb, if_pos hb, h _ (by omega) (by omega)]
  · rw [if_neg hb, if_neg hb]
theorem b_shr : ∀ s : Nat, s < 64 → ∀ g : Nat, g < 6 → i32 (s : Int) >>> (i32 (g : Int) &&& 31) = i32 ((s / 2 ^ g : Nat) : Int) := by decide +kernel
theorem b_a1 (n : Nat) : i32 (n : Int) &&& i32 1 = i32 ((n % 2 : Nat) : Int) := by
  have := b_and n 1
  rw [Nat.and_one_is_mod] at this
  exact this
theorem tb_iff (s g : Nat) : (s / 2 ^ g % 2 = 0 ↔ ¬ s.testBit g = true) := by
  rw [Nat.testBit_eq_decide_div_mod_eq]
  simp only [decide_eq_true_eq]
  omega
set_option maxRecDepth 100000 in
set_option maxHeartbeats 4000000 in
theorem c_giveShares {E : EN} {l : Launch} {M : Mem} {f t n : Nat} {T : TD} {C : CS}{s size : Nat} {sh : Fn}(hF : isFor E f t n) (hT : isTold E t) (hN : isCrs E n) (hd1 : t + 8 ≤ n) (hd2 : n + 8 ≤ f) (hrT : rT M t T) (hrC : rC M n T C) (hwT : wT T) (hwC : wC T C) (hG : csG C ≤ 9999)(hs4 : size ≤ 4) (hsz : size = rkN s (oF T)) (hM : isMem (M (f + 9)) s (oF T) size) (hsh : ∀ p : Int, 0 ≤ p → p < size → M (f + 10) p = sh p ∧ 0 ≤ sh p ∧ sh p ≤ 9) : Cn E l mX2_giveShares 2 [vR f, vI size] M (fun r M1 => r = vU ∧ (fr M M1 (f + 1) 8 ∧ rC M1 (f + 1) T (hC C s sh))) := by
  refine Cn.of (by decide) rfl (Nat.le_of_ble_eq_true rfl) 1 rfl (fun oka okm G hR => ?_)
  obtain ⟨aF0, hTr, aF9, aF10, aF11, aF12⟩ := id hF
  have cT := crs_at hTr
  have cN := crs_at hN
  have tD := told_at hT
  obtain ⟨cT0, cT1, cT2, cT3, cT4, cT5, cT6, cT7⟩ := id hTr
  obtain ⟨cN0, cN1, cN2, cN3, cN4, cN5, cN6, cN7⟩ := id hN
  obtain ⟨aT0, aT1, aT2, aT3, aT4, aT5, aT6, aT7⟩ := id hT
  obtain ⟨⟨t0, t1, t2, t3, t4⟩, tk, tt, tf⟩ := id hrT
  obtain ⟨⟨c0, c1, c2, c3⟩, cs, cf⟩ := id hrC
  obtain ⟨wt0, wtk, wtt, wtf⟩ := id hwT
  obtain ⟨wc0, wcs, wcf⟩ := id hwC
  refine A_aload_n dX2_giveShares_0 rfl ?_
  refine A_getR dX2_giveShares_1 fl_RX2_12 (by assumption) (by rfl) ?_
  refine A_aload_n dX2_giveShares_4 rfl ?_
  refine A_getR dX2_giveShares_5 fl_RX2_35 (by assumption) (by rfl) ?_
  refine A_vV1 (mj := mX0_takeFrom) dX2_giveShares_8 hR.rm (by decide) ok_X0_takeFrom mv_X0_takeFrom ml_RX2_38 (by assumption) rfl rfl rfl (c_takeC hTr hN (by omega)) (fun M8 k8 q8 => ?_)
  obtain ⟨q8a, q8b, q8c, q8d⟩ := q8
  have rT8 : rT M8 t T := rT_fr hrT q8a (by omega)
  have rC8 : rC M8 (f + 1) T C := rC_cp hrC q8b q8c q8d hwT
  refine A_iconst dX2_giveShares_11 (by decide) ?_
  refine A_istore_n dX2_giveShares_12 (by decide) rfl ?_
  have lp : ∀ (k : Nat) (i : Nat) (M1 : Mem), size - i = k → (i ≤ size) → (fr M M1 (f + 1) 8) → (∀ y, y ≠ f + 4 → M1 y = M8 y) → (∀ g : Nat, g < oF T → M1 (f + 4) g = csSw C g + if s.testBit g = true ∧ rkN s g < i then sh (rkN s g) else 0) → AW E mX2_giveShares G 0 0 13 [vR f, vI size, vI i] [] M1 := by
    intro k
    induction k using Nat.strongRecOn with
    | ind k ih =>
      intro i M1 hk h0 hf hf2 hx
      refine A_iload_n dX2_giveShares_13 rfl ?_
      refine A_iload_n dX2_giveShares_14 rfl ?_
      refine A_icmp_ge (tgt := 47) dX2_giveShares_15 (by decide) (fun h15 => ?_) (fun h15 => ?_)
      · skip
        have hi : i = size := by omega
        subst hi
        exact A_vret hR dX2_giveShares_47 rfl ⟨rfl, hf, ⟨⟨by rw [hf2 _ (by omega)]; exact rC8.1.1, by rw [hf2 _ (by omega)]; exact rC8.1.2.1, by rw [hf2 _ (by omega)]; exact rC8.1.2.2.1, by rw [hf2 _ (by omega)]; exact rC8.1.2.2.2⟩, fun k x y => by rw [hf2 _ (by omega)]; exact rC8.2.1 k x y, fun k x y => by
          have q := rC8.2.2 k x y
          refine ⟨by rw [hf2 _ (by omega)]; exact q.1, ?_, by rw [hf2 _ (by omega)]; exact q.2.2.1, by rw [hf2 _ (by omega)]; exact q.2.2.2⟩
          have v := hx k.toNat (by omega)
          rw [show ((k.toNat : Nat) : Int) = k by omega] at v
          rw [show f + 1 + 3 = f + 4 from rfl, v]
          show _ = csSw C k + (if s.testBit k.toNat = true then sh (rkN s k.toNat) else 0)
          by_cases b : s.testBit k.toNat = true
          · rw [if_pos ⟨b, by have := rkN_lt (b := oF T) (by omega) b; omega⟩, if_pos b]
          · rw [if_neg (fun z => b z.1), if_neg b]⟩⟩
      · skip
        obtain ⟨g, g1, g2, g3, g4⟩ := hM i (by omega) (by omega)
        have w9 : M1 (f + 9) = M (f + 9) := hf _ (by omega)
        have w10 : M1 (f + 10) = M (f + 10) := hf _ (by omega)
        have s1 := hsh i (by omega) (by omega)
        have wg := wcf g (by omega) (by omega)
        have v0 : M1 (f + 4) g = csSw C g := by rw [hx g g2, if_neg (by omega)]; omega
        refine A_aload_n dX2_giveShares_18 rfl ?_
        refine A_getR dX2_giveShares_19 fl_RX2_12 (by assumption) (by rfl) ?_
        refine A_getR dX2_giveShares_22 fl_RX2_84 (by assumption) (by rfl) ?_
        refine A_aload_n dX2_giveShares_25 rfl ?_
        refine A_getR dX2_giveShares_26 fl_RX2_18 (by assumption) (by rfl) ?_
        refine A_iload_n dX2_giveShares_29 rfl ?_
        refine A_iald dX2_giveShares_30 (by assumption) (by omega) (by omega) ?_
        rw [w9, g1]
        refine A_dup2 dX2_giveShares_31 rfl rfl ?_
        refine A_iald dX2_giveShares_32 (by assumption) (by omega) (by omega) ?_
        rw [v0]
        refine A_aload_n dX2_giveShares_33 rfl ?_
        refine A_getR dX2_giveShares_34 fl_RX2_22 (by assumption) (by rfl) ?_
        refine A_iload_n dX2_giveShares_37 rfl ?_
        refine A_iald dX2_giveShares_38 (by assumption) (by omega) (by omega) ?_
        rw [w10, s1.1]
        refine A_iadd dX2_giveShares_39 ⟨by omega, by omega⟩ ?_
        refine A_iast dX2_giveShares_40 (by assumption) (by omega) (by omega) (fun M40 e40 k40 => ?_)
        refine A_iinc dX2_giveShares_41 (by decide) rfl rfl ⟨by omega, by omega⟩ ?_
        refine A_goto (tgt := 13) dX2_giveShares_44 (by decide) ?_
        refine ih _ ?_ (i + 1) M40 rfl (by omega) (fr_t hf (fun y hy => by rw [e40, upm_c (by omega)])) (fun y hy => by rw [e40, upm_c hy]; exact hf2 y hy) (fun k hk => ?_)
        · omega
        · rw [e40, upm_x]
          by_cases e : k = g
          · subst e
            rw [if_pos ⟨rfl, rfl⟩, if_pos ⟨g3, by omega⟩, g4]
          · rw [if_neg (fun z => e (by omega)), hx k hk]
            by_cases b : s.testBit k = true
            · by_cases r : rkN s k < i
              · rw [if_pos ⟨b, r⟩, if_pos ⟨b, by omega⟩]
              · rw [if_neg (fun z => r z.2), if_neg (fun z => e (rkN_inj b g3 (by omega)))]
            · rw [if_neg (fun z => b z.1), if_neg (fun z => b z.1)]
  exact lp _ 0 M8 rfl (by omega) q8a (fun y hy => rfl) (fun g hg => by rw [if_neg (by omega)]; exact (rC8.2.2 g (by omega) (by omega)).2.1.trans (by omega))

theorem hC_eq {T : TD} {C : CS} {s size : Nat} {a b : Fn} (h : agre a b size) (hz : rkN s (oF T) ≤ size) (hs : s < 2 ^ oF T) : hC C s a = hC C s b := by
  unfold hC
  congr 5
  congr 1
  funext k
  by_cases hb : s.testBit k.toNat = true
  · have hk : k.toNat < oF T := by
      rcases Nat.lt_or_ge k.toNat (oF T) with q | q
      · exact q
      · rw [Nat.testBit_lt_two_pow (Nat.lt_of_lt_of_le hs (p2_le q))] at hb
        cases hb
    have := rkN_lt (b := oF T) hk hb
    rw [if_pos hb, if_pos hb, h _ (by omega) (by omega)]
  · rw [if_neg hb, if_neg hb]
def frS (M M1 : Mem) (f : Nat) : Prop := ∀ y, ¬ (f + 1 ≤ y ∧ y ≤ f + 8) → y ≠ f + 10 → M1 y = M y
def sprT (T : TD) (C : CS) (s m size place : Nat) (left : Int) (sh row : Fn) : Prop := ∃ a : Fn, (∀ p : Int, 0 ≤ p → p < size → row p = a p) ∧ agre a sh place ∧ good T C s m a ∧ smN a size = smN sh place + left ∧ ∀ b, agre b sh place → good T C s m b → smN b size = smN sh place + left → nmN a size ≤ nmN b size
def sprF (T : TD) (C : CS) (s m size place : Nat) (left : Int) (sh : Fn) : Prop := ∀ b, agre b sh place → good T C s m b → smN b size ≠ smN sh place + left
def badv (T : TD) (C : CS) (s m size place : Nat) (left : Int) (sh : Fn) (v : Int) : Prop := ∀ b : Fn, agre b sh place → good T C s m b → b place = v → smN b size ≠ smN sh place + left
set_option maxRecDepth 100000 in
set_option maxHeartbeats 8000000 in
theorem c_spreads {E : EN} {f t n : Nat} {T : TD} {C : CS} {s m size : Nat} (hF : isFor E f t n) (hT : isTold E t) (hN : isCrs E n) (hd1 : t + 8 ≤ n) (hd2 : n + 8 ≤ f) (hwT : wT T) (hwC : wC T C) (hG : csG C ≤ 9999) (hs4 : size ≤ 4) (hsz : size = rkN s (oF T)) (hs : s < 2 ^ oF T) (hm : m ≤ 1000) (hun : ∀ g : Nat, g < oF T → s.testBit g = true → csF C g = -1) : ∀ (d : Nat) {l : Launch} {M : Mem} {place : Nat} {left : Int} {sh : Fn} (hd : place + d = size) (hrT : rT M t T) (hrC : rC M n T C) (hM : isMem (M (f + 9)) s (oF T) size) (hp : ∀ p : Int, 0 ≤ p → p < place → M (f + 10) p = sh p ∧ 0 ≤ sh p ∧ sh p ≤ 9) (hg : ∀ g : Nat, g < oF T → s.testBit g = true → rkN s g < place → csSw C g + sh (rkN s g) ≤ 9) (hl0 : 0 ≤ left) (hl1 : left ≤ 36) (hl2 : d = 0 → left = 0), Cn E l mX2_spreads (5 + d) [vR f, vI left, vI place, vI size, vI s, vI m] M (fun r M1 => ∃ z, r = vI z ∧ (frS M M1 f ∧ (∀ p : Int, 0 ≤ p → p < place → M1 (f + 10) p = M (f + 10) p) ∧ (z = 0 ∨ z = 1) ∧ (z = 1 → sprT T C s m size place left sh (M1 (f + 10))) ∧ (z = 0 → sprF T C s m size place left sh))) := by
  intro d
  induction d with
  | zero =>
    intro l M place left sh hd hrT hrC hM hp hg hl0 hl1 hl2
    refine Cn.of (by decide) rfl (Nat.le_of_ble_eq_true rfl) 4 rfl (fun oka okm G hR => ?_)
    obtain ⟨aF0, hTr, aF9, aF10, aF11, aF12⟩ := id hF
    have cT := crs_at hTr
    have cN := crs_at hN
    have tD := told_at hT
    obtain ⟨cT0, cT1, cT2, cT3, cT4, cT5, cT6, cT7⟩ := id hTr
    obtain ⟨cN0, cN1, cN2, cN3, cN4, cN5, cN6, cN7⟩ := id hN
    obtain ⟨aT0, aT1, aT2, aT3, aT4, aT5, aT6, aT7⟩ := id hT
    obtain ⟨⟨t0, t1, t2, t3, t4⟩, tk, tt, tf⟩ := id hrT
    obtain ⟨⟨c0, c1, c2, c3⟩, cs, cf⟩ := id hrC
    obtain ⟨wt0, wtk, wtt, wtf⟩ := id hwT
    obtain ⟨wc0, wcs, wcf⟩ := id hwC
    have gd : ∀ g : Nat, g < oF T → s.testBit g = true → 0 ≤ sh (rkN s g) ∧ csSw C g + sh (rkN s g) ≤ 9 := fun g a b => by
      have := rkN_lt (b := oF T) a b
      exact ⟨(hp _ (by omega) (by omega)).2.1, hg g a b (by omega)⟩
    refine A_iload_n dX2_spreads_0 rfl ?_
    refine A_iload_n dX2_spreads_1 rfl ?_
    refine A_icmp_lt (tgt := 26) dX2_spreads_2 (by decide) (fun h2 => ?_) (fun h2 => ?_)
    · skip
      omega
    · skip
      refine A_aload_n dX2_spreads_5 rfl ?_
      refine A_iload_n dX2_spreads_6 rfl ?_
      refine A_vV1 (mj := mX2_giveShares) dX2_spreads_7 hR.rm (by omega) ok_X2_giveShares mv_X2_giveShares ml_RX2_80 (by assumption) rfl rfl rfl (c_giveShares (sh := sh) hF hT hN hd1 hd2 hrT hrC hwT hwC hG hs4 hsz hM (fun p a b => hp p a (by omega))) (fun M7 k7 q7 => ?_)
      obtain ⟨q7a, q7b⟩ := q7
      refine A_aload_n dX2_spreads_10 rfl ?_
      refine A_getR dX2_spreads_11 fl_RX2_12 (by assumption) (by rfl) ?_
      refine A_aload_n dX2_spreads_14 rfl ?_
      refine A_getR dX2_spreads_15 fl_RX2_31 (by assumption) (by rfl) ?_
      refine A_iload dX2_spreads_18 rfl ?_
      refine A_iload dX2_spreads_20 rfl ?_
      refine A_vI3 (mj := mX0_runUntilFiled) dX2_spreads_22 hR.rm (by omega) ok_X0_runUntilFiled mv_X0_runUntilFiled ml_RX2_46 (by assumption) rfl rfl rfl (c_runUntil (C := hC C s sh) (s := s) (n := m) hTr hT (by omega) (rT_fr hrT q7a (by omega)) q7b hwT (hC_w hwC gd) (by show csG C < 100000; omega) hm hs) (fun z22 M22 g22 k22 q22 => ?_)
      obtain ⟨q22a, z0, hu⟩ := q22
      have f22 : fr M M22 (f + 1) 8 := fr_t q7a q22a
      obtain ⟨jj, -, -, -, kz⟩ := hu
      exact A_zret hR dX2_spreads_25 rfl (by first | exact Or.inl rfl | exact Or.inr rfl | omega) ⟨_, rfl, fun y a b => f22 y (by omega), fun p a b => by rw [f22 _ (by omega)], z0, fun z => ⟨sh, fun p a b => by rw [f22 _ (by omega)]; exact (hp p a (by omega)).1, fun _ _ _ => rfl, ⟨gd, kz.mp z⟩, by rw [hl2 rfl, show size = place by omega]; omega, fun b hb _ _ => by rw [agre_nm size (fun p x y => hb p x (by omega))]; omega⟩, fun z b hb hgb _ => by
              have e := hC_eq (T := T) (C := C) (a := b) (b := sh) (size := size) (fun p x y => hb p x (by omega)) (by omega) hs
              have r := hgb.2
              rw [e] at r
              have := kz.mpr r
              omega⟩
  | succ d ihd =>
    intro l M place left sh hd hrT hrC hM hp hg hl0 hl1 hl2
    refine Cn.of (by decide) rfl (Nat.le_of_ble_eq_true rfl) 4 rfl (fun oka okm G hR => ?_)
    obtain ⟨aF0, hTr, aF9, aF10, aF11, aF12⟩ := id hF
    have cT := crs_at hTr
    have cN := crs_at hN
    have tD := told_at hT
    obtain ⟨cT0, cT1, cT2, cT3, cT4, cT5, cT6, cT7⟩ := id hTr
    obtain ⟨cN0, cN1, cN2, cN3, cN4, cN5, cN6, cN7⟩ := id hN
    obtain ⟨aT0, aT1, aT2, aT3, aT4, aT5, aT6, aT7⟩ := id hT
    obtain ⟨⟨t0, t1, t2, t3, t4⟩, tk, tt, tf⟩ := id hrT
    obtain ⟨⟨c0, c1, c2, c3⟩, cs, cf⟩ := id hrC
    obtain ⟨wt0, wtk, wtt, wtf⟩ := id hwT
    obtain ⟨wc0, wcs, wcf⟩ := id hwC
    refine A_iload_n dX2_spreads_0 rfl ?_
    refine A_iload_n dX2_spreads_1 rfl ?_
    refine A_icmp_lt (tgt := 26) dX2_spreads_2 (by decide) (fun h2 => ?_) (fun h2 => ?_)
    · skip
      obtain ⟨g, g1, g2, g3, g4⟩ := hM place (by omega) (by omega)
      have wg := wcf g (by omega) (by omega)
      refine A_aload_n dX2_spreads_26 rfl ?_
      refine A_getR dX2_spreads_27 fl_RX2_35 (by assumption) (by rfl) ?_
      refine A_getR dX2_spreads_30 fl_RX2_84 (by assumption) (by rfl) ?_
      refine A_aload_n dX2_spreads_33 rfl ?_
      refine A_getR dX2_spreads_34 fl_RX2_18 (by assumption) (by rfl) ?_
      refine A_iload_n dX2_spreads_37 rfl ?_
      refine A_iald dX2_spreads_38 (by assumption) (by omega) (by omega) ?_
      rw [g1]
      refine A_iald dX2_spreads_39 (by assumption) (by omega) (by omega) ?_
      rw [(cf g (by omega) (by omega)).2.1]
      refine A_istore dX2_spreads_40 (by decide) rfl ?_
      have j54 : ∀ l0 : Int, (l0 = 0 ∨ l0 = 1) → (l0 = 1 → csSw C g = 0) → AW E mX2_spreads G 0 0 54 [vR f, vI left, vI place, vI size, vI s, vI m, vI (csSw C g), vI l0, vU, vU] [] M := by
        intro l0 hl01 hl0
        have bad0 : ∀ v : Int, 0 ≤ v → v < l0 → badv T C s m size place left sh v := fun v a b0 b hb hgb hv => by
          have e0 : csSw C g = 0 := hl0 (by omega)
          have := (dry_it (T := T) (C := hC C s b) (f := (g : Int)) (by omega) (hun g g2 g3) (by
            show csSw C g + (if s.testBit (g : Int).toNat = true then b (rkN s (g : Int).toNat) else 0) = 0
            rw [show (g : Int).toNat = g by omega, if_pos g3, g4, e0, hv]; omega) m).1
          exact absurd this (hgb.2 g g2 g3)
        have j80 : ∀ le : Int, 0 ≤ le → le ≤ 36 → (∀ v : Int, 0 ≤ v → v < le → badv T C s m size place left sh v) → (d = 0 → left ≤ le) → AW E mX2_spreads G 0 0 80 [vR f, vI left, vI place, vI size, vI s, vI m, vI (csSw C g), vI le, vI (min left (9 - csSw C g)), vU] [] M := by
          intro le le0 le1 hb0 hdl
          refine A_iload dX2_spreads_80 rfl ?_
          refine A_istore dX2_spreads_82 (by decide) rfl ?_
          have lp : ∀ (k : Nat) (v : Nat) (M1 : Mem), 100 - v = k → (le ≤ v) → (v ≤ 50) → (frS M M1 f) → (∀ p : Int, 0 ≤ p → p < place → M1 (f + 10) p = sh p) → (∀ w : Int, 0 ≤ w → w < v → badv T C s m size place left sh w) → AW E mX2_spreads G 0 0 84 [vR f, vI left, vI place, vI size, vI s, vI m, vI (csSw C g), vI le, vI (min left (9 - csSw C g)), vI v] [] M1 := by
            intro k
            induction k using Nat.strongRecOn with
            | ind k ih =>
              intro v M1 hk hv0 hv1 hf hpre hbad
              refine A_iload dX2_spreads_84 rfl ?_
              refine A_iload dX2_spreads_86 rfl ?_
              refine A_icmp_gt (tgt := 126) dX2_spreads_88 (by decide) (fun h88 => ?_) (fun h88 => ?_)
              · skip
                refine A_iconst dX2_spreads_126 (by decide) ?_
                refine A_zret hR dX2_spreads_127 rfl (Or.inl rfl) ⟨_, rfl, hf, fun p a b => by rw [hpre p a b, (hp p a (by omega)).1], Or.inl rfl, fun h => absurd h (by decide), fun _ b hb hgb hsum => ?_⟩
                have dg := good_d hM hwC hgb
                have dp := dg place (by omega) (by omega)
                by_cases e : b place < v
                · exact hbad _ dp.1 e b hb hgb rfl hsum
                · have q1 := hgb.1 g g2 g3
                  rw [g4] at q1
                  have q2 := (sm_split (k := place + 1) size (by omega) dg).1
                  rw [smN, agre_sm place hb] at q2
                  omega
              · skip
                refine A_aload_n dX2_spreads_91 rfl ?_
                refine A_getR dX2_spreads_92 fl_RX2_22 (by assumption) (by rfl) ?_
                refine A_iload_n dX2_spreads_95 rfl ?_
                refine A_iload dX2_spreads_96 rfl ?_
                refine A_iast dX2_spreads_98 (by assumption) (by omega) (by omega) (fun M98 e98 k98 => ?_)
                have rT98 : rT M98 t T := rT_fr hrT (c := f) (n := 13) (fun y hy => by rw [e98, upm_c (by omega)]; exact hf y (by omega) (by omega)) (by omega)
                have rC98 : rC M98 n T C := rC_fr hrC (c := f) (n := 13) (fun y hy => by rw [e98, upm_c (by omega)]; exact hf y (by omega) (by omega)) (by omega)
                have sm1 : smN (fun p => if p = place then (v : Int) else sh p) (place + 1) = smN sh place + v := by
                  rw [smN, if_pos rfl, agre_sm place (fun p x y => if_neg (by omega))]
                have c112 := ihd (l := gl G) (M := M98) (place := place + 1) (left := left - v) (sh := fun p => if p = place then (v : Int) else sh p) (by omega) rT98 rC98 (by rw [e98, upm_c (by omega), hf _ (by omega) (by omega)]; exact hM) (fun p a b => by
                  rw [e98, upm_x]
                  by_cases ep : p = place
                  · rw [if_pos ⟨rfl, ep⟩, if_pos ep]; omega
                  · rw [if_neg (fun z => ep z.2), if_neg ep]
                    exact ⟨hpre p a (by omega), (hp p a (by omega)).2⟩) (fun k a b c => by
                  by_cases ep : rkN s k = place
                  · rw [if_pos (by omega), rkN_inj b g3 (by omega)]; omega
                  · rw [if_neg (by omega)]; exact hg k a b (by omega)) (by omega) (by omega) (fun h => by omega)
                refine A_aload_n dX2_spreads_99 rfl ?_
                refine A_iload_n dX2_spreads_100 rfl ?_
                refine A_iload dX2_spreads_101 rfl ?_
                refine A_isub dX2_spreads_103 ⟨by omega, by omega⟩ ?_
                refine A_iload_n dX2_spreads_104 rfl ?_
                refine A_iconst dX2_spreads_105 (by decide) ?_
                refine A_iadd dX2_spreads_106 ⟨by omega, by omega⟩ ?_
                refine A_iload_n dX2_spreads_107 rfl ?_
                refine A_iload dX2_spreads_108 rfl ?_
                refine A_iload dX2_spreads_110 rfl ?_
                refine A_vI5 (mj := mX2_spreads) dX2_spreads_112 hR.rm (by omega) ok_X2_spreads mv_X2_spreads ml_RX2_63 (by assumption) rfl rfl rfl (c112) (fun z112 M112 g112 k112 q112 => ?_)
                obtain ⟨f112x, p112, z0, zT, zF⟩ := q112
                have f112 : frS M M112 f := fun y a b => by rw [f112x y a b, e98, upm_c b]; exact hf y a b
                refine A_if_eq (tgt := 120) dX2_spreads_115 (by decide) (fun h115 => ?_) (fun h115 => ?_)
                · skip
                  refine A_iinc dX2_spreads_120 (by decide) rfl rfl ⟨by omega, by omega⟩ ?_
                  refine A_goto (tgt := 84) dX2_spreads_123 (by decide) ?_
                  refine ih _ ?_ (v + 1) M112 rfl (by omega) (by omega) f112 (fun p a b => by rw [p112 p a (by omega), e98, upm_k (by omega)]; exact hpre p a b) (fun w a b0 => ?_)
                  · omega
                  · by_cases e : w < v
                    · exact hbad w a e
                    · intro b hb hgb hw hsum
                      have := zF h115 b (fun p x y => by
                        show b p = if p = place then (v : Int) else sh p
                        by_cases ep : p = place
                        · rw [if_pos ep, ep, hw]; omega
                        · rw [if_neg ep]; exact hb p x (by omega)) hgb
                      exact this (by rw [sm1]; omega)
                · skip
                  refine A_iconst dX2_spreads_118 (by decide) ?_
                  refine A_zret hR dX2_spreads_119 rfl (Or.inr rfl) ⟨_, rfl, f112, fun p a b => by rw [p112 p a (by omega), e98, upm_k (by omega), hpre p a b, (hp p a (by omega)).1], Or.inr rfl, fun _ => ?_, fun h => absurd h (by decide)⟩
                  obtain ⟨a, a1, a2, a3, a4, a5⟩ := zT (by omega)
                  have ap : a place = v := (a2 place (by omega) (by omega)).trans (if_pos rfl)
                  have a2' : agre a sh place := fun p x y => (a2 p x (by omega)).trans (if_neg (by omega))
                  refine ⟨a, a1, a2', a3, by rw [a4, sm1]; omega, fun b hb hgb hsum => ?_⟩
                  have dg := good_d hM hwC hgb
                  have dp := dg place (by omega) (by omega)
                  by_cases e : b place < v
                  · exact absurd hsum (hbad _ dp.1 e b hb hgb rfl)
                  · by_cases e2 : b place = v
                    · exact a5 b (fun p x y => by
                        show b p = if p = place then (v : Int) else sh p
                        by_cases ep : p = place
                        · rw [if_pos ep, ep, e2]
                        · rw [if_neg ep]; exact hb p x (by omega)) hgb (by rw [sm1]; omega)
                    · have := nm_lt (k := place) (fun p x y => (a2' p x y).trans (hb p x y).symm) (by omega) size (by omega) (fun p x y => ⟨good_d hM hwC a3 p x y, dg p x y⟩)
                      omega
          have el : ((le.toNat : Nat) : Int) = le := by omega
          have h := lp _ le.toNat M rfl (by omega) (by omega) (fun y a b => rfl) (fun p a b => (hp p a (by omega)).1) (fun w a b => hb0 w a (by omega))
          rw [el] at h
          exact h
        refine A_iload_n dX2_spreads_54 rfl ?_
        refine A_bipush dX2_spreads_55 bp_9 (by decide) ?_
        refine A_iload dX2_spreads_57 rfl ?_
        refine A_isub dX2_spreads_59 ⟨by omega, by omega⟩ ?_
        refine A_mmin (d := (5 + (d + 1))) dX2_spreads_60 hR.rm (by omega) ml_RX2_87 rfl ?_
        refine A_istore dX2_spreads_63 (by decide) rfl ?_
        refine A_iload_n dX2_spreads_65 rfl ?_
        refine A_iload_n dX2_spreads_66 rfl ?_
        refine A_iconst dX2_spreads_67 (by decide) ?_
        refine A_isub dX2_spreads_68 ⟨by omega, by omega⟩ ?_
        refine A_icmp_ne (tgt := 80) dX2_spreads_69 (by decide) (fun h69 => ?_) (fun h69 => ?_)
        · skip
          first
          | exact j80 l0 (by omega) (by omega) bad0 (fun h => by omega)
          | exact j80 (max l0 left) (by omega) (by omega) (fun v a b0 => by
              by_cases e : v < l0
              · exact bad0 v a e
              · intro b hb hgb hv
                rw [show size = place + 1 by omega, smN, agre_sm place hb, hv]
                omega) (fun h => by omega)
        · skip
          refine A_iload dX2_spreads_72 rfl ?_
          refine A_iload_n dX2_spreads_74 rfl ?_
          refine A_mmax (d := (5 + (d + 1))) dX2_spreads_75 hR.rm (by omega) ml_RX2_93 rfl ?_
          refine A_istore dX2_spreads_78 (by decide) rfl ?_
          first
          | exact j80 l0 (by omega) (by omega) bad0 (fun h => by omega)
          | exact j80 (max l0 left) (by omega) (by omega) (fun v a b0 => by
              by_cases e : v < l0
              · exact bad0 v a e
              · intro b hb hgb hv
                rw [show size = place + 1 by omega, smN, agre_sm place hb, hv]
                omega) (fun h => by omega)
      refine A_iload dX2_spreads_42 rfl ?_
      refine A_if_ne (tgt := 51) dX2_spreads_44 (by decide) (fun h44 => ?_) (fun h44 => ?_)
      · skip
        refine A_iconst dX2_spreads_51 (by decide) ?_
        refine A_istore dX2_spreads_52 (by decide) rfl ?_
        first | exact j54 0 (Or.inl rfl) (fun h => absurd h (by decide)) | exact j54 1 (Or.inr rfl) (fun _ => by assumption)
      · skip
        refine A_iconst dX2_spreads_47 (by decide) ?_
        refine A_goto (tgt := 52) dX2_spreads_48 (by decide) ?_
        refine A_istore dX2_spreads_52 (by decide) rfl ?_
        first | exact j54 0 (Or.inl rfl) (fun h => absurd h (by decide)) | exact j54 1 (Or.inr rfl) (fun _ => by assumption)
    · skip
      omega

