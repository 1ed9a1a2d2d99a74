/-! HONEY -/
/-- how many of a set are below -/
def rkN (s : Nat) : Nat → Nat
  | 0 => 0
  | g + 1 => rkN s g + if s.testBit g = true then 1 else 0
theorem rkN_m (s : Nat) {a b : Nat} (h : a ≤ b) : rkN s a ≤ rkN s b := by
  induction b with
  | zero => rw [show a = 0 by omega]; exact Nat.le_refl _
  | succ b ih =>
    by_cases e : a = b + 1
    · rw [e]; exact Nat.le_refl _
    · have := ih (by omega)
      have q : rkN s (b + 1) = rkN s b + if s.testBit b = true then 1 else 0 := rfl
      omega
theorem rkN_lt {s a b : Nat} (h : a < b) (ha : s.testBit a = true) : rkN s a < rkN s b := by
  have h1 := rkN_m s (show a + 1 ≤ b by omega)
  have h2 : rkN s (a + 1) = rkN s a + 1 := by rw [rkN, if_pos ha]
  omega
theorem rkN_inj {s a b : Nat} (ha : s.testBit a = true) (hb : s.testBit b = true) (h : rkN s a = rkN s b) : a = b := by
  rcases Nat.lt_trichotomy a b with q | q | q
  · have := rkN_lt q ha; omega
  · exact q
  · have := rkN_lt q hb; omega
/-- with more sweetness for a set's files -/
def hC (C : CS) (s : Nat) (sh : Fn) : CS := (csW C, csG C, csQ C, csS C, csA C, fun g => csSw C g + (if s.testBit g.toNat = true then sh (rkN s g.toNat) else 0), csC C, csF C)
/-- the row of a set's files -/
def isMem (S : Fn) (s n size : Nat) : Prop := ∀ p : Int, 0 ≤ p → p < size → ∃ g : Nat, S p = g ∧ g < n ∧ s.testBit g = true ∧ (rkN s g : Int) = p
/-- a row of honey by which all come right -/
def good (T : TD) (C : CS) (s m : Nat) (sh : Fn) : Prop := (∀ g : Nat, g < oF T → s.testBit g = true → 0 ≤ sh (rkN s g) ∧ csSw C g + sh (rkN s g) ≤ 9) ∧ rdy T s (itC T (hC C s sh) m)
def nmN (S : Fn) : Nat → Int
  | 0 => 0
  | n + 1 => 10 * nmN S n + S n
def agre (a b : Fn) (n : Nat) : Prop := ∀ p : Int, 0 ≤ p → p < n → a p = b p
theorem agre_nm {a b : Fn} : ∀ n : Nat, agre a b n → nmN a n = nmN b n
  | 0, _ => rfl
  | n + 1, h => by
    rw [nmN, nmN, agre_nm n (fun p x y => h p x (by omega)), h n (by omega) (by omega)]
theorem agre_sm {a b : Fn} : ∀ n : Nat, agre a b n → smN a n = smN b n
  | 0, _ => rfl
  | n + 1, h => by
    rw [smN, smN, agre_sm n (fun p x y => h p x (by omega)), h n (by omega) (by omega)]
theorem nm_lt {a b : Fn} {k : Nat} (h : agre a b k) (hl : a k < b k) : ∀ n : Nat, k < n → (∀ p : Int, 0 ≤ p → p < n → (0 ≤ a p ∧ a p ≤ 9) ∧ 0 ≤ b p ∧ b p ≤ 9) → nmN a n < nmN b n
  | 0, x, _ => by omega
  | n + 1, x, hd => by
    have d := hd n (by omega) (by omega)
    by_cases e : k = n
    · subst e
      rw [nmN, nmN, agre_nm k h]; omega
    · have := nm_lt h hl n (by omega) (fun p x y => hd p x (by omega))
      rw [nmN, nmN]; omega
theorem sm_split {a : Fn} {k : Nat} : ∀ n : Nat, k ≤ n → (∀ p : Int, 0 ≤ p → p < n → 0 ≤ a p ∧ a p ≤ 9) → smN a k ≤ smN a n ∧ smN a n ≤ smN a k + 9 * ((n : Int) - k)
  | 0, x, _ => by rw [show k = 0 by omega]; omega
  | n + 1, x, hd => by
    have d := hd n (by omega) (by omega)
    by_cases e : k = n + 1
    · rw [e]; omega
    · have := sm_split (k := k) n (by omega) (fun p x y => hd p x (by omega))
      rw [smN]; omega
/-- a good row's figures -/
theorem good_d {T : TD} {C : CS} {s m size : Nat} {S sh : Fn} (hm : isMem S s (oF T) size) (hC0 : wC T C) (h : good T C s m sh) : ∀ p : Int, 0 ≤ p → p < size → 0 ≤ sh p ∧ sh p ≤ 9 := by
  intro p x y
  obtain ⟨g, -, g1, g2, g3⟩ := hm p x y
  have q := h.1 g g1 g2
  rw [g3] at q
  have w := hC0.2.2 g (by omega) (by omega)
  omega
theorem hC_w {T : TD} {C : CS} {s : Nat} {sh : Fn} (h : wC T C) (hs : ∀ g : Nat, g < oF T → s.testBit g = true → 0 ≤ sh (rkN s g) ∧ csSw C g + sh (rkN s g) ≤ 9) : wC T (hC C s sh) := by
  obtain ⟨a, b, c⟩ := h
  refine ⟨a, b, fun k x y => ?_⟩
  have q := c k x y
  have e : ((k.toNat : Nat) : Int) = k := by omega
  have w : 0 ≤ csSw (hC C s sh) k ∧ csSw (hC C s sh) k ≤ 9 := by
    show 0 ≤ csSw C k + (if s.testBit k.toNat = true then sh (rkN s k.toNat) else 0) ∧ csSw C k + (if s.testBit k.toNat = true then sh (rkN s k.toNat) else 0) ≤ 9
    by_cases hb : s.testBit k.toNat = true
    · have r := hs k.toNat (by omega) hb
      rw [e] at r
      rw [if_pos hb]; omega
    · rw [if_neg hb]; omega
  exact ⟨q.1, q.2.1, w.1, w.2, q.2.2.2.2⟩
theorem hC_ext {T : TD} {C : CS} {s size : Nat} {a b : Fn} (h : agre a b size) (hs : rkN s (oF T) ≤ size) : ∀ k : Int, 0 ≤ k → k < oF T → csSw (hC C s a) k = csSw (hC C s b) k := fun k x y => by
  show csSw C k + (if s.testBit k.toNat = true then a (rkN s k.toNat) else 0) = csSw C k + (if s.testBit k.toNat = true then b (rkN s k.toNat) else 0)
  by_cases hb : s.testBit k.toNat = true
  · have := rkN_lt (b := oF T) (by omega) hb
    rw [if_pos hb, if_pos hb, h _ (by omega) (by omega)]
  · rw [if_neg hb, if_neg hb]
theorem b_shr : ∀ s : Nat, s < 64 → ∀ g : Nat, g < 6 → i32 (s : Int) >>> (i32 (g : Int) &&& 31) = i32 ((s / 2 ^ g : Nat) : Int) := by decide +kernel
theorem b_a1 (n : Nat) : i32 (n : Int) &&& i32 1 = i32 ((n % 2 : Nat) : Int) := by
  have := b_and n 1
  rw [Nat.and_one_is_mod] at this
  exact this
theorem tb_iff (s g : Nat) : (s / 2 ^ g % 2 = 0 ↔ ¬ s.testBit g = true) := by
  rw [Nat.testBit_eq_decide_div_mod_eq]
  simp only [decide_eq_true_eq]
  omega
set_option maxRecDepth 100000 in
set_option maxHeartbeats 4000000 in
theorem c_giveShares {E : EN} {l : Launch} {M : Mem} {f t n : Nat} {T : TD} {C : CS}{s size : Nat} {sh : Fn}(hF : isFor E f t n) (hT : isTold E t) (hN : isCrs E n) (hd1 : t + 8 ≤ n) (hd2 : n + 8 ≤ f) (hrT : rT M t T) (hrC : rC M n T C) (hwT : wT T) (hwC : wC T C) (hG : csG C ≤ 9999)(hs4 : size ≤ 4) (hsz : size = rkN s (oF T)) (hM : isMem (M (f + 9)) s (oF T) size) (hsh : ∀ p : Int, 0 ≤ p → p < size → M (f + 10) p = sh p ∧ 0 ≤ sh p ∧ sh p ≤ 9) : Cn E l mX2_giveShares 2 [vR f, vI size] M (fun r M1 => r = vU ∧ (fr M M1 (f + 1) 8 ∧ rC M1 (f + 1) T (hC C s sh))) := by
  refine Cn.of (by decide) rfl (Nat.le_of_ble_eq_true rfl) 1 rfl (fun oka okm G hR => ?_)
  obtain ⟨aF0, hTr, aF9, aF10, aF11, aF12⟩ := id hF
  have cT := crs_at hTr
  have cN := crs_at hN
  have tD := told_at hT
  obtain ⟨cT0, cT1, cT2, cT3, cT4, cT5, cT6, cT7⟩ := id hTr
  obtain ⟨cN0, cN1, cN2, cN3, cN4, cN5, cN6, cN7⟩ := id hN
  obtain ⟨aT0, aT1, aT2, aT3, aT4, aT5, aT6, aT7⟩ := id hT
  obtain ⟨⟨t0, t1, t2, t3, t4⟩, tk, tt, tf⟩ := id hrT
  obtain ⟨⟨c0, c1, c2, c3⟩, cs, cf⟩ := id hrC
  obtain ⟨wt0, wtk, wtt, wtf⟩ := id hwT
  obtain ⟨wc0, wcs, wcf⟩ := id hwC
  refine A_aload_n dX2_giveShares_0 rfl ?_
  refine A_getR dX2_giveShares_1 fl_RX2_12 (by assumption) (by rfl) ?_
  refine A_aload_n dX2_giveShares_4 rfl ?_
  refine A_getR dX2_giveShares_5 fl_RX2_35 (by assumption) (by rfl) ?_
  refine A_vV1 (mj := mX0_takeFrom) dX2_giveShares_8 hR.rm (by decide) ok_X0_takeFrom mv_X0_takeFrom ml_RX2_38 (by assumption) rfl rfl rfl (c_takeC hTr hN (by omega)) (fun M8 k8 q8 => ?_)
  obtain ⟨q8a, q8b, q8c, q8d⟩ := q8
  have rT8 : rT M8 t T := rT_fr hrT q8a (by omega)
  have rC8 : rC M8 (f + 1) T C := rC_cp hrC q8b q8c q8d hwT
  refine A_iconst dX2_giveShares_11 (by decide) ?_
  refine A_istore_n dX2_giveShares_12 (by decide) rfl ?_
  have lp : ∀ (k : Nat) (i : Nat) (M1 : Mem), size - i = k → (i ≤ size) → (fr M M1 (f + 1) 8) → (∀ y, y ≠ f + 4 → M1 y = M8 y) → (∀ g : Nat, g < oF T → M1 (f + 4) g = csSw C g + if s.testBit g = true ∧ rkN s g < i then sh (rkN s g) else 0) → AW E mX2_giveShares G 0 0 13 [vR f, vI size, vI i] [] M1 := by
    intro k
    induction k using Nat.strongRecOn with
    | ind k ih =>
      intro i M1 hk h0 hf hf2 hx
      refine A_iload_n dX2_giveShares_13 rfl ?_
      refine A_iload_n dX2_giveShares_14 rfl ?_
      refine A_icmp_ge (tgt := 47) dX2_giveShares_15 (by decide) (fun h15 => ?_) (fun h15 => ?_)
      · skip
        have hi : i = size := by omega
        subst hi
        exact A_vret hR dX2_giveShares_47 rfl ⟨rfl, hf, ⟨⟨by rw [hf2 _ (by omega)]; exact rC8.1.1, by rw [hf2 _ (by omega)]; exact rC8.1.2.1, by rw [hf2 _ (by omega)]; exact rC8.1.2.2.1, by rw [hf2 _ (by omega)]; exact rC8.1.2.2.2⟩, fun k x y => by rw [hf2 _ (by omega)]; exact rC8.2.1 k x y, fun k x y => by
          have q := rC8.2.2 k x y
          refine ⟨by rw [hf2 _ (by omega)]; exact q.1, ?_, by rw [hf2 _ (by omega)]; exact q.2.2.1, by rw [hf2 _ (by omega)]; exact q.2.2.2⟩
          have v := hx k.toNat (by omega)
          rw [show ((k.toNat : Nat) : Int) = k by omega] at v
          rw [show f + 1 + 3 = f + 4 from rfl, v]
          show _ = csSw C k + (if s.testBit k.toNat = true then sh (rkN s k.toNat) else 0)
          by_cases b : s.testBit k.toNat = true
          · rw [if_pos ⟨b, by have := rkN_lt (b := oF T) (by omega) b; omega⟩, if_pos b]
          · rw [if_neg (fun z => b z.1), if_neg b]⟩⟩
      · skip
        obtain ⟨g, g1, g2, g3, g4⟩ := hM i (by omega) (by omega)
        have w9 : M1 (f + 9) = M (f + 9) := hf _ (by omega)
        have w10 : M1 (f + 10) = M (f + 10) := hf _ (by omega)
        have s1 := hsh i (by omega) (by omega)
        have wg := wcf g (by omega) (by omega)
        have v0 : M1 (f + 4) g = csSw C g := by rw [hx g g2, if_neg (by omega)]; omega
        refine A_aload_n dX2_giveShares_18 rfl ?_
        refine A_getR dX2_giveShares_19 fl_RX2_12 (by assumption) (by rfl) ?_
        refine A_getR dX2_giveShares_22 fl_RX2_84 (by assumption) (by rfl) ?_
        refine A_aload_n dX2_giveShares_25 rfl ?_
        refine A_getR dX2_giveShares_26 fl_RX2_18 (by assumption) (by rfl) ?_
        refine A_iload_n dX2_giveShares_29 rfl ?_
        refine A_iald dX2_giveShares_30 (by assumption) (by omega) (by omega) ?_
        rw [w9, g1]
        refine A_dup2 dX2_giveShares_31 rfl rfl ?_
        refine A_iald dX2_giveShares_32 (by assumption) (by omega) (by omega) ?_
        rw [v0]
        refine A_aload_n dX2_giveShares_33 rfl ?_
        refine A_getR dX2_giveShares_34 fl_RX2_22 (by assumption) (by rfl) ?_
        refine A_iload_n dX2_giveShares_37 rfl ?_
        refine A_iald dX2_giveShares_38 (by assumption) (by omega) (by omega) ?_
        rw [w10, s1.1]
        refine A_iadd dX2_giveShares_39 ⟨by omega, by omega⟩ ?_
        refine A_iast dX2_giveShares_40 (by assumption) (by omega) (by omega) (fun M40 e40 k40 => ?_)
        refine A_iinc dX2_giveShares_41 (by decide) rfl rfl ⟨by omega, by omega⟩ ?_
        refine A_goto (tgt := 13) dX2_giveShares_44 (by decide) ?_
        refine ih _ ?_ (i + 1) M40 rfl (by omega) (fr_t hf (fun y hy => by rw [e40, upm_c (by omega)])) (fun y hy => by rw [e40, upm_c hy]; exact hf2 y hy) (fun k hk => ?_)
        · omega
        · rw [e40, upm_x]
          by_cases e : k = g
          · subst e
            rw [if_pos ⟨rfl, rfl⟩, if_pos ⟨g3, by omega⟩, g4]
          · rw [if_neg (fun z => e (by omega)), hx k hk]
            by_cases b : s.testBit k = true
            · by_cases r : rkN s k < i
              · rw [if_pos ⟨b, r⟩, if_pos ⟨b, by omega⟩]
              · rw [if_neg (fun z => r z.2), if_neg (fun z => e (rkN_inj b g3 (by omega)))]
            · rw [if_neg (fun z => b z.1), if_neg (fun z => b z.1)]
  exact lp _ 0 M8 rfl (by omega) q8a (fun y hy => rfl) (fun g hg => by rw [if_neg (by omega)]; exact (rC8.2.2 g (by omega) (by omega)).2.1.trans (by omega))

