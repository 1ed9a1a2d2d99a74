/-! THE MODEL: its picture, and a minute -/
def isMod (E : EN) (m : Nat) : Prop := At E m (.inl (8, [rf (m + 1), rf (m + 2), rf (m + 3), none, rf (m + 4), none, none, rf (m + 5), rf (m + 6), rf (m + 7), none, rf (m + 8), none, none, none, none, none, none, none, none, rf (m + 9), rf (m + 10), rf (m + 11), none, rf (m + 12)])) ∧ At E (m + 1) (aI 195 nG) ∧ At E (m + 2) (aZ 2 nG) ∧ At E (m + 3) (aI 200 nG) ∧ At E (m + 4) (aI 48 nG) ∧ At E (m + 5) (aI 8 nG) ∧ At E (m + 6) (aI 12 nG) ∧ At E (m + 7) (aI 12 nG) ∧ At E (m + 8) (aI 6 nG) ∧ At E (m + 9) (aI 6 nG) ∧ At E (m + 10) (aI 8 nG) ∧ At E (m + 11) (aI 18 nG) ∧ At E (m + 12) (aI 8 nG)
def rI (M : Mem) (m : Nat) (T : TD) : Prop := (M m 6 = oD T ∧ M m 10 = oT T ∧ M m 12 = oF T ∧ M m 13 = oFa T) ∧ (∀ k : Int, 0 ≤ k → k < 8 → M (m + 5) k = oK T k) ∧ (∀ k : Int, 0 ≤ k → k < oT T → M (m + 6) k = oA T k ∧ M (m + 7) k = oB T k) ∧ ∀ k : Int, 0 ≤ k → k < oF T → M (m + 8) k = oE T k
def rM (M : Mem) (m b : Nat) (T : TD) (C : CS) : Prop := (M (m + 1) b = csG C ∧ M (m + 1) (b + 1) = csW C ∧ M (m + 1) (b + 2) = csQ C) ∧ (∀ k : Int, 0 ≤ k → k < oT T → M (m + 1) (b + 3 + k) = csS C k) ∧ ∀ k : Int, 0 ≤ k → k < oF T → M (m + 1) (b + 15 + k) = csA C k ∧ M (m + 1) (b + 21 + k) = csSw C k ∧ M (m + 1) (b + 27 + k) = csC C k ∧ M (m + 1) (b + 33 + k) = csF C k
theorem rI_fr {M M1 : Mem} {m : Nat} {T : TD} (h : rI M m T) (hf : ∀ y, y = m ∨ y = m + 5 ∨ y = m + 6 ∨ y = m + 7 ∨ y = m + 8 → M1 y = M y) : rI M1 m T := by
  unfold rI
  rw [hf m (by omega), hf (m + 5) (by omega), hf (m + 6) (by omega), hf (m + 7) (by omega), hf (m + 8) (by omega)]
  exact h
theorem rM_fr {M M1 : Mem} {m b : Nat} {T : TD} {C : CS} (h : rM M m b T C) (hT : wT T) (hf : ∀ k : Int, (b : Int) ≤ k → k < b + 39 → M1 (m + 1) k = M (m + 1) k) : rM M1 m b T C := by
  obtain ⟨⟨a1, a2, a3⟩, a4, a5⟩ := h
  have w := hT.1
  refine ⟨⟨by rw [hf _ (by omega) (by omega)]; exact a1, by rw [hf _ (by omega) (by omega)]; exact a2, by rw [hf _ (by omega) (by omega)]; exact a3⟩, fun k x y => by rw [hf _ (by omega) (by omega)]; exact a4 k x y, fun k x y => ?_⟩
  rw [hf _ (by omega) (by omega), hf _ (by omega) (by omega), hf _ (by omega) (by omega), hf _ (by omega) (by omega)]
  exact a5 k x y
/-- only a standing, and what is carried, are changed -/
def frM (M M1 : Mem) (m b : Nat) : Prop := (∀ y, y ≠ m + 1 → y ≠ m + 9 → M1 y = M y) ∧ ∀ k : Int, k < b ∨ (b : Int) + 39 ≤ k → M1 (m + 1) k = M (m + 1) k
theorem frM_t {M M1 M2 : Mem} {m b : Nat} (h1 : frM M M1 m b) (h2 : frM M1 M2 m b) : frM M M2 m b := ⟨fun y a c => (h2.1 y a c).trans (h1.1 y a c), fun k a => (h2.2 k a).trans (h1.2 k a)⟩
theorem frM_r {M : Mem} {m b : Nat} : frM M M m b := ⟨fun _ _ _ => rfl, fun _ _ => rfl⟩
theorem lcm_l (x y : Int) : lcm x y < 0 ↔ x < y := by
  unfold lcm
  split
  · omega
  · split <;> omega
theorem lcm_g (x y : Int) : 0 < lcm x y ↔ y < x := by
  unfold lcm
  split
  · omega
  · split <;> omega
theorem sh_g : ∀ g : Nat, g < 31 → ((i32 (g : Int) &&& 31).toBitVec.smod 32).toNat = g := by decide +kernel
theorem b_shrG {s g : Nat} (hs : s < 2147483648) (hg : g < 31) : i32 (s : Int) >>> (i32 (g : Int) &&& 31) = i32 ((s / 2 ^ g : Nat) : Int) := pk_shrN (by omega) _ g (sh_g g hg)
def pbN (s : Nat) : Nat → Nat
  | 0 => 0
  | i + 1 => pbN s i + s / 2 ^ i % 2
theorem pbN_8 (s : Nat) : ((pbN s 8 : Nat) : Int) = popN s := by
  have e : pbN s 8 = s % 2 + s / 2 % 2 + s / 4 % 2 + s / 8 % 2 + s / 16 % 2 + s / 32 % 2 + s / 64 % 2 + s / 128 % 2 := by simp [pbN]
  rw [e]; rfl
set_option maxRecDepth 100000 in
set_option maxHeartbeats 4000000 in
theorem m_in {E : EN} {l : Launch} {M : Mem} {v a b : Int} : Cn E l mX8_in 0 [vL v, vL a, vL b] M (fun r M1 => ∃ z, r = vI z ∧ (M1 = M ∧ (z = 0 ∨ z = 1) ∧ (z = 1 ↔ a ≤ v ∧ v ≤ b))) := by
  refine Cn.of (by decide) rfl (Nat.le_of_ble_eq_true rfl) 0 rfl (fun oka okm G hR => ?_)
  refine A_lload_n dX8_in_0 rfl ?_
  refine A_lload_n dX8_in_1 rfl ?_
  refine A_lcmp dX8_in_2 ?_
  have q1 := lcm_l v a
  refine A_if_lt (tgt := 17) dX8_in_3 (by decide) (fun h3 => ?_) (fun h3 => ?_)
  · skip
    refine A_iconst dX8_in_17 (by decide) ?_
    exact A_zret hR dX8_in_18 rfl (by first | exact Or.inl rfl | exact Or.inr rfl | omega) ⟨_, rfl, rfl, by omega, by omega⟩
  · skip
    refine A_lload_n dX8_in_6 rfl ?_
    refine A_lload dX8_in_7 rfl ?_
    refine A_lcmp dX8_in_9 ?_
    have q2 := lcm_g v b
    refine A_if_gt (tgt := 17) dX8_in_10 (by decide) (fun h10 => ?_) (fun h10 => ?_)
    · skip
      refine A_iconst dX8_in_17 (by decide) ?_
      exact A_zret hR dX8_in_18 rfl (by first | exact Or.inl rfl | exact Or.inr rfl | omega) ⟨_, rfl, rfl, by omega, by omega⟩
    · skip
      refine A_iconst dX8_in_13 (by decide) ?_
      refine A_goto (tgt := 18) dX8_in_14 (by decide) ?_
      exact A_zret hR dX8_in_18 rfl (by first | exact Or.inl rfl | exact Or.inr rfl | omega) ⟨_, rfl, rfl, by omega, by omega⟩

set_option maxRecDepth 100000 in
set_option maxHeartbeats 4000000 in
theorem m_has {E : EN} {l : Launch} {M : Mem} {s k : Nat} (hs : s < 64) (hk : k < 6) : Cn E l mX8_has 0 [vI s, vI k] M (fun r M1 => ∃ z, r = vI z ∧ (M1 = M ∧ (z = 0 ∨ z = 1) ∧ (z = 1 ↔ s.testBit k = true))) := by
  refine Cn.of (by decide) rfl (Nat.le_of_ble_eq_true rfl) 0 rfl (fun oka okm G hR => ?_)
  refine A_iload_n dX8_has_0 rfl ?_
  refine A_iload_n dX8_has_1 rfl ?_
  refine A_ishr (z := ((s / 2 ^ k : Nat) : Int)) dX8_has_2 (b_shrG (by omega) (by omega)) (rng64 (Nat.lt_of_le_of_lt (Nat.div_le_self _ _) hs)) ?_
  refine A_iconst dX8_has_3 (by decide) ?_
  refine A_iand (z := ((s / 2 ^ k % 2 : Nat) : Int)) dX8_has_4 (b_a1 _) (rng64 (by omega)) ?_
  refine A_iconst dX8_has_5 (by decide) ?_
  have tb := tb_iff s k
  refine A_icmp_ne (tgt := 13) dX8_has_6 (by decide) (fun h6 => ?_) (fun h6 => ?_)
  · skip
    refine A_iconst dX8_has_13 (by decide) ?_
    exact A_zret hR dX8_has_14 rfl (by first | exact Or.inl rfl | exact Or.inr rfl | omega) ⟨_, rfl, rfl, by omega, by first | exact ⟨fun _ => Classical.byContradiction fun x => by have := tb.mpr x; omega, fun _ => rfl⟩ | exact ⟨fun h => absurd h (by decide), fun h => absurd h (tb.mp (by omega))⟩⟩
  · skip
    refine A_iconst dX8_has_9 (by decide) ?_
    refine A_goto (tgt := 14) dX8_has_10 (by decide) ?_
    exact A_zret hR dX8_has_14 rfl (by first | exact Or.inl rfl | exact Or.inr rfl | omega) ⟨_, rfl, rfl, by omega, by first | exact ⟨fun _ => Classical.byContradiction fun x => by have := tb.mpr x; omega, fun _ => rfl⟩ | exact ⟨fun h => absurd h (by decide), fun h => absurd h (tb.mp (by omega))⟩⟩

set_option maxRecDepth 100000 in
set_option maxHeartbeats 4000000 in
theorem m_bits {E : EN} {l : Launch} {M : Mem} {s : Nat} (hs : s < 256) : Cn E l mX8_bits 0 [vI s] M (fun r M1 => ∃ z, r = vI z ∧ (M1 = M ∧ z = popN s)) := by
  refine Cn.of (by decide) rfl (Nat.le_of_ble_eq_true rfl) 2 rfl (fun oka okm G hR => ?_)
  refine A_iconst dX8_bits_0 (by decide) ?_
  refine A_istore_n dX8_bits_1 (by decide) rfl ?_
  refine A_iconst dX8_bits_2 (by decide) ?_
  refine A_istore_n dX8_bits_3 (by decide) rfl ?_
  have lp : ∀ (k : Nat) (i : Nat) (x : Int), 8 - i = k → (i ≤ 8) → (x = (pbN s i : Nat)) → (pbN s i ≤ i) → AW E mX8_bits G 0 0 4 [vI s, vI x, vI i] [] M := by
    intro k
    induction k using Nat.strongRecOn with
    | ind k ih =>
      intro i x hk h0 hx hy
      refine A_iload_n dX8_bits_4 rfl ?_
      refine A_bipush dX8_bits_5 bp_8 (by decide) ?_
      refine A_icmp_ge (tgt := 24) dX8_bits_7 (by decide) (fun h7 => ?_) (fun h7 => ?_)
      · skip
        have hi : i = 8 := by omega
        subst hi
        refine A_iload_n dX8_bits_24 rfl ?_
        exact A_iret hR dX8_bits_25 rfl ⟨_, rfl, rfl, by rw [hx]; exact pbN_8 s⟩
      · skip
        refine A_iload_n dX8_bits_10 rfl ?_
        refine A_iload_n dX8_bits_11 rfl ?_
        refine A_iload_n dX8_bits_12 rfl ?_
        refine A_ishr (z := ((s / 2 ^ i : Nat) : Int)) dX8_bits_13 (b_shrG (by omega) (by omega)) (rng_n (Nat.div_le_self _ _) (by omega)) ?_
        refine A_iconst dX8_bits_14 (by decide) ?_
        refine A_iand (z := ((s / 2 ^ i % 2 : Nat) : Int)) dX8_bits_15 (b_a1 _) (rng64 (by omega)) ?_
        refine A_iadd dX8_bits_16 ⟨by omega, by omega⟩ ?_
        refine A_istore_n dX8_bits_17 (by decide) rfl ?_
        refine A_iinc dX8_bits_18 (by decide) rfl rfl ⟨by omega, by omega⟩ ?_
        refine A_goto (tgt := 4) dX8_bits_21 (by decide) ?_
        refine ih _ (by omega) (i + 1) _ rfl (by omega) ?_ ?_
        · rw [pbN]; omega
        · rw [pbN]; omega
  exact lp _ 0 0 rfl (by omega) rfl (by unfold pbN; omega)

set_option maxRecDepth 100000 in
set_option maxHeartbeats 4000000 in
theorem m_copy {E : EN} {l : Launch} {M : Mem} {m a b : Nat} (hO : isMod E m) (ha : a ≤ 4) (hb : b ≤ 4) (hab : a ≠ b) : Cn E l mX8_copy 0 [vR m, vI a, vI b] M (fun r M1 => r = vU ∧ ((∀ y, y ≠ m + 1 → M1 y = M y) ∧ (∀ k : Int, k < 39 * b ∨ 39 * (b : Int) + 39 ≤ k → M1 (m + 1) k = M (m + 1) k) ∧ ∀ k : Int, 0 ≤ k → k < 39 → M1 (m + 1) (39 * b + k) = M (m + 1) (39 * a + k))) := by
  refine Cn.of (by decide) rfl (Nat.le_of_ble_eq_true rfl) 1 rfl (fun oka okm G hR => ?_)
  obtain ⟨a0, a1, a2, a3, a4, a5, a6, a7, a8, a9, a10, a11, a12⟩ := id hO
  refine A_iconst dX8_copy_0 (by decide) ?_
  refine A_istore_n dX8_copy_1 (by decide) rfl ?_
  have lp : ∀ (k : Nat) (i : Nat) (M1 : Mem), 39 - i = k → (i ≤ 39) → (∀ y, y ≠ m + 1 → M1 y = M y) → (∀ k : Int, k < 39 * b ∨ 39 * (b : Int) + 39 ≤ k → M1 (m + 1) k = M (m + 1) k) → (∀ k : Int, 0 ≤ k → k < i → M1 (m + 1) (39 * b + k) = M (m + 1) (39 * a + k)) → AW E mX8_copy G 0 0 2 [vR m, vI a, vI b, vI i] [] M1 := by
    intro k
    induction k using Nat.strongRecOn with
    | ind k ih =>
      intro i M1 hk h0 hf hg hx
      refine A_iload_n dX8_copy_2 rfl ?_
      refine A_bipush dX8_copy_3 bp_39 (by decide) ?_
      refine A_icmp_ge (tgt := 36) dX8_copy_5 (by decide) (fun h5 => ?_) (fun h5 => ?_)
      · skip
        have hi : i = 39 := by omega
        subst hi
        exact A_vret hR dX8_copy_36 rfl ⟨rfl, hf, hg, fun k x y => hx k x y⟩
      · skip
        refine A_aload_n dX8_copy_8 rfl ?_
        refine A_getR dX8_copy_9 fl_RX8_7 (by assumption) (by rfl) ?_
        refine A_bipush dX8_copy_12 bp_39 (by decide) ?_
        refine A_iload_n dX8_copy_14 rfl ?_
        refine A_imul dX8_copy_15 ⟨by omega, by omega⟩ ?_
        refine A_iload_n dX8_copy_16 rfl ?_
        refine A_iadd dX8_copy_17 ⟨by omega, by omega⟩ ?_
        refine A_aload_n dX8_copy_18 rfl ?_
        refine A_getR dX8_copy_19 fl_RX8_7 (by assumption) (by rfl) ?_
        refine A_bipush dX8_copy_22 bp_39 (by decide) ?_
        refine A_iload_n dX8_copy_24 rfl ?_
        refine A_imul dX8_copy_25 ⟨by omega, by omega⟩ ?_
        refine A_iload_n dX8_copy_26 rfl ?_
        refine A_iadd dX8_copy_27 ⟨by omega, by omega⟩ ?_
        refine A_iald dX8_copy_28 (by assumption) (by omega) (by omega) ?_
        refine A_iast dX8_copy_29 (by assumption) (by omega) (by omega) (fun M29 e29 k29 => ?_)
        refine A_iinc dX8_copy_30 (by decide) rfl rfl ⟨by omega, by omega⟩ ?_
        refine A_goto (tgt := 2) dX8_copy_33 (by decide) ?_
        refine ih _ (by omega) (i + 1) M29 rfl (by omega) (fun y hy => by rw [e29, upm_c hy]; exact hf y hy) (fun k hk => by rw [e29, upm_k (by omega)]; exact hg k hk) (fun k x y => ?_)
        rw [e29, upm_x]
        by_cases e : k = i
        · rw [if_pos ⟨rfl, by omega⟩, e]; exact hg _ (by omega)
        · rw [if_neg (fun z => e (by omega))]; exact hx k x (by omega)
  exact lp _ 0 M rfl (by omega) (fun _ _ => rfl) (fun _ _ => rfl) (fun k x y => by omega)

theorem rM_cp {M M1 : Mem} {m a b : Nat} {T : TD} {C : CS} (hT : wT T) (h : rM M m (39 * a) T C) (hx : ∀ k : Int, 0 ≤ k → k < 39 → M1 (m + 1) (39 * b + k) = M (m + 1) (39 * a + k)) : rM M1 m (39 * b) T C := by
  obtain ⟨⟨a1, a2, a3⟩, a4, a5⟩ := h
  have w := hT.1
  have e : ∀ j : Int, 0 ≤ j → j < 39 → M1 (m + 1) (((39 * b : Nat) : Int) + j) = M (m + 1) (((39 * a : Nat) : Int) + j) := fun j x y => by
    have := hx j x y
    rw [show ((39 * b : Nat) : Int) = 39 * b by omega, show ((39 * a : Nat) : Int) = 39 * a by omega]
    exact this
  refine ⟨⟨?_, by rw [e 1 (by omega) (by omega)]; exact a2, by rw [e 2 (by omega) (by omega)]; exact a3⟩, fun k x y => ?_, fun k x y => ?_⟩
  · have := e 0 (by omega) (by omega)
    rw [Int.add_zero, Int.add_zero] at this
    rw [this]; exact a1
  · rw [Int.add_assoc, e (3 + k) (by omega) (by omega), ← Int.add_assoc]; exact a4 k x y
  · rw [Int.add_assoc, Int.add_assoc, Int.add_assoc, Int.add_assoc, e (15 + k) (by omega) (by omega), e (21 + k) (by omega) (by omega), e (27 + k) (by omega) (by omega), e (33 + k) (by omega) (by omega), ← Int.add_assoc, ← Int.add_assoc, ← Int.add_assoc, ← Int.add_assoc]
    exact a5 k x y
set_option maxRecDepth 100000 in
set_option maxHeartbeats 4000000 in
theorem m_isOf {E : EN} {l : Launch} {M : Mem} {m : Nat} {j d : Int} (hO : isMod E m) (h0 : 0 ≤ j) (h1 : j < 12) : Cn E l mX8_isOf 0 [vR m, vI j, vI d] M (fun r M1 => ∃ z, r = vI z ∧ (M1 = M ∧ (z = 0 ∨ z = 1) ∧ (z = 1 ↔ (M (m + 6) j = d ∨ M (m + 7) j = d)))) := by
  refine Cn.of (by decide) rfl (Nat.le_of_ble_eq_true rfl) 0 rfl (fun oka okm G hR => ?_)
  obtain ⟨a0, a1, a2, a3, a4, a5, a6, a7, a8, a9, a10, a11, a12⟩ := id hO
  refine A_aload_n dX8_isOf_0 rfl ?_
  refine A_getR dX8_isOf_1 fl_RX8_30 (by assumption) (by rfl) ?_
  refine A_iload_n dX8_isOf_4 rfl ?_
  refine A_iald dX8_isOf_5 (by assumption) (by omega) (by omega) ?_
  refine A_iload_n dX8_isOf_6 rfl ?_
  refine A_icmp_eq (tgt := 20) dX8_isOf_7 (by decide) (fun h7 => ?_) (fun h7 => ?_)
  · skip
    refine A_iconst dX8_isOf_20 (by decide) ?_
    refine A_goto (tgt := 25) dX8_isOf_21 (by decide) ?_
    exact A_zret hR dX8_isOf_25 rfl (by first | exact Or.inl rfl | exact Or.inr rfl | omega) ⟨_, rfl, rfl, by omega, by omega⟩
  · skip
    refine A_aload_n dX8_isOf_10 rfl ?_
    refine A_getR dX8_isOf_11 fl_RX8_33 (by assumption) (by rfl) ?_
    refine A_iload_n dX8_isOf_14 rfl ?_
    refine A_iald dX8_isOf_15 (by assumption) (by omega) (by omega) ?_
    refine A_iload_n dX8_isOf_16 rfl ?_
    refine A_icmp_ne (tgt := 24) dX8_isOf_17 (by decide) (fun h17 => ?_) (fun h17 => ?_)
    · skip
      refine A_iconst dX8_isOf_24 (by decide) ?_
      exact A_zret hR dX8_isOf_25 rfl (by first | exact Or.inl rfl | exact Or.inr rfl | omega) ⟨_, rfl, rfl, by omega, by omega⟩
    · skip
      refine A_iconst dX8_isOf_20 (by decide) ?_
      refine A_goto (tgt := 25) dX8_isOf_21 (by decide) ?_
      exact A_zret hR dX8_isOf_25 rfl (by first | exact Or.inl rfl | exact Or.inr rfl | omega) ⟨_, rfl, rfl, by omega, by omega⟩

set_option maxRecDepth 100000 in
set_option maxHeartbeats 4000000 in
theorem m_sweetAt {E : EN} {l : Launch} {M : Mem} {m : Nat} {d v : Int} (hO : isMod E m) (h0 : 0 ≤ d) (h1 : d < 8) (h2 : 0 ≤ v) (h3 : v ≤ 9) : Cn E l mX8_sweetAt 0 [vR m, vI d, vI v] M (fun r M1 => ∃ z, r = vI z ∧ (M1 = M ∧ z = swb (M (m + 5) d) v)) := by
  refine Cn.of (by decide) rfl (Nat.le_of_ble_eq_true rfl) 0 rfl (fun oka okm G hR => ?_)
  obtain ⟨a0, a1, a2, a3, a4, a5, a6, a7, a8, a9, a10, a11, a12⟩ := id hO
  refine A_aload_n dX8_sweetAt_0 rfl ?_
  refine A_getR dX8_sweetAt_1 fl_RX8_27 (by assumption) (by rfl) ?_
  refine A_iload_n dX8_sweetAt_4 rfl ?_
  refine A_iald dX8_sweetAt_5 (by assumption) (by omega) (by omega) ?_
  refine A_iconst dX8_sweetAt_6 (by decide) ?_
  refine A_icmp_ne (tgt := 20) dX8_sweetAt_7 (by decide) (fun h7 => ?_) (fun h7 => ?_)
  · skip
    refine A_aload_n dX8_sweetAt_20 rfl ?_
    refine A_getR dX8_sweetAt_21 fl_RX8_27 (by assumption) (by rfl) ?_
    refine A_iload_n dX8_sweetAt_24 rfl ?_
    refine A_iald dX8_sweetAt_25 (by assumption) (by omega) (by omega) ?_
    refine A_iconst dX8_sweetAt_26 (by decide) ?_
    refine A_icmp_ne (tgt := 42) dX8_sweetAt_27 (by decide) (fun h27 => ?_) (fun h27 => ?_)
    · skip
      refine A_iload_n dX8_sweetAt_42 rfl ?_
      exact A_iret hR dX8_sweetAt_43 rfl ⟨_, rfl, rfl, by unfold swb; by_cases k1 : M (m + 5) d = 1 <;> by_cases k2 : M (m + 5) d = 2 <;> simp only [k1, k2, if_true, if_false] <;> first | omega | (rw [if_neg (by decide)]; omega)⟩
    · skip
      refine A_iload_n dX8_sweetAt_30 rfl ?_
      refine A_bipush dX8_sweetAt_31 bp_9 (by decide) ?_
      refine A_icmp_ge (tgt := 42) dX8_sweetAt_33 (by decide) (fun h33 => ?_) (fun h33 => ?_)
      · skip
        refine A_iload_n dX8_sweetAt_42 rfl ?_
        exact A_iret hR dX8_sweetAt_43 rfl ⟨_, rfl, rfl, by unfold swb; by_cases k1 : M (m + 5) d = 1 <;> by_cases k2 : M (m + 5) d = 2 <;> simp only [k1, k2, if_true, if_false] <;> first | omega | (rw [if_neg (by decide)]; omega)⟩
      · skip
        refine A_iload_n dX8_sweetAt_36 rfl ?_
        refine A_iconst dX8_sweetAt_37 (by decide) ?_
        refine A_iadd dX8_sweetAt_38 ⟨by omega, by omega⟩ ?_
        refine A_goto (tgt := 43) dX8_sweetAt_39 (by decide) ?_
        exact A_iret hR dX8_sweetAt_43 rfl ⟨_, rfl, rfl, by unfold swb; by_cases k1 : M (m + 5) d = 1 <;> by_cases k2 : M (m + 5) d = 2 <;> simp only [k1, k2, if_true, if_false] <;> first | omega | (rw [if_neg (by decide)]; omega)⟩
  · skip
    refine A_iload_n dX8_sweetAt_10 rfl ?_
    refine A_if_le (tgt := 20) dX8_sweetAt_11 (by decide) (fun h11 => ?_) (fun h11 => ?_)
    · skip
      refine A_aload_n dX8_sweetAt_20 rfl ?_
      refine A_getR dX8_sweetAt_21 fl_RX8_27 (by assumption) (by rfl) ?_
      refine A_iload_n dX8_sweetAt_24 rfl ?_
      refine A_iald dX8_sweetAt_25 (by assumption) (by omega) (by omega) ?_
      refine A_iconst dX8_sweetAt_26 (by decide) ?_
      refine A_icmp_ne (tgt := 42) dX8_sweetAt_27 (by decide) (fun h27 => ?_) (fun h27 => ?_)
      · skip
        refine A_iload_n dX8_sweetAt_42 rfl ?_
        exact A_iret hR dX8_sweetAt_43 rfl ⟨_, rfl, rfl, by unfold swb; by_cases k1 : M (m + 5) d = 1 <;> by_cases k2 : M (m + 5) d = 2 <;> simp only [k1, k2, if_true, if_false] <;> first | omega | (rw [if_neg (by decide)]; omega)⟩
      · skip
        refine A_iload_n dX8_sweetAt_30 rfl ?_
        refine A_bipush dX8_sweetAt_31 bp_9 (by decide) ?_
        refine A_icmp_ge (tgt := 42) dX8_sweetAt_33 (by decide) (fun h33 => ?_) (fun h33 => ?_)
        · skip
          refine A_iload_n dX8_sweetAt_42 rfl ?_
          exact A_iret hR dX8_sweetAt_43 rfl ⟨_, rfl, rfl, by unfold swb; by_cases k1 : M (m + 5) d = 1 <;> by_cases k2 : M (m + 5) d = 2 <;> simp only [k1, k2, if_true, if_false] <;> first | omega | (rw [if_neg (by decide)]; omega)⟩
        · skip
          refine A_iload_n dX8_sweetAt_36 rfl ?_
          refine A_iconst dX8_sweetAt_37 (by decide) ?_
          refine A_iadd dX8_sweetAt_38 ⟨by omega, by omega⟩ ?_
          refine A_goto (tgt := 43) dX8_sweetAt_39 (by decide) ?_
          exact A_iret hR dX8_sweetAt_43 rfl ⟨_, rfl, rfl, by unfold swb; by_cases k1 : M (m + 5) d = 1 <;> by_cases k2 : M (m + 5) d = 2 <;> simp only [k1, k2, if_true, if_false] <;> first | omega | (rw [if_neg (by decide)]; omega)⟩
    · skip
      refine A_iload_n dX8_sweetAt_14 rfl ?_
      refine A_iconst dX8_sweetAt_15 (by decide) ?_
      refine A_isub dX8_sweetAt_16 ⟨by omega, by omega⟩ ?_
      refine A_goto (tgt := 43) dX8_sweetAt_17 (by decide) ?_
      exact A_iret hR dX8_sweetAt_43 rfl ⟨_, rfl, rfl, by unfold swb; by_cases k1 : M (m + 5) d = 1 <;> by_cases k2 : M (m + 5) d = 2 <;> simp only [k1, k2, if_true, if_false] <;> first | omega | (rw [if_neg (by decide)]; omega)⟩

set_option maxRecDepth 100000 in
set_option maxHeartbeats 4000000 in
theorem m_sweetest {E : EN} {l : Launch} {M : Mem} {m b : Nat} {T : TD} {C : CS}{d : Int}(hO : isMod E m) (hrI : rI M m T) (hrM : rM M m b T C) (hwT : wT T) (hwC : wC T C) (hb : b ≤ 156) : Cn E l mX8_sweetest 0 [vR m, vI b, vI d] M (fun r M1 => ∃ z, r = vI z ∧ (M1 = M ∧ z = swN C d (oF T))) := by
  refine Cn.of (by decide) rfl (Nat.le_of_ble_eq_true rfl) 3 rfl (fun oka okm G hR => ?_)
  obtain ⟨a0, a1, a2, a3, a4, a5, a6, a7, a8, a9, a10, a11, a12⟩ := id hO
  obtain ⟨⟨i0, i1, i2, i3⟩, ik, it, ie⟩ := id hrI
  obtain ⟨⟨c0, c1, c2⟩, cs, cf⟩ := id hrM
  obtain ⟨wt0, wtk, wtt, wtf⟩ := id hwT
  obtain ⟨wc0, wcs, wcf⟩ := id hwC
  refine A_iconst dX8_sweetest_0 (by decide) ?_
  refine A_istore_n dX8_sweetest_1 (by decide) rfl ?_
  refine A_iconst dX8_sweetest_2 (by decide) ?_
  refine A_istore dX8_sweetest_3 (by decide) rfl ?_
  refine A_iconst dX8_sweetest_5 (by decide) ?_
  refine A_istore dX8_sweetest_6 (by decide) rfl ?_
  have lp : ∀ (k : Nat) (i : Nat) (x : Int) (y : Int), oF T - i = k → (i ≤ oF T) → (x = swN C d i) → (x = -1 → y = 0) → (x ≠ -1 → y = csSw C x) → AW E mX8_sweetest G 0 0 8 [vR m, vI b, vI d, vI x, vI y, vI i] [] M := by
    intro k
    induction k using Nat.strongRecOn with
    | ind k ih =>
      intro i x y hk h0 hx hy1 hy2
      refine A_iload dX8_sweetest_8 rfl ?_
      refine A_aload_n dX8_sweetest_10 rfl ?_
      refine A_getI (ki := 12) dX8_sweetest_11 fl_RX8_64 (by assumption) (by rfl) rfl ?_
      rw [i2]
      refine A_icmp_ge (tgt := 89) dX8_sweetest_14 (by decide) (fun h14 => ?_) (fun h14 => ?_)
      · skip
        have hi : i = oF T := by omega
        subst hi
        refine A_iload_n dX8_sweetest_89 rfl ?_
        exact A_iret hR dX8_sweetest_90 rfl ⟨_, rfl, rfl, hx⟩
      · skip
        have f1 := cf i (by omega) (by omega)
        have f2 := wcf i (by omega) (by omega)
        have sr := swN_r C d i
        rw [← hx] at sr
        refine A_aload_n dX8_sweetest_17 rfl ?_
        refine A_getR dX8_sweetest_18 fl_RX8_7 (by assumption) (by rfl) ?_
        refine A_iload_n dX8_sweetest_21 rfl ?_
        refine A_bipush dX8_sweetest_22 bp_15 (by decide) ?_
        refine A_iadd dX8_sweetest_24 ⟨by omega, by omega⟩ ?_
        refine A_iload dX8_sweetest_25 rfl ?_
        refine A_iadd dX8_sweetest_27 ⟨by omega, by omega⟩ ?_
        refine A_iald dX8_sweetest_28 (by assumption) (by omega) (by omega) ?_
        rw [f1.1]
        refine A_iload_n dX8_sweetest_29 rfl ?_
        refine A_icmp_ne (tgt := 83) dX8_sweetest_30 (by decide) (fun h30 => ?_) (fun h30 => ?_)
        · skip
          refine A_iinc dX8_sweetest_83 (by decide) rfl rfl ⟨by omega, by omega⟩ ?_
          refine A_goto (tgt := 8) dX8_sweetest_86 (by decide) ?_
          first
          | (refine ih _ (by omega) (i + 1) x y rfl (by omega) ?_ hy1 hy2
             rw [swN, if_neg, hx]
             rintro ⟨q1, q2, q3, q4⟩
             rw [← hx] at q4
             by_cases e : x = -1
             · have := hy1 e; omega
             · have := hy2 e; omega)
          | (refine ih _ (by omega) (i + 1) i (csSw C i) rfl (by omega) ?_ (fun q => by omega) (fun _ => rfl)
             rw [swN, if_pos]
             rw [← hx]
             refine ⟨by omega, by omega, ?_, ?_⟩
             · by_cases e : x = -1
               · have := hy1 e; omega
               · have := hy2 e; have := wcf x (by omega) (by omega); omega
             · by_cases e : x = -1
               · exact Or.inl e
               · have := hy2 e; right; omega)
        · skip
          refine A_aload_n dX8_sweetest_33 rfl ?_
          refine A_getR dX8_sweetest_34 fl_RX8_7 (by assumption) (by rfl) ?_
          refine A_iload_n dX8_sweetest_37 rfl ?_
          refine A_bipush dX8_sweetest_38 bp_33 (by decide) ?_
          refine A_iadd dX8_sweetest_40 ⟨by omega, by omega⟩ ?_
          refine A_iload dX8_sweetest_41 rfl ?_
          refine A_iadd dX8_sweetest_43 ⟨by omega, by omega⟩ ?_
          refine A_iald dX8_sweetest_44 (by assumption) (by omega) (by omega) ?_
          rw [f1.2.2.2]
          refine A_iconst dX8_sweetest_45 (by decide) ?_
          refine A_icmp_ne (tgt := 83) dX8_sweetest_46 (by decide) (fun h46 => ?_) (fun h46 => ?_)
          · skip
            refine A_iinc dX8_sweetest_83 (by decide) rfl rfl ⟨by omega, by omega⟩ ?_
            refine A_goto (tgt := 8) dX8_sweetest_86 (by decide) ?_
            first
            | (refine ih _ (by omega) (i + 1) x y rfl (by omega) ?_ hy1 hy2
               rw [swN, if_neg, hx]
               rintro ⟨q1, q2, q3, q4⟩
               rw [← hx] at q4
               by_cases e : x = -1
               · have := hy1 e; omega
               · have := hy2 e; omega)
            | (refine ih _ (by omega) (i + 1) i (csSw C i) rfl (by omega) ?_ (fun q => by omega) (fun _ => rfl)
               rw [swN, if_pos]
               rw [← hx]
               refine ⟨by omega, by omega, ?_, ?_⟩
               · by_cases e : x = -1
                 · have := hy1 e; omega
                 · have := hy2 e; have := wcf x (by omega) (by omega); omega
               · by_cases e : x = -1
                 · exact Or.inl e
                 · have := hy2 e; right; omega)
          · skip
            refine A_aload_n dX8_sweetest_49 rfl ?_
            refine A_getR dX8_sweetest_50 fl_RX8_7 (by assumption) (by rfl) ?_
            refine A_iload_n dX8_sweetest_53 rfl ?_
            refine A_bipush dX8_sweetest_54 bp_21 (by decide) ?_
            refine A_iadd dX8_sweetest_56 ⟨by omega, by omega⟩ ?_
            refine A_iload dX8_sweetest_57 rfl ?_
            refine A_iadd dX8_sweetest_59 ⟨by omega, by omega⟩ ?_
            refine A_iald dX8_sweetest_60 (by assumption) (by omega) (by omega) ?_
            rw [f1.2.1]
            refine A_iload dX8_sweetest_61 rfl ?_
            refine A_icmp_le (tgt := 83) dX8_sweetest_63 (by decide) (fun h63 => ?_) (fun h63 => ?_)
            · skip
              refine A_iinc dX8_sweetest_83 (by decide) rfl rfl ⟨by omega, by omega⟩ ?_
              refine A_goto (tgt := 8) dX8_sweetest_86 (by decide) ?_
              first
              | (refine ih _ (by omega) (i + 1) x y rfl (by omega) ?_ hy1 hy2
                 rw [swN, if_neg, hx]
                 rintro ⟨q1, q2, q3, q4⟩
                 rw [← hx] at q4
                 by_cases e : x = -1
                 · have := hy1 e; omega
                 · have := hy2 e; omega)
              | (refine ih _ (by omega) (i + 1) i (csSw C i) rfl (by omega) ?_ (fun q => by omega) (fun _ => rfl)
                 rw [swN, if_pos]
                 rw [← hx]
                 refine ⟨by omega, by omega, ?_, ?_⟩
                 · by_cases e : x = -1
                   · have := hy1 e; omega
                   · have := hy2 e; have := wcf x (by omega) (by omega); omega
                 · by_cases e : x = -1
                   · exact Or.inl e
                   · have := hy2 e; right; omega)
            · skip
              refine A_iload dX8_sweetest_66 rfl ?_
              refine A_istore_n dX8_sweetest_68 (by decide) rfl ?_
              refine A_aload_n dX8_sweetest_69 rfl ?_
              refine A_getR dX8_sweetest_70 fl_RX8_7 (by assumption) (by rfl) ?_
              refine A_iload_n dX8_sweetest_73 rfl ?_
              refine A_bipush dX8_sweetest_74 bp_21 (by decide) ?_
              refine A_iadd dX8_sweetest_76 ⟨by omega, by omega⟩ ?_
              refine A_iload dX8_sweetest_77 rfl ?_
              refine A_iadd dX8_sweetest_79 ⟨by omega, by omega⟩ ?_
              refine A_iald dX8_sweetest_80 (by assumption) (by omega) (by omega) ?_
              rw [f1.2.1]
              refine A_istore dX8_sweetest_81 (by decide) rfl ?_
              refine A_iinc dX8_sweetest_83 (by decide) rfl rfl ⟨by omega, by omega⟩ ?_
              refine A_goto (tgt := 8) dX8_sweetest_86 (by decide) ?_
              first
              | (refine ih _ (by omega) (i + 1) x y rfl (by omega) ?_ hy1 hy2
                 rw [swN, if_neg, hx]
                 rintro ⟨q1, q2, q3, q4⟩
                 rw [← hx] at q4
                 by_cases e : x = -1
                 · have := hy1 e; omega
                 · have := hy2 e; omega)
              | (refine ih _ (by omega) (i + 1) i (csSw C i) rfl (by omega) ?_ (fun q => by omega) (fun _ => rfl)
                 rw [swN, if_pos]
                 rw [← hx]
                 refine ⟨by omega, by omega, ?_, ?_⟩
                 · by_cases e : x = -1
                   · have := hy1 e; omega
                   · have := hy2 e; have := wcf x (by omega) (by omega); omega
                 · by_cases e : x = -1
                   · exact Or.inl e
                   · have := hy2 e; right; omega)
  exact lp _ 0 (-1) 0 rfl (by omega) rfl (fun _ => rfl) (fun q => absurd rfl q)

set_option maxRecDepth 100000 in
set_option maxHeartbeats 4000000 in
theorem m_strongest {E : EN} {l : Launch} {M : Mem} {m b : Nat} {T : TD} {C : CS}{d but : Int}(hO : isMod E m) (hrI : rI M m T) (hrM : rM M m b T C) (hwT : wT T) (hwC : wC T C) (hb : b ≤ 156)(hb1 : -1 ≤ but) (hb2 : but < oT T) (hb3 : but ≠ -1 → onT T but d) : Cn E l mX8_strongest 1 [vR m, vI b, vI d, vI but] M (fun r M1 => ∃ z, r = vI z ∧ (M1 = M ∧ z = way T C d but)) := by
  refine Cn.of (by decide) rfl (Nat.le_of_ble_eq_true rfl) 4 rfl (fun oka okm G hR => ?_)
  obtain ⟨a0, a1, a2, a3, a4, a5, a6, a7, a8, a9, a10, a11, a12⟩ := id hO
  obtain ⟨⟨i0, i1, i2, i3⟩, ik, it, ie⟩ := id hrI
  obtain ⟨⟨c0, c1, c2⟩, cs, cf⟩ := id hrM
  obtain ⟨wt0, wtk, wtt, wtf⟩ := id hwT
  obtain ⟨wc0, wcs, wcf⟩ := id hwC
  refine A_iconst dX8_strongest_0 (by decide) ?_
  refine A_istore dX8_strongest_1 (by decide) rfl ?_
  refine A_iconst dX8_strongest_3 (by decide) ?_
  refine A_istore dX8_strongest_4 (by decide) rfl ?_
  refine A_iconst dX8_strongest_6 (by decide) ?_
  refine A_istore dX8_strongest_7 (by decide) rfl ?_
  refine A_iconst dX8_strongest_9 (by decide) ?_
  refine A_istore dX8_strongest_10 (by decide) rfl ?_
  have lp : ∀ (k : Nat) (i : Nat) (x : Int) (y : Int) (u : Int), oT T - i = k → (i ≤ oT T) → (x = wyN T C d but i) → (x = -1 → y = -1) → (x ≠ -1 → y = csS C x) → (u = 0 ∨ u = 1) → (u = 1 ↔ 0 ≤ but ∧ but < i) → AW E mX8_strongest G 0 0 12 [vR m, vI b, vI d, vI but, vI x, vI y, vI u, vI i] [] M := by
    intro k
    induction k using Nat.strongRecOn with
    | ind k ih =>
      intro i x y u hk h0 hx hy1 hy2 hu0 hu
      refine A_iload dX8_strongest_12 rfl ?_
      refine A_aload_n dX8_strongest_14 rfl ?_
      refine A_getI (ki := 10) dX8_strongest_15 fl_RX8_61 (by assumption) (by rfl) rfl ?_
      rw [i1]
      refine A_icmp_ge (tgt := 104) dX8_strongest_18 (by decide) (fun h18 => ?_) (fun h18 => ?_)
      · skip
        have hi : i = oT T := by omega
        subst hi
        refine A_iload dX8_strongest_104 rfl ?_
        refine A_iconst dX8_strongest_106 (by decide) ?_
        refine A_icmp_ne (tgt := 119) dX8_strongest_107 (by decide) (fun h107 => ?_) (fun h107 => ?_)
        · skip
          refine A_iload dX8_strongest_119 rfl ?_
          exact A_iret hR dX8_strongest_121 rfl ⟨_, rfl, rfl, by unfold way; rw [← hx]; split <;> omega⟩
        · skip
          refine A_iload dX8_strongest_110 rfl ?_
          refine A_if_eq (tgt := 119) dX8_strongest_112 (by decide) (fun h112 => ?_) (fun h112 => ?_)
          · skip
            refine A_iload dX8_strongest_119 rfl ?_
            exact A_iret hR dX8_strongest_121 rfl ⟨_, rfl, rfl, by unfold way; rw [← hx]; split <;> omega⟩
          · skip
            refine A_iload_n dX8_strongest_115 rfl ?_
            refine A_goto (tgt := 121) dX8_strongest_116 (by decide) ?_
            exact A_iret hR dX8_strongest_121 rfl ⟨_, rfl, rfl, by unfold way; rw [← hx]; split <;> omega⟩
      · skip
        have g1 := it i (by omega) (by omega)
        have g2 := wcs i (by omega) (by omega)
        have g3 := cs i (by omega) (by omega)
        have sr := wyN_r T C d but i
        rw [← hx] at sr
        have hb4 : but = i → (oA T i = d ∨ oB T i = d) := fun q => by have := hb3 (by omega); rw [q] at this; exact this
        have j47 : ∀ u2 : Int, (u2 = 0 ∨ u2 = 1) → (u2 = 1 ↔ 0 ≤ but ∧ but < i + 1) → AW E mX8_strongest G 0 0 47 [vR m, vI b, vI d, vI but, vI x, vI y, vI u, vI i] [vI u2] M := by
          intro u2 w0 w1
          refine A_istore dX8_strongest_47 (by decide) rfl ?_
          refine A_aload_n dX8_strongest_49 rfl ?_
          refine A_iload dX8_strongest_50 rfl ?_
          refine A_iload_n dX8_strongest_52 rfl ?_
          refine A_vI2 (mj := mX8_isOf) dX8_strongest_53 hR.rm (by decide) ok_X8_isOf mv_X8_isOf ml_RX8_154 (by assumption) rfl rfl rfl (m_isOf hO (by omega) (by omega)) (fun z53 M53 g53 k53 q53 => ?_)
          obtain ⟨e53, q53a, q53b⟩ := q53
          subst M53
          rw [g1.1, g1.2] at q53b
          refine A_if_eq (tgt := 98) dX8_strongest_56 (by decide) (fun h56 => ?_) (fun h56 => ?_)
          · skip
            refine A_iinc dX8_strongest_98 (by decide) rfl rfl ⟨by omega, by omega⟩ ?_
            refine A_goto (tgt := 12) dX8_strongest_101 (by decide) ?_
            first
            | (refine ih _ (by omega) (i + 1) x y u2 rfl (by omega) ?_ hy1 hy2 w0 (by omega)
               rw [wyN, if_neg, hx]
               rintro ⟨q1, q2, q3⟩
               rw [← hx] at q3
               by_cases e : x = -1
               · have := hy1 e; omega
               · have := hy2 e; omega)
            | (refine ih _ (by omega) (i + 1) i (csS C i) u2 rfl (by omega) ?_ (fun q => by omega) (fun _ => rfl) w0 (by omega)
               rw [wyN, if_pos]
               rw [← hx]
               refine ⟨by omega, by omega, ?_⟩
               by_cases e : x = -1
               · exact Or.inl e
               · have := hy2 e; right; omega)
          · skip
            refine A_iload dX8_strongest_59 rfl ?_
            refine A_iload_n dX8_strongest_61 rfl ?_
            refine A_icmp_eq (tgt := 98) dX8_strongest_62 (by decide) (fun h62 => ?_) (fun h62 => ?_)
            · skip
              refine A_iinc dX8_strongest_98 (by decide) rfl rfl ⟨by omega, by omega⟩ ?_
              refine A_goto (tgt := 12) dX8_strongest_101 (by decide) ?_
              first
              | (refine ih _ (by omega) (i + 1) x y u2 rfl (by omega) ?_ hy1 hy2 w0 (by omega)
                 rw [wyN, if_neg, hx]
                 rintro ⟨q1, q2, q3⟩
                 rw [← hx] at q3
                 by_cases e : x = -1
                 · have := hy1 e; omega
                 · have := hy2 e; omega)
              | (refine ih _ (by omega) (i + 1) i (csS C i) u2 rfl (by omega) ?_ (fun q => by omega) (fun _ => rfl) w0 (by omega)
                 rw [wyN, if_pos]
                 rw [← hx]
                 refine ⟨by omega, by omega, ?_⟩
                 by_cases e : x = -1
                 · exact Or.inl e
                 · have := hy2 e; right; omega)
            · skip
              refine A_aload_n dX8_strongest_65 rfl ?_
              refine A_getR dX8_strongest_66 fl_RX8_7 (by assumption) (by rfl) ?_
              refine A_iload_n dX8_strongest_69 rfl ?_
              refine A_iconst dX8_strongest_70 (by decide) ?_
              refine A_iadd dX8_strongest_71 ⟨by omega, by omega⟩ ?_
              refine A_iload dX8_strongest_72 rfl ?_
              refine A_iadd dX8_strongest_74 ⟨by omega, by omega⟩ ?_
              refine A_iald dX8_strongest_75 (by assumption) (by omega) (by omega) ?_
              rw [g3]
              refine A_iload dX8_strongest_76 rfl ?_
              refine A_icmp_le (tgt := 98) dX8_strongest_78 (by decide) (fun h78 => ?_) (fun h78 => ?_)
              · skip
                refine A_iinc dX8_strongest_98 (by decide) rfl rfl ⟨by omega, by omega⟩ ?_
                refine A_goto (tgt := 12) dX8_strongest_101 (by decide) ?_
                first
                | (refine ih _ (by omega) (i + 1) x y u2 rfl (by omega) ?_ hy1 hy2 w0 (by omega)
                   rw [wyN, if_neg, hx]
                   rintro ⟨q1, q2, q3⟩
                   rw [← hx] at q3
                   by_cases e : x = -1
                   · have := hy1 e; omega
                   · have := hy2 e; omega)
                | (refine ih _ (by omega) (i + 1) i (csS C i) u2 rfl (by omega) ?_ (fun q => by omega) (fun _ => rfl) w0 (by omega)
                   rw [wyN, if_pos]
                   rw [← hx]
                   refine ⟨by omega, by omega, ?_⟩
                   by_cases e : x = -1
                   · exact Or.inl e
                   · have := hy2 e; right; omega)
              · skip
                refine A_iload dX8_strongest_81 rfl ?_
                refine A_istore dX8_strongest_83 (by decide) rfl ?_
                refine A_aload_n dX8_strongest_85 rfl ?_
                refine A_getR dX8_strongest_86 fl_RX8_7 (by assumption) (by rfl) ?_
                refine A_iload_n dX8_strongest_89 rfl ?_
                refine A_iconst dX8_strongest_90 (by decide) ?_
                refine A_iadd dX8_strongest_91 ⟨by omega, by omega⟩ ?_
                refine A_iload dX8_strongest_92 rfl ?_
                refine A_iadd dX8_strongest_94 ⟨by omega, by omega⟩ ?_
                refine A_iald dX8_strongest_95 (by assumption) (by omega) (by omega) ?_
                rw [g3]
                refine A_istore dX8_strongest_96 (by decide) rfl ?_
                refine A_iinc dX8_strongest_98 (by decide) rfl rfl ⟨by omega, by omega⟩ ?_
                refine A_goto (tgt := 12) dX8_strongest_101 (by decide) ?_
                first
                | (refine ih _ (by omega) (i + 1) x y u2 rfl (by omega) ?_ hy1 hy2 w0 (by omega)
                   rw [wyN, if_neg, hx]
                   rintro ⟨q1, q2, q3⟩
                   rw [← hx] at q3
                   by_cases e : x = -1
                   · have := hy1 e; omega
                   · have := hy2 e; omega)
                | (refine ih _ (by omega) (i + 1) i (csS C i) u2 rfl (by omega) ?_ (fun q => by omega) (fun _ => rfl) w0 (by omega)
                   rw [wyN, if_pos]
                   rw [← hx]
                   refine ⟨by omega, by omega, ?_⟩
                   by_cases e : x = -1
                   · exact Or.inl e
                   · have := hy2 e; right; omega)
        refine A_iload dX8_strongest_21 rfl ?_
        refine A_if_ne (tgt := 42) dX8_strongest_23 (by decide) (fun h23 => ?_) (fun h23 => ?_)
        · skip
          refine A_iconst dX8_strongest_42 (by decide) ?_
          refine A_goto (tgt := 47) dX8_strongest_43 (by decide) ?_
          first | exact j47 1 (Or.inr rfl) (by omega) | exact j47 0 (Or.inl rfl) (by omega)
        · skip
          refine A_iload dX8_strongest_26 rfl ?_
          refine A_iload_n dX8_strongest_28 rfl ?_
          refine A_icmp_ne (tgt := 46) dX8_strongest_29 (by decide) (fun h29 => ?_) (fun h29 => ?_)
          · skip
            refine A_iconst dX8_strongest_46 (by decide) ?_
            first | exact j47 1 (Or.inr rfl) (by omega) | exact j47 0 (Or.inl rfl) (by omega)
          · skip
            refine A_aload_n dX8_strongest_32 rfl ?_
            refine A_iload dX8_strongest_33 rfl ?_
            refine A_iload_n dX8_strongest_35 rfl ?_
            refine A_vI2 (mj := mX8_isOf) dX8_strongest_36 hR.rm (by decide) ok_X8_isOf mv_X8_isOf ml_RX8_154 (by assumption) rfl rfl rfl (m_isOf hO (by omega) (by omega)) (fun z36 M36 g36 k36 q36 => ?_)
            obtain ⟨e36, q36a, q36b⟩ := q36
            subst M36
            rw [g1.1, g1.2] at q36b
            refine A_if_eq (tgt := 46) dX8_strongest_39 (by decide) (fun h39 => ?_) (fun h39 => ?_)
            · skip
              refine A_iconst dX8_strongest_46 (by decide) ?_
              first | exact j47 1 (Or.inr rfl) (by omega) | exact j47 0 (Or.inl rfl) (by omega)
            · skip
              refine A_iconst dX8_strongest_42 (by decide) ?_
              refine A_goto (tgt := 47) dX8_strongest_43 (by decide) ?_
              first | exact j47 1 (Or.inr rfl) (by omega) | exact j47 0 (Or.inl rfl) (by omega)
  exact lp _ 0 (-1) (-1) 0 rfl (by omega) rfl (fun _ => rfl) (fun q => absurd rfl q) (Or.inl rfl) (by omega)

