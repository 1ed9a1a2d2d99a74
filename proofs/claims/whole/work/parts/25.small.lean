/-! TEXT, SIGHTINGS, CRUMBS, bitCount -/
section ROWS4
variable {E : EN} {mi : MI} {G : CX} {kc ns pc : Nat} {L st : List AV} {M : Mem}
theorem A_iandW {x y : Int} (hd : decode mi.2.1 pc = .ok (.iand, 1)) (kk : AW E mi G kc ns (pc + 1) L (vI (i32 x &&& i32 y).toInt :: st) M) : AW E mi G kc ns pc L (vI y :: vI x :: st) M := A_iand hd (i32_of _).symm (rng_toInt _) kk
theorem A_iushrW {x y : Int} (hd : decode mi.2.1 pc = .ok (.iushr, 1)) (kk : AW E mi G kc ns (pc + 1) L (vI ((i32 x).toUInt32 >>> ((i32 y).toUInt32 &&& Int32.toUInt32 31)).toInt32.toInt :: st) M) : AW E mi G kc ns pc L (vI y :: vI x :: st) M := A_iushr hd (i32_of _).symm (rng_toInt _) kk
theorem A_iaddW {x y : Int} (hd : decode mi.2.1 pc = .ok (.iadd, 1)) (kk : AW E mi G kc ns (pc + 1) L (vI (i32 x + i32 y).toInt :: st) M) : AW E mi G kc ns pc L (vI y :: vI x :: st) M := by
  intro C hs hL hst hM H locs ls hP hS hl
  have w := kk C hs hL (okc1 (rng_toInt _) (oktl (oktl hst))) hM H locs ls hP hS hl
  refine lv_iadd (x := i32 x) (y := i32 y) C.1 C.2.1 hd ?_
  rw [← i32_of (i32 x + i32 y)]
  exact w
theorem A_isubW {x y : Int} (hd : decode mi.2.1 pc = .ok (.isub, 1)) (kk : AW E mi G kc ns (pc + 1) L (vI (i32 x - i32 y).toInt :: st) M) : AW E mi G kc ns pc L (vI y :: vI x :: st) M := by
  intro C hs hL hst hM H locs ls hP hS hl
  have w := kk C hs hL (okc1 (rng_toInt _) (oktl (oktl hst))) hM H locs ls hP hS hl
  refine lv_isub (x := i32 x) (y := i32 y) C.1 C.2.1 hd ?_
  rw [← i32_of (i32 x - i32 y)]
  exact w
end ROWS4
/-- how many bits, of eight -/
def popN (x : Nat) : Int := ((x % 2 + x / 2 % 2 + x / 4 % 2 + x / 8 % 2 + x / 16 % 2 + x / 32 % 2 + x / 64 % 2 + x / 128 % 2 : Nat) : Int)
theorem popN_r (x : Nat) : 0 ≤ popN x ∧ popN x ≤ 8 := by unfold popN; omega
theorem bc_eq : ∀ x : Nat, x < 256 → ((i32 ((i32 ((i32 ((i32 ((i32 ((i32 ((i32 ((i32 (x : Int) - i32 ((i32 (((i32 (x : Int)).toUInt32 >>> ((i32 1).toUInt32 &&& Int32.toUInt32 31)).toInt32.toInt) &&& i32 1431655765).toInt)).toInt) &&& i32 858993459).toInt) + i32 ((i32 (((i32 ((i32 (x : Int) - i32 ((i32 (((i32 (x : Int)).toUInt32 >>> ((i32 1).toUInt32 &&& Int32.toUInt32 31)).toInt32.toInt) &&& i32 1431655765).toInt)).toInt)).toUInt32 >>> ((i32 2).toUInt32 &&& Int32.toUInt32 31)).toInt32.toInt) &&& i32 858993459).toInt)).toInt) + i32 (((i32 ((i32 ((i32 ((i32 (x : Int) - i32 ((i32 (((i32 (x : Int)).toUInt32 >>> ((i32 1).toUInt32 &&& Int32.toUInt32 31)).toInt32.toInt) &&& i32 1431655765).toInt)).toInt) &&& i32 858993459).toInt) + i32 ((i32 (((i32 ((i32 (x : Int) - i32 ((i32 (((i32 (x : Int)).toUInt32 >>> ((i32 1).toUInt32 &&& Int32.toUInt32 31)).toInt32.toInt) &&& i32 1431655765).toInt)).toInt)).toUInt32 >>> ((i32 2).toUInt32 &&& Int32.toUInt32 31)).toInt32.toInt) &&& i32 858993459).toInt)).toInt)).toUInt32 >>> ((i32 4).toUInt32 &&& Int32.toUInt32 31)).toInt32.toInt)).toInt) &&& i32 252645135).toInt) + i32 (((i32 ((i32 ((i32 ((i32 ((i32 ((i32 (x : Int) - i32 ((i32 (((i32 (x : Int)).toUInt32 >>> ((i32 1).toUInt32 &&& Int32.toUInt32 31)).toInt32.toInt) &&& i32 1431655765).toInt)).toInt) &&& i32 858993459).toInt) + i32 ((i32 (((i32 ((i32 (x : Int) - i32 ((i32 (((i32 (x : Int)).toUInt32 >>> ((i32 1).toUInt32 &&& Int32.toUInt32 31)).toInt32.toInt) &&& i32 1431655765).toInt)).toInt)).toUInt32 >>> ((i32 2).toUInt32 &&& Int32.toUInt32 31)).toInt32.toInt) &&& i32 858993459).toInt)).toInt) + i32 (((i32 ((i32 ((i32 ((i32 (x : Int) - i32 ((i32 (((i32 (x : Int)).toUInt32 >>> ((i32 1).toUInt32 &&& Int32.toUInt32 31)).toInt32.toInt) &&& i32 1431655765).toInt)).toInt) &&& i32 858993459).toInt) + i32 ((i32 (((i32 ((i32 (x : Int) - i32 ((i32 (((i32 (x : Int)).toUInt32 >>> ((i32 1).toUInt32 &&& Int32.toUInt32 31)).toInt32.toInt) &&& i32 1431655765).toInt)).toInt)).toUInt32 >>> ((i32 2).toUInt32 &&& Int32.toUInt32 31)).toInt32.toInt) &&& i32 858993459).toInt)).toInt)).toUInt32 >>> ((i32 4).toUInt32 &&& Int32.toUInt32 31)).toInt32.toInt)).toInt) &&& i32 252645135).toInt)).toUInt32 >>> ((i32 8).toUInt32 &&& Int32.toUInt32 31)).toInt32.toInt)).toInt) + i32 (((i32 ((i32 ((i32 ((i32 ((i32 ((i32 ((i32 (x : Int) - i32 ((i32 (((i32 (x : Int)).toUInt32 >>> ((i32 1).toUInt32 &&& Int32.toUInt32 31)).toInt32.toInt) &&& i32 1431655765).toInt)).toInt) &&& i32 858993459).toInt) + i32 ((i32 (((i32 ((i32 (x : Int) - i32 ((i32 (((i32 (x : Int)).toUInt32 >>> ((i32 1).toUInt32 &&& Int32.toUInt32 31)).toInt32.toInt) &&& i32 1431655765).toInt)).toInt)).toUInt32 >>> ((i32 2).toUInt32 &&& Int32.toUInt32 31)).toInt32.toInt) &&& i32 858993459).toInt)).toInt) + i32 (((i32 ((i32 ((i32 ((i32 (x : Int) - i32 ((i32 (((i32 (x : Int)).toUInt32 >>> ((i32 1).toUInt32 &&& Int32.toUInt32 31)).toInt32.toInt) &&& i32 1431655765).toInt)).toInt) &&& i32 858993459).toInt) + i32 ((i32 (((i32 ((i32 (x : Int) - i32 ((i32 (((i32 (x : Int)).toUInt32 >>> ((i32 1).toUInt32 &&& Int32.toUInt32 31)).toInt32.toInt) &&& i32 1431655765).toInt)).toInt)).toUInt32 >>> ((i32 2).toUInt32 &&& Int32.toUInt32 31)).toInt32.toInt) &&& i32 858993459).toInt)).toInt)).toUInt32 >>> ((i32 4).toUInt32 &&& Int32.toUInt32 31)).toInt32.toInt)).toInt) &&& i32 252645135).toInt) + i32 (((i32 ((i32 ((i32 ((i32 ((i32 ((i32 (x : Int) - i32 ((i32 (((i32 (x : Int)).toUInt32 >>> ((i32 1).toUInt32 &&& Int32.toUInt32 31)).toInt32.toInt) &&& i32 1431655765).toInt)).toInt) &&& i32 858993459).toInt) + i32 ((i32 (((i32 ((i32 (x : Int) - i32 ((i32 (((i32 (x : Int)).toUInt32 >>> ((i32 1).toUInt32 &&& Int32.toUInt32 31)).toInt32.toInt) &&& i32 1431655765).toInt)).toInt)).toUInt32 >>> ((i32 2).toUInt32 &&& Int32.toUInt32 31)).toInt32.toInt) &&& i32 858993459).toInt)).toInt) + i32 (((i32 ((i32 ((i32 ((i32 (x : Int) - i32 ((i32 (((i32 (x : Int)).toUInt32 >>> ((i32 1).toUInt32 &&& Int32.toUInt32 31)).toInt32.toInt) &&& i32 1431655765).toInt)).toInt) &&& i32 858993459).toInt) + i32 ((i32 (((i32 ((i32 (x : Int) - i32 ((i32 (((i32 (x : Int)).toUInt32 >>> ((i32 1).toUInt32 &&& Int32.toUInt32 31)).toInt32.toInt) &&& i32 1431655765).toInt)).toInt)).toUInt32 >>> ((i32 2).toUInt32 &&& Int32.toUInt32 31)).toInt32.toInt) &&& i32 858993459).toInt)).toInt)).toUInt32 >>> ((i32 4).toUInt32 &&& Int32.toUInt32 31)).toInt32.toInt)).toInt) &&& i32 252645135).toInt)).toUInt32 >>> ((i32 8).toUInt32 &&& Int32.toUInt32 31)).toInt32.toInt)).toInt)).toUInt32 >>> ((i32 16).toUInt32 &&& Int32.toUInt32 31)).toInt32.toInt)).toInt) &&& i32 63).toInt) = popN x := by decide +kernel
set_option maxRecDepth 100000 in
set_option maxHeartbeats 4000000 in
theorem c_bitCount {E : EN} {l : Launch} {M : Mem} {x : Nat} (hx : x < 256) : Cn E l mJ6_bitCount_0f7a4 0 [vI x] M (fun r M1 => ∃ z, r = vI z ∧ (M1 = M ∧ z = popN x)) := by
  refine Cn.of (by decide) rfl (Nat.le_of_ble_eq_true rfl) 0 rfl (fun oka okm G hR => ?_)
  refine A_iload_n dJ6_bitCount_0f7a4_0 rfl ?_
  refine A_iload_n dJ6_bitCount_0f7a4_1 rfl ?_
  refine A_iconst dJ6_bitCount_0f7a4_2 (by decide) ?_
  refine A_iushrW dJ6_bitCount_0f7a4_3 ?_
  refine A_ldcw dJ6_bitCount_0f7a4_4 kc_RJ6_265 (by decide) ?_
  refine A_iandW dJ6_bitCount_0f7a4_7 ?_
  refine A_isubW dJ6_bitCount_0f7a4_8 ?_
  refine A_istore_n dJ6_bitCount_0f7a4_9 (by decide) rfl ?_
  refine A_iload_n dJ6_bitCount_0f7a4_10 rfl ?_
  refine A_ldcw dJ6_bitCount_0f7a4_11 kc_RJ6_266 (by decide) ?_
  refine A_iandW dJ6_bitCount_0f7a4_14 ?_
  refine A_iload_n dJ6_bitCount_0f7a4_15 rfl ?_
  refine A_iconst dJ6_bitCount_0f7a4_16 (by decide) ?_
  refine A_iushrW dJ6_bitCount_0f7a4_17 ?_
  refine A_ldcw dJ6_bitCount_0f7a4_18 kc_RJ6_266 (by decide) ?_
  refine A_iandW dJ6_bitCount_0f7a4_21 ?_
  refine A_iaddW dJ6_bitCount_0f7a4_22 ?_
  refine A_istore_n dJ6_bitCount_0f7a4_23 (by decide) rfl ?_
  refine A_iload_n dJ6_bitCount_0f7a4_24 rfl ?_
  refine A_iload_n dJ6_bitCount_0f7a4_25 rfl ?_
  refine A_iconst dJ6_bitCount_0f7a4_26 (by decide) ?_
  refine A_iushrW dJ6_bitCount_0f7a4_27 ?_
  refine A_iaddW dJ6_bitCount_0f7a4_28 ?_
  refine A_ldcw dJ6_bitCount_0f7a4_29 kc_RJ6_267 (by decide) ?_
  refine A_iandW dJ6_bitCount_0f7a4_32 ?_
  refine A_istore_n dJ6_bitCount_0f7a4_33 (by decide) rfl ?_
  refine A_iload_n dJ6_bitCount_0f7a4_34 rfl ?_
  refine A_iload_n dJ6_bitCount_0f7a4_35 rfl ?_
  refine A_bipush dJ6_bitCount_0f7a4_36 (by decide +kernel) (by decide) ?_
  refine A_iushrW dJ6_bitCount_0f7a4_38 ?_
  refine A_iaddW dJ6_bitCount_0f7a4_39 ?_
  refine A_istore_n dJ6_bitCount_0f7a4_40 (by decide) rfl ?_
  refine A_iload_n dJ6_bitCount_0f7a4_41 rfl ?_
  refine A_iload_n dJ6_bitCount_0f7a4_42 rfl ?_
  refine A_bipush dJ6_bitCount_0f7a4_43 (by decide +kernel) (by decide) ?_
  refine A_iushrW dJ6_bitCount_0f7a4_45 ?_
  refine A_iaddW dJ6_bitCount_0f7a4_46 ?_
  refine A_istore_n dJ6_bitCount_0f7a4_47 (by decide) rfl ?_
  refine A_iload_n dJ6_bitCount_0f7a4_48 rfl ?_
  refine A_bipush dJ6_bitCount_0f7a4_49 (by decide +kernel) (by decide) ?_
  refine A_iandW dJ6_bitCount_0f7a4_51 ?_
  exact A_iret hR dJ6_bitCount_0f7a4_52 rfl ⟨_, rfl, rfl, bc_eq x hx⟩
def isCrm (E : EN) (f : Nat) : Prop := At E f (.inl (1, [rf (f + 1)])) ∧ At E (f + 1) (aI 8 nG)
def isSgt (E : EN) (f : Nat) : Prop := At E f (.inl (4, [none, rf (f + 1), rf (f + 2), rf (f + 3)])) ∧ At E (f + 1) (aI 6 nG) ∧ At E (f + 2) (aI 6 nG) ∧ At E (f + 3) (aI 6 nG)
def isTxt (E : EN) (f : Nat) : Prop := At E f (.inl (5, [rf (f + 1), none])) ∧ At E (f + 1) (aI 200 nG)
/-- a sum of the first -/
def smN (S : Fn) : Nat → Int
  | 0 => 0
  | n + 1 => smN S n + S n
theorem smN_r {S : Fn} : ∀ n : Nat, (∀ k : Int, 0 ≤ k → k < n → 0 ≤ S k ∧ S k ≤ 99) → 0 ≤ smN S n ∧ smN S n ≤ 99 * n
  | 0, _ => by unfold smN; omega
  | n + 1, h => by
    have ih := smN_r n (fun k a b => h k a (by omega))
    have := h n (by omega) (by omega)
    unfold smN
    omega
set_option maxRecDepth 100000 in
set_option maxHeartbeats 4000000 in
theorem c_crmClear {E : EN} {l : Launch} {M : Mem} {f : Nat} (hF : isCrm E f) : Cn E l mX1_clear 1 [vR f] M (fun r M1 => r = vU ∧ M1 = flm M (f + 1) 8 0) := by
  refine Cn.of (by decide) rfl (Nat.le_of_ble_eq_true rfl) 0 rfl (fun oka okm G hR => ?_)
  obtain ⟨a0, a1⟩ := hF
  refine A_aload_n dX1_clear_0 rfl ?_
  refine A_getR dX1_clear_1 fl_RX1_9 (by assumption) (by rfl) ?_
  refine A_iconst dX1_clear_4 (by decide) ?_
  refine A_sV2 (mj := mJ7_fill_53178) dX1_clear_5 hR.rm (by decide) ok_J7_fill_53178 st_J7_fill_53178 ml_RX1_15 rfl (c_fill (n := 8) a1 (by omega)) (fun M5 k5 q5 => ?_)
  exact A_vret hR dX1_clear_8 rfl ⟨rfl, q5⟩

set_option maxRecDepth 100000 in
set_option maxHeartbeats 4000000 in
theorem c_crmSum {E : EN} {l : Launch} {M : Mem} {f : Nat} (hF : isCrm E f) (hS : ∀ k : Int, 0 ≤ k → k < 8 → 0 ≤ M (f + 1) k ∧ M (f + 1) k ≤ 99) : Cn E l mX1_sum 0 [vR f] M (fun r M1 => ∃ z, r = vI z ∧ (M1 = M ∧ z = smN (M (f + 1)) 8)) := by
  refine Cn.of (by decide) rfl (Nat.le_of_ble_eq_true rfl) 2 rfl (fun oka okm G hR => ?_)
  obtain ⟨a0, a1⟩ := hF
  refine A_iconst dX1_sum_0 (by decide) ?_
  refine A_istore_n dX1_sum_1 (by decide) rfl ?_
  refine A_iconst dX1_sum_2 (by decide) ?_
  refine A_istore_n dX1_sum_3 (by decide) rfl ?_
  have lp : ∀ (k : Nat) (i : Nat) (x : Int), 8 - i = k → (i ≤ 8) → (x = smN (M (f + 1)) i) → AW E mX1_sum G 0 0 4 [vR f, vI x, vI i] [] M := by
    intro k
    induction k using Nat.strongRecOn with
    | ind k ih =>
      intro i x hk h0 hx
      refine A_iload_n dX1_sum_4 rfl ?_
      refine A_aload_n dX1_sum_5 rfl ?_
      refine A_getR dX1_sum_6 fl_RX1_9 (by assumption) (by rfl) ?_
      refine A_alen dX1_sum_9 (by assumption) (by omega) ?_
      refine A_icmp_ge (tgt := 28) dX1_sum_10 (by decide) (fun h10 => ?_) (fun h10 => ?_)
      · skip
        have hi : i = 8 := by omega
        subst hi
        refine A_iload_n dX1_sum_28 rfl ?_
        exact A_iret hR dX1_sum_29 rfl ⟨_, rfl, rfl, hx⟩
      · skip
        have hr := smN_r (S := M (f + 1)) i (fun k a b => hS k a (by omega))
        have hi := hS i (by omega) (by omega)
        refine A_iload_n dX1_sum_13 rfl ?_
        refine A_aload_n dX1_sum_14 rfl ?_
        refine A_getR dX1_sum_15 fl_RX1_9 (by assumption) (by rfl) ?_
        refine A_iload_n dX1_sum_18 rfl ?_
        refine A_iald dX1_sum_19 (by assumption) (by omega) (by omega) ?_
        refine A_iadd dX1_sum_20 ⟨by omega, by omega⟩ ?_
        refine A_istore_n dX1_sum_21 (by decide) rfl ?_
        refine A_iinc dX1_sum_22 (by decide) rfl rfl ⟨by omega, by omega⟩ ?_
        refine A_goto (tgt := 4) dX1_sum_25 (by decide) ?_
        refine ih _ ?_ (i + 1) _ rfl (by omega) ?_
        · omega
        · rw [smN]; omega
  exact lp _ 0 0 rfl (by omega) rfl

theorem tmod_n (a b : Nat) : (a : Int).tmod (b : Int) = ((a % b : Nat) : Int) := by
  rw [Int.tmod_eq_emod_of_nonneg (by omega)]; rfl
theorem tdiv_n (a b : Nat) : (a : Int).tdiv (b : Int) = ((a / b : Nat) : Int) := by
  rw [Int.tdiv_eq_ediv_of_nonneg (by omega)]; rfl
theorem rng_n {a n : Nat} (h : a ≤ n) (hn : n < 2147483648) : rng (a : Int) := ⟨by omega, by omega⟩
set_option maxRecDepth 100000 in
set_option maxHeartbeats 4000000 in
theorem c_gcd {E : EN} {l : Launch} {M : Mem} {h a : Nat} (h0 : 1 ≤ a) (h1 : a ≤ 1000) (h2 : h ≤ a) : Cn E l mX1_commonDivisor 0 [vI h, vI a] M (fun r M1 => ∃ z, r = vI z ∧ (M1 = M ∧ z = (Nat.gcd h a : Nat))) := by
  refine Cn.of (by decide) rfl (Nat.le_of_ble_eq_true rfl) 1 rfl (fun oka okm G hR => ?_)
  refine A_iload_n dX1_commonDivisor_0 rfl ?_
  refine A_istore_n dX1_commonDivisor_1 (by decide) rfl ?_
  have lp : ∀ (k : Nat) (d : Nat), d = k → (1 ≤ d) → (d ≤ a) → (∀ e : Nat, d < e → e ≤ a → ¬ (e ∣ h ∧ e ∣ a)) → AW E mX1_commonDivisor G 0 0 2 [vI h, vI a, vI d] [] M := by
    intro k
    induction k using Nat.strongRecOn with
    | ind k ih =>
      intro d hk hd0 hd1 hx
      have fin : d ∣ h → d ∣ a → ((Nat.gcd h a : Nat) : Int) = d := fun x y => by
        have g1 : d ∣ Nat.gcd h a := Nat.dvd_gcd x y
        have g2 : 0 < Nat.gcd h a := Nat.gcd_pos_of_pos_right _ (by omega)
        have g3 := Nat.le_of_dvd g2 g1
        have g4 : Nat.gcd h a ≤ a := Nat.le_of_dvd (by omega) (Nat.gcd_dvd_right h a)
        rcases Nat.lt_or_ge d (Nat.gcd h a) with q | q
        · exact absurd ⟨Nat.gcd_dvd_left h a, Nat.gcd_dvd_right h a⟩ (hx _ q g4)
        · omega
      refine A_iload_n dX1_commonDivisor_2 rfl ?_
      refine A_iconst dX1_commonDivisor_3 (by decide) ?_
      refine A_icmp_le (tgt := 27) dX1_commonDivisor_4 (by decide) (fun h4 => ?_) (fun h4 => ?_)
      · skip
        refine A_iconst dX1_commonDivisor_27 (by decide) ?_
        exact A_iret hR dX1_commonDivisor_28 rfl ⟨_, rfl, rfl, by have := fin (by rw [show d = 1 by omega]; exact Nat.one_dvd _) (by rw [show d = 1 by omega]; exact Nat.one_dvd _); omega⟩
      · skip
        refine A_iload_n dX1_commonDivisor_7 rfl ?_
        refine A_iload_n dX1_commonDivisor_8 rfl ?_
        refine A_irem  dX1_commonDivisor_9 (by omega) (by rw [tdiv_n]; exact rng_n (Nat.div_le_self _ _) (by omega)) (by rw [tmod_n]; exact rng_n (Nat.mod_le _ _) (by omega)) ?_
        rw [tmod_n]
        refine A_if_ne (tgt := 21) dX1_commonDivisor_10 (by decide) (fun h10 => ?_) (fun h10 => ?_)
        · skip
          refine A_iinc dX1_commonDivisor_21 (by decide) rfl rfl ⟨by omega, by omega⟩ ?_
          refine A_goto (tgt := 2) dX1_commonDivisor_24 (by decide) ?_
          rw [show (d : Int) + -1 = ((d - 1 : Nat) : Int) by omega]
          refine ih _ ?_ (d - 1) rfl (by omega) (by omega) (fun e x y => ?_)
          · omega
          · by_cases q : e = d
            · subst q
              intro z
              first
              | (have z1 := Nat.mod_eq_zero_of_dvd z.1; omega)
              | (have z1 := Nat.mod_eq_zero_of_dvd z.2; omega)
            · exact hx e (by omega) y
        · skip
          refine A_iload_n dX1_commonDivisor_13 rfl ?_
          refine A_iload_n dX1_commonDivisor_14 rfl ?_
          refine A_irem  dX1_commonDivisor_15 (by omega) (by rw [tdiv_n]; exact rng_n (Nat.div_le_self _ _) (by omega)) (by rw [tmod_n]; exact rng_n (Nat.mod_le _ _) (by omega)) ?_
          rw [tmod_n]
          refine A_if_ne (tgt := 21) dX1_commonDivisor_16 (by decide) (fun h16 => ?_) (fun h16 => ?_)
          · skip
            refine A_iinc dX1_commonDivisor_21 (by decide) rfl rfl ⟨by omega, by omega⟩ ?_
            refine A_goto (tgt := 2) dX1_commonDivisor_24 (by decide) ?_
            rw [show (d : Int) + -1 = ((d - 1 : Nat) : Int) by omega]
            refine ih _ ?_ (d - 1) rfl (by omega) (by omega) (fun e x y => ?_)
            · omega
            · by_cases q : e = d
              · subst q
                intro z
                first
                | (have z1 := Nat.mod_eq_zero_of_dvd z.1; omega)
                | (have z1 := Nat.mod_eq_zero_of_dvd z.2; omega)
              · exact hx e (by omega) y
          · skip
            refine A_iload_n dX1_commonDivisor_19 rfl ?_
            exact A_iret hR dX1_commonDivisor_20 rfl ⟨_, rfl, rfl, (fin (Nat.dvd_of_mod_eq_zero (by omega)) (Nat.dvd_of_mod_eq_zero (by omega))).symm⟩
  exact lp _ a rfl (by omega) (by omega) (fun e x y => by omega)

/-- what was seen: how many, files, desks, minutes -/
def rS (M : Mem) (s n : Nat) (fl dk mn : Fn) : Prop := (M s 0 = n ∧ n ≤ 6) ∧ ∀ k : Int, 0 ≤ k → k < n → M (s + 1) k = fl k ∧ M (s + 2) k = dk k ∧ M (s + 3) k = mn k
theorem rS_fr {M M1 : Mem} {s n : Nat} {fl dk mn : Fn} (h : rS M s n fl dk mn) (hf : ∀ y, s ≤ y → y ≤ s + 3 → M1 y = M y) : rS M1 s n fl dk mn := by
  unfold rS
  rw [hf s (by omega) (by omega), hf (s + 1) (by omega) (by omega), hf (s + 2) (by omega) (by omega), hf (s + 3) (by omega) (by omega)]
  exact h
set_option maxRecDepth 100000 in
set_option maxHeartbeats 4000000 in
theorem c_sgtAdd {E : EN} {l : Launch} {M : Mem} {s n : Nat} {fl dk mn : Fn} {f d t : Int} (hF : isSgt E s) (hr : rS M s n fl dk mn) (hn : n < 6) : Cn E l mX4_add 0 [vR s, vI f, vI d, vI t] M (fun r M1 => ∃ z, r = vI z ∧ (z = n + 1 ∧ fr M M1 s 4 ∧ rS M1 s (n + 1) (fun k => if k = n then f else fl k) (fun k => if k = n then d else dk k) (fun k => if k = n then t else mn k))) := by
  refine Cn.of (by decide) rfl (Nat.le_of_ble_eq_true rfl) 0 rfl (fun oka okm G hR => ?_)
  obtain ⟨a0, a1, a2, a3⟩ := hF
  obtain ⟨⟨r0, r1⟩, r2⟩ := hr
  refine A_aload_n dX4_add_0 rfl ?_
  refine A_getI (ki := 0) dX4_add_1 fl_RX4_9 (by assumption) (by rfl) rfl ?_
  rw [r0]
  refine A_bipush dX4_add_4 bp_6 (by decide) ?_
  refine A_icmp_lt (tgt := 14) dX4_add_6 (by decide) (fun h6 => ?_) (fun h6 => ?_)
  · skip
    refine A_aload_n dX4_add_14 rfl ?_
    refine A_getR dX4_add_15 fl_RX4_15 (by assumption) (by rfl) ?_
    refine A_aload_n dX4_add_18 rfl ?_
    refine A_getI (ki := 0) dX4_add_19 fl_RX4_9 (by assumption) (by rfl) rfl ?_
    rw [r0]
    refine A_iload_n dX4_add_22 rfl ?_
    refine A_iast dX4_add_23 (by assumption) (by omega) (by omega) (fun M23 e23 k23 => ?_)
    refine A_aload_n dX4_add_24 rfl ?_
    refine A_getR dX4_add_25 fl_RX4_19 (by assumption) (by rfl) ?_
    refine A_aload_n dX4_add_28 rfl ?_
    refine A_getI (ki := 0) dX4_add_29 fl_RX4_9 (by assumption) (by rfl) rfl ?_
    rw [show M23 s 0 = n by rw [e23, upm_c (by omega), r0]]
    refine A_iload_n dX4_add_32 rfl ?_
    refine A_iast dX4_add_33 (by assumption) (by omega) (by omega) (fun M33 e33 k33 => ?_)
    refine A_aload_n dX4_add_34 rfl ?_
    refine A_getR dX4_add_35 fl_RX4_22 (by assumption) (by rfl) ?_
    refine A_aload_n dX4_add_38 rfl ?_
    refine A_getI (ki := 0) dX4_add_39 fl_RX4_9 (by assumption) (by rfl) rfl ?_
    rw [show M33 s 0 = n by rw [e33, upm_c (by omega), e23, upm_c (by omega), r0]]
    refine A_iload_n dX4_add_42 rfl ?_
    refine A_iast dX4_add_43 (by assumption) (by omega) (by omega) (fun M43 e43 k43 => ?_)
    refine A_aload_n dX4_add_44 rfl ?_
    refine A_dup dX4_add_45 rfl ?_
    refine A_getI (ki := 0) dX4_add_46 fl_RX4_9 (by assumption) (by rfl) rfl ?_
    rw [show M43 s 0 = n by rw [e43, upm_c (by omega), e33, upm_c (by omega), e23, upm_c (by omega), r0]]
    refine A_iconst dX4_add_49 (by decide) ?_
    refine A_iadd dX4_add_50 ⟨by omega, by omega⟩ ?_
    refine A_dup_x1 dX4_add_51 rfl rfl ?_
    refine A_putI (ki := 0) dX4_add_52 fl_RX4_9 fi4_0 (by assumption) (by rfl) rfl (fun M52 e52 k52 => ?_)
    exact A_iret hR dX4_add_55 rfl (by
      refine ⟨_, rfl, rfl, fun x hx => ?_, ⟨?_, by omega⟩, fun k a b => ?_⟩
      · rw [e52, upm_c (by omega), e43, upm_c (by omega), e33, upm_c (by omega), e23, upm_c (by omega)]
      · rw [e52, upm_s]; rfl
      · rw [e52, upm_c (by omega), upm_c (by omega), upm_c (by omega), e43, upm_c (by omega), upm_c (by omega), upm_x, e33, upm_c (by omega), upm_x, upm_c (by omega), e23, upm_x, upm_c (by omega), upm_c (by omega)]
        by_cases q : k = n
        · subst q; simp
        · have := r2 k a (by omega)
          simp only [q, and_false, if_false]
          exact this)
  · skip
    omega

set_option maxRecDepth 100000 in
set_option maxHeartbeats 4000000 in
theorem c_sgtClear {E : EN} {l : Launch} {M : Mem} {s n : Nat} {fl dk mn : Fn} (hF : isSgt E s) (hr : rS M s n fl dk mn) : Cn E l mX4_clear 0 [vR s] M (fun r M1 => ∃ z, r = vI z ∧ (z = n ∧ fr M M1 s 4 ∧ rS M1 s 0 fl dk mn)) := by
  refine Cn.of (by decide) rfl (Nat.le_of_ble_eq_true rfl) 1 rfl (fun oka okm G hR => ?_)
  obtain ⟨a0, a1, a2, a3⟩ := hF
  obtain ⟨⟨r0, r1⟩, r2⟩ := hr
  refine A_aload_n dX4_clear_0 rfl ?_
  refine A_getI (ki := 0) dX4_clear_1 fl_RX4_9 (by assumption) (by rfl) rfl ?_
  rw [r0]
  refine A_istore_n dX4_clear_4 (by decide) rfl ?_
  refine A_aload_n dX4_clear_5 rfl ?_
  refine A_iconst dX4_clear_6 (by decide) ?_
  refine A_putI (ki := 0) dX4_clear_7 fl_RX4_9 fi4_0 (by assumption) (by rfl) rfl (fun M7 e7 k7 => ?_)
  refine A_iload_n dX4_clear_10 rfl ?_
  exact A_iret hR dX4_clear_11 rfl ⟨_, rfl, rfl, fun x hx => by rw [e7, upm_c (by omega)], ⟨by rw [e7, upm_s]; rfl, by omega⟩, fun k a b => by omega⟩

/-- the last minute in which a file was seen, of the first; -1 -/
def laN (fl mn : Fn) (f : Int) : Nat → Int
  | 0 => -1
  | n + 1 => if fl n = f then max (laN fl mn f n) (mn n) else laN fl mn f n
theorem laN_r {fl mn : Fn} {f : Int} : ∀ n : Nat, (∀ k : Int, 0 ≤ k → k < n → 0 ≤ mn k ∧ mn k ≤ 99) → -1 ≤ laN fl mn f n ∧ laN fl mn f n ≤ 99 ∧ ∀ k : Int, 0 ≤ k → k < n → fl k = f → mn k ≤ laN fl mn f n
  | 0, _ => ⟨by unfold laN; omega, by unfold laN; omega, fun k a b => by omega⟩
  | n + 1, h => by
    obtain ⟨h1, h2, h3⟩ := laN_r (fl := fl) (f := f) n (fun k a b => h k a (by omega))
    have q := h n (by omega) (by omega)
    unfold laN
    refine ⟨by split <;> omega, by split <;> omega, fun k a b e => ?_⟩
    by_cases hk : k = n
    · subst hk; rw [if_pos e]; omega
    · have := h3 k a (by omega) e
      split <;> omega
set_option maxRecDepth 100000 in
set_option maxHeartbeats 4000000 in
theorem c_lastOf {E : EN} {l : Launch} {M : Mem} {s n : Nat} {fl dk mn : Fn} {f : Int} (hF : isSgt E s) (hr : rS M s n fl dk mn) (hm : ∀ k : Int, 0 ≤ k → k < n → 0 ≤ mn k ∧ mn k ≤ 99) : Cn E l mX4_lastOf 1 [vR s, vI f] M (fun r M1 => ∃ z, r = vI z ∧ (M1 = M ∧ z = laN fl mn f n)) := by
  refine Cn.of (by decide) rfl (Nat.le_of_ble_eq_true rfl) 2 rfl (fun oka okm G hR => ?_)
  obtain ⟨a0, a1, a2, a3⟩ := hF
  obtain ⟨⟨r0, r1⟩, r2⟩ := hr
  refine A_iconst dX4_lastOf_0 (by decide) ?_
  refine A_istore_n dX4_lastOf_1 (by decide) rfl ?_
  refine A_iconst dX4_lastOf_2 (by decide) ?_
  refine A_istore_n dX4_lastOf_3 (by decide) rfl ?_
  have lp : ∀ (k : Nat) (i : Nat) (x : Int), n - i = k → (i ≤ n) → (x = laN fl mn f i) → AW E mX4_lastOf G 0 0 4 [vR s, vI f, vI x, vI i] [] M := by
    intro k
    induction k using Nat.strongRecOn with
    | ind k ih =>
      intro i x hk h0 hx
      refine A_iload_n dX4_lastOf_4 rfl ?_
      refine A_aload_n dX4_lastOf_5 rfl ?_
      refine A_getI (ki := 0) dX4_lastOf_6 fl_RX4_9 (by assumption) (by rfl) rfl ?_
      rw [r0]
      refine A_icmp_ge (tgt := 39) dX4_lastOf_9 (by decide) (fun h9 => ?_) (fun h9 => ?_)
      · skip
        have hi : i = n := by omega
        subst hi
        refine A_iload_n dX4_lastOf_39 rfl ?_
        exact A_iret hR dX4_lastOf_40 rfl ⟨_, rfl, rfl, hx⟩
      · skip
        have q1 := r2 i (by omega) (by omega)
        refine A_aload_n dX4_lastOf_12 rfl ?_
        refine A_getR dX4_lastOf_13 fl_RX4_15 (by assumption) (by rfl) ?_
        refine A_iload_n dX4_lastOf_16 rfl ?_
        refine A_iald dX4_lastOf_17 (by assumption) (by omega) (by omega) ?_
        rw [q1.1]
        refine A_iload_n dX4_lastOf_18 rfl ?_
        refine A_icmp_ne (tgt := 33) dX4_lastOf_19 (by decide) (fun h19 => ?_) (fun h19 => ?_)
        · skip
          refine A_iinc dX4_lastOf_33 (by decide) rfl rfl ⟨by omega, by omega⟩ ?_
          refine A_goto (tgt := 4) dX4_lastOf_36 (by decide) ?_
          refine ih _ ?_ (i + 1) _ rfl (by omega) ?_
          · omega
          · rw [laN]
            first | (rw [if_pos (by omega)]; omega) | (rw [if_neg (by omega)]; omega)
        · skip
          refine A_iload_n dX4_lastOf_22 rfl ?_
          refine A_aload_n dX4_lastOf_23 rfl ?_
          refine A_getR dX4_lastOf_24 fl_RX4_22 (by assumption) (by rfl) ?_
          refine A_iload_n dX4_lastOf_27 rfl ?_
          refine A_iald dX4_lastOf_28 (by assumption) (by omega) (by omega) ?_
          rw [q1.2.2]
          refine A_mmax (d := 1) dX4_lastOf_29 hR.rm (by decide) ml_RX4_25 rfl ?_
          refine A_istore_n dX4_lastOf_32 (by decide) rfl ?_
          refine A_iinc dX4_lastOf_33 (by decide) rfl rfl ⟨by omega, by omega⟩ ?_
          refine A_goto (tgt := 4) dX4_lastOf_36 (by decide) ?_
          refine ih _ ?_ (i + 1) _ rfl (by omega) ?_
          · omega
          · rw [laN]
            first | (rw [if_pos (by omega)]; omega) | (rw [if_neg (by omega)]; omega)
  exact lp _ 0 (-1) rfl (by omega) rfl

set_option maxRecDepth 100000 in
set_option maxHeartbeats 4000000 in
theorem c_allow {E : EN} {l : Launch} {M : Mem} {s n : Nat} {fl dk mn : Fn} {f d t : Int} (hF : isSgt E s) (hr : rS M s n fl dk mn) : Cn E l mX4_allow 0 [vR s, vI f, vI d, vI t] M (fun r M1 => ∃ z, r = vI z ∧ (M1 = M ∧ (z = 0 ∨ z = 1) ∧ (z = 1 ↔ ∀ k : Int, 0 ≤ k → k < n → fl k = f → mn k = t → dk k = d))) := by
  refine Cn.of (by decide) rfl (Nat.le_of_ble_eq_true rfl) 1 rfl (fun oka okm G hR => ?_)
  obtain ⟨a0, a1, a2, a3⟩ := hF
  obtain ⟨⟨r0, r1⟩, r2⟩ := hr
  refine A_iconst dX4_allow_0 (by decide) ?_
  refine A_istore dX4_allow_1 (by decide) rfl ?_
  have lp : ∀ (k : Nat) (i : Nat), n - i = k → (i ≤ n) → (∀ k : Int, 0 ≤ k → k < i → fl k = f → mn k = t → dk k = d) → AW E mX4_allow G 0 0 3 [vR s, vI f, vI d, vI t, vI i] [] M := by
    intro k
    induction k using Nat.strongRecOn with
    | ind k ih =>
      intro i hk h0 hx
      refine A_iload dX4_allow_3 rfl ?_
      refine A_aload_n dX4_allow_5 rfl ?_
      refine A_getI (ki := 0) dX4_allow_6 fl_RX4_9 (by assumption) (by rfl) rfl ?_
      rw [r0]
      refine A_icmp_ge (tgt := 53) dX4_allow_9 (by decide) (fun h9 => ?_) (fun h9 => ?_)
      · skip
        have hi : i = n := by omega
        subst hi
        refine A_iconst dX4_allow_53 (by decide) ?_
        exact A_zret hR dX4_allow_54 rfl (by first | exact Or.inl rfl | exact Or.inr rfl | omega) ⟨_, rfl, rfl, Or.inr rfl, ⟨fun _ => hx, fun _ => rfl⟩⟩
      · skip
        have q1 := r2 i (by omega) (by omega)
        refine A_aload_n dX4_allow_12 rfl ?_
        refine A_getR dX4_allow_13 fl_RX4_15 (by assumption) (by rfl) ?_
        refine A_iload dX4_allow_16 rfl ?_
        refine A_iald dX4_allow_18 (by assumption) (by omega) (by omega) ?_
        rw [q1.1]
        refine A_iload_n dX4_allow_19 rfl ?_
        refine A_icmp_ne (tgt := 47) dX4_allow_20 (by decide) (fun h20 => ?_) (fun h20 => ?_)
        · skip
          refine A_iinc dX4_allow_47 (by decide) rfl rfl ⟨by omega, by omega⟩ ?_
          refine A_goto (tgt := 3) dX4_allow_50 (by decide) ?_
          refine ih _ ?_ (i + 1) rfl (by omega) (fun k a b p q => ?_)
          · omega
          · by_cases e : k = i
            · subst e; omega
            · exact hx k a (by omega) p q
        · skip
          refine A_aload_n dX4_allow_23 rfl ?_
          refine A_getR dX4_allow_24 fl_RX4_22 (by assumption) (by rfl) ?_
          refine A_iload dX4_allow_27 rfl ?_
          refine A_iald dX4_allow_29 (by assumption) (by omega) (by omega) ?_
          rw [q1.2.2]
          refine A_iload_n dX4_allow_30 rfl ?_
          refine A_icmp_ne (tgt := 47) dX4_allow_31 (by decide) (fun h31 => ?_) (fun h31 => ?_)
          · skip
            refine A_iinc dX4_allow_47 (by decide) rfl rfl ⟨by omega, by omega⟩ ?_
            refine A_goto (tgt := 3) dX4_allow_50 (by decide) ?_
            refine ih _ ?_ (i + 1) rfl (by omega) (fun k a b p q => ?_)
            · omega
            · by_cases e : k = i
              · subst e; omega
              · exact hx k a (by omega) p q
          · skip
            refine A_aload_n dX4_allow_34 rfl ?_
            refine A_getR dX4_allow_35 fl_RX4_19 (by assumption) (by rfl) ?_
            refine A_iload dX4_allow_38 rfl ?_
            refine A_iald dX4_allow_40 (by assumption) (by omega) (by omega) ?_
            rw [q1.2.1]
            refine A_iload_n dX4_allow_41 rfl ?_
            refine A_icmp_eq (tgt := 47) dX4_allow_42 (by decide) (fun h42 => ?_) (fun h42 => ?_)
            · skip
              refine A_iinc dX4_allow_47 (by decide) rfl rfl ⟨by omega, by omega⟩ ?_
              refine A_goto (tgt := 3) dX4_allow_50 (by decide) ?_
              refine ih _ ?_ (i + 1) rfl (by omega) (fun k a b p q => ?_)
              · omega
              · by_cases e : k = i
                · subst e; omega
                · exact hx k a (by omega) p q
            · skip
              refine A_iconst dX4_allow_45 (by decide) ?_
              exact A_zret hR dX4_allow_46 rfl (by first | exact Or.inl rfl | exact Or.inr rfl | omega) ⟨_, rfl, rfl, Or.inl rfl, ⟨fun h => absurd h (by decide), fun h => absurd (h i (by omega) (by omega) (by omega) (by omega)) h42⟩⟩
  exact lp _ 0 rfl (by omega) (fun k a b => by omega)

set_option maxRecDepth 100000 in
set_option maxHeartbeats 4000000 in
theorem c_append {E : EN} {l : Launch} {M : Mem} {s : Nat} {v : Int} (hF : isTxt E s) (h0 : 0 ≤ M s 1) (h1 : M s 1 < 200) : Cn E l mX5_append 0 [vR s, vI v] M (fun r M1 => r = vU ∧ M1 = upm (upm M s 1 (M s 1 + 1)) (s + 1) (M s 1) v) := by
  refine Cn.of (by decide) rfl (Nat.le_of_ble_eq_true rfl) 0 rfl (fun oka okm G hR => ?_)
  obtain ⟨a0, a1⟩ := hF
  refine A_aload_n dX5_append_0 rfl ?_
  refine A_getI (ki := 1) dX5_append_1 fl_RX5_15 (by assumption) (by rfl) rfl ?_
  refine A_sipush dX5_append_4 sp_200 (by decide) ?_
  refine A_icmp_ge (tgt := 27) dX5_append_7 (by decide) (fun h7 => ?_) (fun h7 => ?_)
  · skip
    omega
  · skip
    refine A_aload_n dX5_append_10 rfl ?_
    refine A_getR dX5_append_11 fl_RX5_9 (by assumption) (by rfl) ?_
    refine A_aload_n dX5_append_14 rfl ?_
    refine A_dup dX5_append_15 rfl ?_
    refine A_getI (ki := 1) dX5_append_16 fl_RX5_15 (by assumption) (by rfl) rfl ?_
    refine A_dup_x1 dX5_append_19 rfl rfl ?_
    refine A_iconst dX5_append_20 (by decide) ?_
    refine A_iadd dX5_append_21 ⟨by omega, by omega⟩ ?_
    refine A_putI (ki := 1) dX5_append_22 fl_RX5_15 fi5_1 (by assumption) (by rfl) rfl (fun M22 e22 k22 => ?_)
    refine A_iload_n dX5_append_25 rfl ?_
    refine A_iast dX5_append_26 (by assumption) (by omega) (by omega) (fun M26 e26 k26 => ?_)
    exact A_vret hR dX5_append_27 rfl ⟨rfl, by rw [e26, e22]⟩

set_option maxRecDepth 100000 in
set_option maxHeartbeats 4000000 in
theorem c_txtClear {E : EN} {l : Launch} {M : Mem} {s : Nat} (hF : isTxt E s) : Cn E l mX5_clear 0 [vR s] M (fun r M1 => ∃ z, r = vI z ∧ (z = M s 1 ∧ M1 = upm M s 1 0)) := by
  refine Cn.of (by decide) rfl (Nat.le_of_ble_eq_true rfl) 1 rfl (fun oka okm G hR => ?_)
  obtain ⟨a0, a1⟩ := hF
  refine A_aload_n dX5_clear_0 rfl ?_
  refine A_getI (ki := 1) dX5_clear_1 fl_RX5_15 (by assumption) (by rfl) rfl ?_
  refine A_istore_n dX5_clear_4 (by decide) rfl ?_
  refine A_aload_n dX5_clear_5 rfl ?_
  refine A_iconst dX5_clear_6 (by decide) ?_
  refine A_putI (ki := 1) dX5_clear_7 fl_RX5_15 fi5_1 (by assumption) (by rfl) rfl (fun M7 e7 k7 => ?_)
  refine A_iload_n dX5_clear_10 rfl ?_
  exact A_iret hR dX5_clear_11 rfl ⟨_, rfl, rfl, e7⟩

set_option maxRecDepth 100000 in
set_option maxHeartbeats 4000000 in
theorem c_txtAt {E : EN} {l : Launch} {M : Mem} {s : Nat} {i : Int} (hF : isTxt E s) (h1 : M s 1 ≤ 200) : Cn E l mX5_at 0 [vR s, vI i] M (fun r M1 => ∃ z, r = vI z ∧ (M1 = M ∧ z = if 0 ≤ i ∧ i < M s 1 then M (s + 1) i else -1)) := by
  refine Cn.of (by decide) rfl (Nat.le_of_ble_eq_true rfl) 0 rfl (fun oka okm G hR => ?_)
  obtain ⟨a0, a1⟩ := hF
  refine A_iload_n dX5_at_0 rfl ?_
  refine A_if_lt (tgt := 21) dX5_at_1 (by decide) (fun h1 => ?_) (fun h1 => ?_)
  · skip
    refine A_iconst dX5_at_21 (by decide) ?_
    exact A_iret hR dX5_at_22 rfl ⟨_, rfl, rfl, by first | rw [if_pos ⟨by omega, by omega⟩] | rw [if_neg (by omega)]⟩
  · skip
    refine A_iload_n dX5_at_4 rfl ?_
    refine A_aload_n dX5_at_5 rfl ?_
    refine A_getI (ki := 1) dX5_at_6 fl_RX5_15 (by assumption) (by rfl) rfl ?_
    refine A_icmp_ge (tgt := 21) dX5_at_9 (by decide) (fun h9 => ?_) (fun h9 => ?_)
    · skip
      refine A_iconst dX5_at_21 (by decide) ?_
      exact A_iret hR dX5_at_22 rfl ⟨_, rfl, rfl, by first | rw [if_pos ⟨by omega, by omega⟩] | rw [if_neg (by omega)]⟩
    · skip
      refine A_aload_n dX5_at_12 rfl ?_
      refine A_getR dX5_at_13 fl_RX5_9 (by assumption) (by rfl) ?_
      refine A_iload_n dX5_at_16 rfl ?_
      refine A_iald dX5_at_17 (by assumption) (by omega) (by omega) ?_
      refine A_goto (tgt := 22) dX5_at_18 (by decide) ?_
      exact A_iret hR dX5_at_22 rfl ⟨_, rfl, rfl, by first | rw [if_pos ⟨by omega, by omega⟩] | rw [if_neg (by omega)]⟩

