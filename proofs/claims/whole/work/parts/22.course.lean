/-! COURSE: the class's picture, and its methods -/
def isCrs (E : EN) (c : Nat) : Prop := At E c (.inl (0, [none, none, none, none, rf (c + 1), rf (c + 2), rf (c + 3), rf (c + 4), rf (c + 5), rf (c + 6), rf (c + 7)])) ∧ At E (c + 1) (aI 12 nG) ∧ At E (c + 2) (aI 6 nG) ∧ At E (c + 3) (aI 6 nG) ∧ At E (c + 4) (aI 6 nG) ∧ At E (c + 5) (aI 6 nG) ∧ At E (c + 6) (aI 6 nG) ∧ At E (c + 7) (aI 8 nG)
def rT (M : Mem) (t : Nat) (T : TD) : Prop := (M t 0 = oD T ∧ M t 1 = oT T ∧ M t 2 = oF T ∧ M t 3 = oFa T ∧ M t 4 = oW T) ∧ (∀ k : Int, 0 ≤ k → k < 8 → M (t + 1) k = oK T k) ∧ (∀ k : Int, 0 ≤ k → k < oT T → M (t + 2) k = oA T k ∧ M (t + 3) k = oB T k ∧ M (t + 4) k = oS T k) ∧ (∀ k : Int, 0 ≤ k → k < oF T → M (t + 5) k = oSt T k ∧ M (t + 6) k = oE T k ∧ M (t + 7) k = oSw T k)
def rC (M : Mem) (c : Nat) (T : TD) (C : CS) : Prop := (M c 0 = csW C ∧ M c 1 = csG C ∧ M c 2 = csQ C ∧ M c 3 = fsN (csF C) (oF T)) ∧ (∀ k : Int, 0 ≤ k → k < oT T → M (c + 1) k = csS C k) ∧ (∀ k : Int, 0 ≤ k → k < oF T → M (c + 2) k = csA C k ∧ M (c + 3) k = csSw C k ∧ M (c + 4) k = csC C k ∧ M (c + 5) k = csF C k)
/-- nothing but n cells from c on is changed -/
def fr (M M1 : Mem) (c n : Nat) : Prop := ∀ x, (x < c ∨ c + n ≤ x) → M1 x = M x
theorem rT_fr {M M1 : Mem} {t c n : Nat} {T : TD} (h : rT M t T) (hf : fr M M1 c n) (hd : t + 8 ≤ c ∨ c + n ≤ t) : rT M1 t T := by
  unfold rT
  rw [hf t (by omega), hf (t + 1) (by omega), hf (t + 2) (by omega), hf (t + 3) (by omega), hf (t + 4) (by omega), hf (t + 5) (by omega), hf (t + 6) (by omega), hf (t + 7) (by omega)]
  exact h
theorem rC_fr {M M1 : Mem} {t c n : Nat} {T : TD} {C : CS} (h : rC M t T C) (hf : fr M M1 c n) (hd : t + 8 ≤ c ∨ c + n ≤ t) : rC M1 t T C := by
  unfold rC
  rw [hf t (by omega), hf (t + 1) (by omega), hf (t + 2) (by omega), hf (t + 3) (by omega), hf (t + 4) (by omega), hf (t + 5) (by omega)]
  exact h
theorem fr_t {M M1 M2 : Mem} {c n : Nat} (h1 : fr M M1 c n) (h2 : fr M1 M2 c n) : fr M M2 c n := fun x hx => (h2 x hx).trans (h1 x hx)
theorem fr_r {M : Mem} {c n : Nat} : fr M M c n := fun _ _ => rfl
set_option maxRecDepth 100000 in
set_option maxHeartbeats 4000000 in
theorem c_isFiled {E : EN} {l : Launch} {M : Mem} {c : Nat} {f : Int} (hC : isCrs E c) (h0 : 0 ≤ f) (h1 : f < 6) : Cn E l mX0_isFiled 0 [vR c, vI f] M (fun r M1 => ∃ z, r = vI z ∧ (M1 = M ∧ (z = 0 ∨ z = 1) ∧ (z = 1 ↔ M (c + 5) f ≠ -1))) := by
  refine Cn.of (by decide) rfl (Nat.le_of_ble_eq_true rfl) 0 rfl (fun oka okm G hR => ?_)
  obtain ⟨aC0, aC1, aC2, aC3, aC4, aC5, aC6, aC7⟩ := id hC
  refine A_aload_n dX0_isFiled_0 rfl ?_
  refine A_getR dX0_isFiled_1 fl_RX0_24 (by assumption) (by rfl) ?_
  refine A_iload_n dX0_isFiled_4 rfl ?_
  refine A_iald dX0_isFiled_5 (by assumption) (by omega) (by omega) ?_
  refine A_iconst dX0_isFiled_6 (by decide) ?_
  refine A_icmp_eq (tgt := 14) dX0_isFiled_7 (by decide) (fun h7 => ?_) (fun h7 => ?_)
  · skip
    refine A_iconst dX0_isFiled_14 (by decide) ?_
    exact A_zret hR dX0_isFiled_15 rfl (by first | exact Or.inl rfl | exact Or.inr rfl | omega) ⟨_, rfl, rfl, by omega, by omega⟩
  · skip
    refine A_iconst dX0_isFiled_10 (by decide) ?_
    refine A_goto (tgt := 15) dX0_isFiled_11 (by decide) ?_
    exact A_zret hR dX0_isFiled_15 rfl (by first | exact Or.inl rfl | exact Or.inr rfl | omega) ⟨_, rfl, rfl, by omega, by omega⟩

set_option maxRecDepth 100000 in
set_option maxHeartbeats 4000000 in
theorem c_letsGo {E : EN} {l : Launch} {M : Mem} {c t : Nat} {d : Int} (hC : isCrs E c) (hT : isTold E t) (h0 : 0 ≤ d) (h1 : d < 8) : Cn E l mX0_letsGo 0 [vR c, vI d, vR t] M (fun r M1 => ∃ z, r = vI z ∧ (M1 = M ∧ (z = 0 ∨ z = 1) ∧ (z = 1 ↔ d ≠ M c 2 ∧ M (t + 1) d ≠ 3))) := by
  refine Cn.of (by decide) rfl (Nat.le_of_ble_eq_true rfl) 0 rfl (fun oka okm G hR => ?_)
  obtain ⟨aC0, aC1, aC2, aC3, aC4, aC5, aC6, aC7⟩ := id hC
  obtain ⟨aT0, aT1, aT2, aT3, aT4, aT5, aT6, aT7⟩ := id hT
  refine A_iload_n dX0_letsGo_0 rfl ?_
  refine A_aload_n dX0_letsGo_1 rfl ?_
  refine A_getI (ki := 2) dX0_letsGo_2 fl_RX0_43 (by assumption) (by rfl) rfl ?_
  refine A_icmp_eq (tgt := 22) dX0_letsGo_5 (by decide) (fun h5 => ?_) (fun h5 => ?_)
  · skip
    refine A_iconst dX0_letsGo_22 (by decide) ?_
    exact A_zret hR dX0_letsGo_23 rfl (by first | exact Or.inl rfl | exact Or.inr rfl | omega) ⟨_, rfl, rfl, by omega, by omega⟩
  · skip
    refine A_aload_n dX0_letsGo_8 rfl ?_
    refine A_getR dX0_letsGo_9 fl_RX0_97 (by assumption) (by rfl) ?_
    refine A_iload_n dX0_letsGo_12 rfl ?_
    refine A_iald dX0_letsGo_13 (by assumption) (by omega) (by omega) ?_
    refine A_iconst dX0_letsGo_14 (by decide) ?_
    refine A_icmp_eq (tgt := 22) dX0_letsGo_15 (by decide) (fun h15 => ?_) (fun h15 => ?_)
    · skip
      refine A_iconst dX0_letsGo_22 (by decide) ?_
      exact A_zret hR dX0_letsGo_23 rfl (by first | exact Or.inl rfl | exact Or.inr rfl | omega) ⟨_, rfl, rfl, by omega, by omega⟩
    · skip
      refine A_iconst dX0_letsGo_18 (by decide) ?_
      refine A_goto (tgt := 23) dX0_letsGo_19 (by decide) ?_
      exact A_zret hR dX0_letsGo_23 rfl (by first | exact Or.inl rfl | exact Or.inr rfl | omega) ⟨_, rfl, rfl, by omega, by omega⟩

set_option maxRecDepth 100000 in
set_option maxHeartbeats 4000000 in
theorem c_filesAt {E : EN} {l : Launch} {M : Mem} {c n : Nat} {d : Int} (hC : isCrs E c) (hn : n ≤ 6) : Cn E l mX0_filesAt 0 [vR c, vI d, vI n] M (fun r M1 => ∃ z, r = vI z ∧ (M1 = M ∧ z = atB (M (c + 2)) d n)) := by
  refine Cn.of (by decide) rfl (Nat.le_of_ble_eq_true rfl) 2 rfl (fun oka okm G hR => ?_)
  obtain ⟨aC0, aC1, aC2, aC3, aC4, aC5, aC6, aC7⟩ := id hC
  refine A_iconst dX0_filesAt_0 (by decide) ?_
  refine A_istore_n dX0_filesAt_1 (by decide) rfl ?_
  refine A_iconst dX0_filesAt_2 (by decide) ?_
  refine A_istore dX0_filesAt_3 (by decide) rfl ?_
  have lp : ∀ (k : Nat) (i : Nat) (x : Int), n - i = k → (i ≤ n) → (x = atB (M (c + 2)) d i) → AW E mX0_filesAt G 0 0 5 [vR c, vI d, vI n, vI x, vI i] [] M := by
    intro k
    induction k using Nat.strongRecOn with
    | ind k ih =>
      intro i x hk h0 hx
      refine A_iload dX0_filesAt_5 rfl ?_
      refine A_iload_n dX0_filesAt_7 rfl ?_
      refine A_icmp_ge (tgt := 35) dX0_filesAt_8 (by decide) (fun h8 => ?_) (fun h8 => ?_)
      · skip
        have hi : i = n := by omega
        subst hi
        refine A_iload_n dX0_filesAt_35 rfl ?_
        exact A_iret hR dX0_filesAt_36 rfl ⟨_, rfl, rfl, hx⟩
      · skip
        refine A_aload_n dX0_filesAt_11 rfl ?_
        refine A_getR dX0_filesAt_12 fl_RX0_15 (by assumption) (by rfl) ?_
        refine A_iload dX0_filesAt_15 rfl ?_
        refine A_iald dX0_filesAt_17 (by assumption) (by omega) (by omega) ?_
        refine A_iload_n dX0_filesAt_18 rfl ?_
        refine A_icmp_ne (tgt := 29) dX0_filesAt_19 (by decide) (fun h19 => ?_) (fun h19 => ?_)
        · skip
          refine A_iinc dX0_filesAt_29 (by decide) rfl rfl ⟨by omega, by omega⟩ ?_
          refine A_goto (tgt := 5) dX0_filesAt_32 (by decide) ?_
          refine ih _ ?_ (i + 1) _ rfl (by omega) ?_
          · omega
          · rw [atB]
            first | rw [if_pos (by assumption)] | (rw [if_neg (by assumption)]; exact hx)
        · skip
          have hA := atB_lt (M (c + 2)) d i
          have hp : 2 ^ i ≤ 2 ^ 5 := p2_le (by omega)
          refine A_iload_n dX0_filesAt_22 rfl ?_
          refine A_iconst dX0_filesAt_23 (by decide) ?_
          refine A_iload dX0_filesAt_24 rfl ?_
          refine A_ishl (z := ((2 ^ i : Nat) : Int)) dX0_filesAt_26 (b_shl i (by omega)) ⟨by omega, by omega⟩ ?_
          refine A_ior (z := ((atB (M (c + 2)) d i + 2 ^ i : Nat) : Int)) dX0_filesAt_27 (by rw [hx, b_or, b_add hA]) ⟨by omega, by omega⟩ ?_
          refine A_istore_n dX0_filesAt_28 (by decide) rfl ?_
          refine A_iinc dX0_filesAt_29 (by decide) rfl rfl ⟨by omega, by omega⟩ ?_
          refine A_goto (tgt := 5) dX0_filesAt_32 (by decide) ?_
          refine ih _ ?_ (i + 1) _ rfl (by omega) ?_
          · omega
          · rw [atB]
            first | rw [if_pos (by assumption)] | (rw [if_neg (by assumption)]; exact hx)
  exact lp _ 0 0 rfl (by omega) rfl

/-- how many of the first scents are one yet behind the rain -/
def hvN (S : Fn) : Nat → Int
  | 0 => 0
  | n + 1 => if 0 < S n / 2 then hvN S n + 1 else hvN S n
theorem hvN_r (S : Fn) : ∀ n : Nat, 0 ≤ hvN S n ∧ hvN S n ≤ n
  | 0 => ⟨by unfold hvN; omega, by unfold hvN; omega⟩
  | n + 1 => by
    have := hvN_r S n
    unfold hvN
    split <;> omega
set_option maxRecDepth 100000 in
set_option maxHeartbeats 4000000 in
theorem c_halve {E : EN} {l : Launch} {M : Mem} {c n : Nat} {S : Fn} (hC : isCrs E c) (hn : n ≤ 12) (hS : ∀ k : Int, 0 ≤ k → k < n → M (c + 1) k = S k ∧ 0 ≤ S k ∧ S k ≤ 99) : Cn E l mX0_halveScents 0 [vR c, vI n] M (fun r M1 => ∃ z, r = vI z ∧ (z = hvN S n ∧ (∀ x, x ≠ c + 1 → M1 x = M x) ∧ ∀ k : Int, 0 ≤ k → k < n → M1 (c + 1) k = S k / 2)) := by
  refine Cn.of (by decide) rfl (Nat.le_of_ble_eq_true rfl) 2 rfl (fun oka okm G hR => ?_)
  obtain ⟨aC0, aC1, aC2, aC3, aC4, aC5, aC6, aC7⟩ := id hC
  refine A_iconst dX0_halveScents_0 (by decide) ?_
  refine A_istore_n dX0_halveScents_1 (by decide) rfl ?_
  refine A_iconst dX0_halveScents_2 (by decide) ?_
  refine A_istore_n dX0_halveScents_3 (by decide) rfl ?_
  have lp : ∀ (k : Nat) (i : Nat) (x : Int) (M1 : Mem), n - i = k → (i ≤ n) → (x = hvN S i) → (∀ y, y ≠ c + 1 → M1 y = M y) → (∀ k : Int, 0 ≤ k → k < n → M1 (c + 1) k = if k < i then S k / 2 else S k) → AW E mX0_halveScents G 0 0 4 [vR c, vI n, vI x, vI i] [] M1 := by
    intro k
    induction k using Nat.strongRecOn with
    | ind k ih =>
      intro i x M1 hk h0 hx hf hc
      refine A_iload_n dX0_halveScents_4 rfl ?_
      refine A_iload_n dX0_halveScents_5 rfl ?_
      refine A_icmp_ge (tgt := 37) dX0_halveScents_6 (by decide) (fun h6 => ?_) (fun h6 => ?_)
      · skip
        have hi : i = n := by omega
        subst hi
        refine A_iload_n dX0_halveScents_37 rfl ?_
        exact A_iret hR dX0_halveScents_38 rfl ⟨_, rfl, hx, hf, fun k a b => by rw [hc k a b, if_pos b]⟩
      · skip
        have hi := hS i (by omega) (by omega)
        have hv : M1 (c + 1) i = S i := by rw [hc i (by omega) (by omega), if_neg (by omega)]
        have hr := hvN_r S i
        refine A_aload_n dX0_halveScents_9 rfl ?_
        refine A_getR dX0_halveScents_10 fl_RX0_9 (by assumption) (by rfl) ?_
        refine A_iload_n dX0_halveScents_13 rfl ?_
        refine A_dup2 dX0_halveScents_14 rfl rfl ?_
        refine A_iald dX0_halveScents_15 (by assumption) (by omega) (by omega) ?_
        rw [hv]
        refine A_iconst dX0_halveScents_16 (by decide) ?_
        refine A_idiv  dX0_halveScents_17 (by omega) (by rw [Int.tdiv_eq_ediv_of_nonneg hi.2.1]; exact ⟨by omega, by omega⟩) ?_
        rw [Int.tdiv_eq_ediv_of_nonneg hi.2.1]
        refine A_iast dX0_halveScents_18 (by assumption) (by omega) (by omega) (fun M18 e18 k18 => ?_)
        refine A_aload_n dX0_halveScents_19 rfl ?_
        refine A_getR dX0_halveScents_20 fl_RX0_9 (by assumption) (by rfl) ?_
        refine A_iload_n dX0_halveScents_23 rfl ?_
        refine A_iald dX0_halveScents_24 (by assumption) (by omega) (by omega) ?_
        rw [show M18 (c + 1) i = S i / 2 by rw [e18, upm_s]]
        refine A_if_le (tgt := 31) dX0_halveScents_25 (by decide) (fun h25 => ?_) (fun h25 => ?_)
        · skip
          refine A_iinc dX0_halveScents_31 (by decide) rfl rfl ⟨by omega, by omega⟩ ?_
          refine A_goto (tgt := 4) dX0_halveScents_34 (by decide) ?_
          refine ih _ ?_ (i + 1) _ M18 rfl (by omega) ?_ (fun y hy => by rw [e18, upm_c hy]; exact hf y hy) (fun k a b => ?_)
          · omega
          · rw [hvN]
            first | (rw [if_pos (by omega)]; omega) | (rw [if_neg (by omega)]; omega)
          · rw [e18, upm_x]
            by_cases hk : k = i
            · subst hk; rw [if_pos ⟨rfl, rfl⟩, if_pos (by omega)]
            · rw [if_neg (fun q => hk q.2), hc k a b]
              by_cases q : k < i
              · rw [if_pos q, if_pos (by omega)]
              · rw [if_neg q, if_neg (by omega)]
        · skip
          refine A_iinc dX0_halveScents_28 (by decide) rfl rfl ⟨by omega, by omega⟩ ?_
          refine A_iinc dX0_halveScents_31 (by decide) rfl rfl ⟨by omega, by omega⟩ ?_
          refine A_goto (tgt := 4) dX0_halveScents_34 (by decide) ?_
          refine ih _ ?_ (i + 1) _ M18 rfl (by omega) ?_ (fun y hy => by rw [e18, upm_c hy]; exact hf y hy) (fun k a b => ?_)
          · omega
          · rw [hvN]
            first | (rw [if_pos (by omega)]; omega) | (rw [if_neg (by omega)]; omega)
          · rw [e18, upm_x]
            by_cases hk : k = i
            · subst hk; rw [if_pos ⟨rfl, rfl⟩, if_pos (by omega)]
            · rw [if_neg (fun q => hk q.2), hc k a b]
              by_cases q : k < i
              · rw [if_pos q, if_pos (by omega)]
              · rw [if_neg q, if_neg (by omega)]
  exact lp _ 0 0 M rfl (by omega) rfl (fun _ _ => rfl) (fun k a b => by rw [if_neg (by omega)]; exact (hS k a b).1)

set_option maxRecDepth 100000 in
set_option maxHeartbeats 4000000 in
theorem c_findSweetest {E : EN} {l : Launch} {M : Mem} {c t : Nat} {T : TD} {C : CS}(hC : isCrs E c) (hT : isTold E t) (hd : t + 8 ≤ c ∨ c + 8 ≤ t) (hrT : rT M t T) (hrC : rC M c T C) (hwT : wT T) (hwC : wC T C) : Cn E l mX0_findSweetest 1 [vR c, vR t] M (fun r M1 => r = vU ∧ ((∀ x, x ≠ c + 7 → M1 x = M x) ∧ ∀ d : Int, 0 ≤ d → d < 8 → M1 (c + 7) d = swN C d (oF T))) := by
  refine Cn.of (by decide) rfl (Nat.le_of_ble_eq_true rfl) 2 rfl (fun oka okm G hR => ?_)
  obtain ⟨aC0, aC1, aC2, aC3, aC4, aC5, aC6, aC7⟩ := id hC
  obtain ⟨aT0, aT1, aT2, aT3, aT4, aT5, aT6, aT7⟩ := id hT
  obtain ⟨⟨t0, t1, t2, t3, t4⟩, tk, tt, tf⟩ := id hrT
  obtain ⟨⟨c0, c1, c2, c3⟩, cs, cf⟩ := id hrC
  obtain ⟨wt0, wtk, wtt, wtf⟩ := id hwT
  obtain ⟨wc0, wcs, wcf⟩ := id hwC
  refine A_aload_n dX0_findSweetest_0 rfl ?_
  refine A_getR dX0_findSweetest_1 fl_RX0_30 (by assumption) (by rfl) ?_
  refine A_iconst dX0_findSweetest_4 (by decide) ?_
  refine A_sV2 (mj := mJ7_fill_53178) dX0_findSweetest_5 hR.rm (by decide) ok_J7_fill_53178 st_J7_fill_53178 ml_RX0_60 rfl (c_fill (n := 8) aC7 (by omega)) (fun M5 k5 q5 => ?_)
  refine A_iconst dX0_findSweetest_8 (by decide) ?_
  refine A_istore_n dX0_findSweetest_9 (by decide) rfl ?_
  have lp : ∀ (k : Nat) (i : Nat) (M1 : Mem) (x3 : AV), oF T - i = k → (i ≤ oF T) → (∀ y, y ≠ c + 7 → M1 y = M y) → (∀ d : Int, 0 ≤ d → d < 8 → M1 (c + 7) d = swN C d i) → AW E mX0_findSweetest G 0 0 10 [vR c, vR t, vI i, x3] [] M1 := by
    intro k
    induction k using Nat.strongRecOn with
    | ind k ih =>
      intro i M1 x3 hk h0 hf hc
      have w2 : M1 (c + 2) = M (c + 2) := hf _ (by omega)
      have w3 : M1 (c + 3) = M (c + 3) := hf _ (by omega)
      have w5 : M1 (c + 5) = M (c + 5) := hf _ (by omega)
      have wt : M1 t = M t := hf _ (by omega)
      refine A_iload_n dX0_findSweetest_10 rfl ?_
      refine A_aload_n dX0_findSweetest_11 rfl ?_
      refine A_getI (ki := 2) dX0_findSweetest_12 fl_RX0_100 (by assumption) (by rfl) rfl ?_
      rw [wt, t2]
      refine A_icmp_ge (tgt := 88) dX0_findSweetest_15 (by decide) (fun h15 => ?_) (fun h15 => ?_)
      · skip
        have hi : i = oF T := by omega
        subst hi
        exact A_vret hR dX0_findSweetest_88 rfl ⟨rfl, hf, hc⟩
      · skip
        have f1 := cf i (by omega) (by omega)
        have f2 := wcf i (by omega) (by omega)
        refine A_aload_n dX0_findSweetest_18 rfl ?_
        refine A_iload_n dX0_findSweetest_19 rfl ?_
        refine A_vI1 (mj := mX0_isFiled) dX0_findSweetest_20 hR.rm (by decide) ok_X0_isFiled mv_X0_isFiled ml_RX0_103 (by assumption) rfl rfl rfl (c_isFiled (by exact ⟨aC0, aC1, aC2, aC3, aC4, aC5, aC6, aC7⟩) (by omega) (by omega)) (fun z20 M20 g20 k20 q20 => ?_)
        obtain ⟨e20, q20a, q20b⟩ := q20
        subst M20
        rw [w5, (cf i (by omega) (by omega)).2.2.2] at q20b
        refine A_if_ne (tgt := 82) dX0_findSweetest_23 (by decide) (fun h23 => ?_) (fun h23 => ?_)
        · skip
          refine A_iinc dX0_findSweetest_82 (by decide) rfl rfl ⟨by omega, by omega⟩ ?_
          refine A_goto (tgt := 10) dX0_findSweetest_85 (by decide) ?_
          refine ih _ ?_ (i + 1) M1 _ rfl (by omega) hf (fun d a b => ?_)
          · omega
          · rw [sw_same (fun q => ?_)]
            · exact hc d a b
            · obtain ⟨q1, q2, q3, q4⟩ := q
              first | omega | (subst q1; omega)
        · skip
          refine A_aload_n dX0_findSweetest_26 rfl ?_
          refine A_getR dX0_findSweetest_27 fl_RX0_18 (by assumption) (by rfl) ?_
          refine A_iload_n dX0_findSweetest_30 rfl ?_
          refine A_iald dX0_findSweetest_31 (by assumption) (by omega) (by omega) ?_
          rw [w3, f1.2.1]
          refine A_if_ne (tgt := 38) dX0_findSweetest_32 (by decide) (fun h32 => ?_) (fun h32 => ?_)
          · skip
            refine A_aload_n dX0_findSweetest_38 rfl ?_
            refine A_getR dX0_findSweetest_39 fl_RX0_30 (by assumption) (by rfl) ?_
            refine A_aload_n dX0_findSweetest_42 rfl ?_
            refine A_getR dX0_findSweetest_43 fl_RX0_15 (by assumption) (by rfl) ?_
            refine A_iload_n dX0_findSweetest_46 rfl ?_
            refine A_iald dX0_findSweetest_47 (by assumption) (by omega) (by omega) ?_
            rw [w2, f1.1]
            refine A_iald dX0_findSweetest_48 (by assumption) (by omega) (by omega) ?_
            rw [hc _ (by omega) (by omega)]
            have sr := swN_r C (csA C i) i
            refine A_istore_n dX0_findSweetest_49 (by decide) rfl ?_
            refine A_iload_n dX0_findSweetest_50 rfl ?_
            refine A_iconst dX0_findSweetest_51 (by decide) ?_
            refine A_icmp_eq (tgt := 70) dX0_findSweetest_52 (by decide) (fun h52 => ?_) (fun h52 => ?_)
            · skip
              refine A_aload_n dX0_findSweetest_70 rfl ?_
              refine A_getR dX0_findSweetest_71 fl_RX0_30 (by assumption) (by rfl) ?_
              refine A_aload_n dX0_findSweetest_74 rfl ?_
              refine A_getR dX0_findSweetest_75 fl_RX0_15 (by assumption) (by rfl) ?_
              refine A_iload_n dX0_findSweetest_78 rfl ?_
              refine A_iald dX0_findSweetest_79 (by assumption) (by omega) (by omega) ?_
              rw [w2, f1.1]
              refine A_iload_n dX0_findSweetest_80 rfl ?_
              refine A_iast dX0_findSweetest_81 (by assumption) (by omega) (by omega) (fun M81 e81 k81 => ?_)
              refine A_iinc dX0_findSweetest_82 (by decide) rfl rfl ⟨by omega, by omega⟩ ?_
              refine A_goto (tgt := 10) dX0_findSweetest_85 (by decide) ?_
              refine ih _ ?_ (i + 1) M81 _ rfl (by omega) (fun y hy => by rw [e81, upm_c hy]; exact hf y hy) (fun d a b => ?_)
              · omega
              · rw [e81, upm_x]
                by_cases hd : d = csA C i
                · subst hd
                  rw [if_pos ⟨rfl, rfl⟩, sw_new ⟨rfl, by omega, by omega, by omega⟩]
                · rw [if_neg (fun q => hd q.2), sw_same (fun q => hd q.1.symm)]
                  exact hc d a b
            · skip
              refine A_aload_n dX0_findSweetest_55 rfl ?_
              refine A_getR dX0_findSweetest_56 fl_RX0_18 (by assumption) (by rfl) ?_
              refine A_iload_n dX0_findSweetest_59 rfl ?_
              refine A_iald dX0_findSweetest_60 (by assumption) (by omega) (by omega) ?_
              rw [w3, f1.2.1]
              refine A_aload_n dX0_findSweetest_61 rfl ?_
              refine A_getR dX0_findSweetest_62 fl_RX0_18 (by assumption) (by rfl) ?_
              refine A_iload_n dX0_findSweetest_65 rfl ?_
              refine A_iald dX0_findSweetest_66 (by assumption) (by omega) (by omega) ?_
              rw [w3, (cf _ (by omega) (by omega)).2.1]
              refine A_icmp_le (tgt := 82) dX0_findSweetest_67 (by decide) (fun h67 => ?_) (fun h67 => ?_)
              · skip
                refine A_iinc dX0_findSweetest_82 (by decide) rfl rfl ⟨by omega, by omega⟩ ?_
                refine A_goto (tgt := 10) dX0_findSweetest_85 (by decide) ?_
                refine ih _ ?_ (i + 1) M1 _ rfl (by omega) hf (fun d a b => ?_)
                · omega
                · rw [sw_same (fun q => ?_)]
                  · exact hc d a b
                  · obtain ⟨q1, q2, q3, q4⟩ := q
                    first | omega | (subst q1; omega)
              · skip
                refine A_aload_n dX0_findSweetest_70 rfl ?_
                refine A_getR dX0_findSweetest_71 fl_RX0_30 (by assumption) (by rfl) ?_
                refine A_aload_n dX0_findSweetest_74 rfl ?_
                refine A_getR dX0_findSweetest_75 fl_RX0_15 (by assumption) (by rfl) ?_
                refine A_iload_n dX0_findSweetest_78 rfl ?_
                refine A_iald dX0_findSweetest_79 (by assumption) (by omega) (by omega) ?_
                rw [w2, f1.1]
                refine A_iload_n dX0_findSweetest_80 rfl ?_
                refine A_iast dX0_findSweetest_81 (by assumption) (by omega) (by omega) (fun M81 e81 k81 => ?_)
                refine A_iinc dX0_findSweetest_82 (by decide) rfl rfl ⟨by omega, by omega⟩ ?_
                refine A_goto (tgt := 10) dX0_findSweetest_85 (by decide) ?_
                refine ih _ ?_ (i + 1) M81 _ rfl (by omega) (fun y hy => by rw [e81, upm_c hy]; exact hf y hy) (fun d a b => ?_)
                · omega
                · rw [e81, upm_x]
                  by_cases hd : d = csA C i
                  · subst hd
                    rw [if_pos ⟨rfl, rfl⟩, sw_new ⟨rfl, by omega, by omega, by omega⟩]
                  · rw [if_neg (fun q => hd q.2), sw_same (fun q => hd q.1.symm)]
                    exact hc d a b
          · skip
            refine A_goto (tgt := 82) dX0_findSweetest_35 (by decide) ?_
            refine A_iinc dX0_findSweetest_82 (by decide) rfl rfl ⟨by omega, by omega⟩ ?_
            refine A_goto (tgt := 10) dX0_findSweetest_85 (by decide) ?_
            refine ih _ ?_ (i + 1) M1 _ rfl (by omega) hf (fun d a b => ?_)
            · omega
            · rw [sw_same (fun q => ?_)]
              · exact hc d a b
              · obtain ⟨q1, q2, q3, q4⟩ := q
                first | omega | (subst q1; omega)
  exact lp _ 0 M5 vU rfl (by omega) (fun y hy => by rw [q5, flm_o hy]) (fun d a b => by rw [q5, flm_i a (by omega)]; rfl)

set_option maxRecDepth 100000 in
set_option maxHeartbeats 4000000 in
theorem c_wayFrom {E : EN} {l : Launch} {M : Mem} {c t : Nat} {T : TD} {C : CS}{d but : Int}(hC : isCrs E c) (hT : isTold E t) (hd : t + 8 ≤ c ∨ c + 8 ≤ t) (hrT : rT M t T) (hrC : rC M c T C) (hwT : wT T) (hwC : wC T C)(hb1 : -1 ≤ but) (hb2 : but < oT T) : Cn E l mX0_wayFrom 1 [vR c, vI d, vI but, vR t] M (fun r M1 => ∃ z, r = vI z ∧ (M1 = M ∧ z = way T C d but)) := by
  refine Cn.of (by decide) rfl (Nat.le_of_ble_eq_true rfl) 2 rfl (fun oka okm G hR => ?_)
  obtain ⟨aC0, aC1, aC2, aC3, aC4, aC5, aC6, aC7⟩ := id hC
  obtain ⟨aT0, aT1, aT2, aT3, aT4, aT5, aT6, aT7⟩ := id hT
  obtain ⟨⟨t0, t1, t2, t3, t4⟩, tk, tt, tf⟩ := id hrT
  obtain ⟨⟨c0, c1, c2, c3⟩, cs, cf⟩ := id hrC
  obtain ⟨wt0, wtk, wtt, wtf⟩ := id hwT
  obtain ⟨wc0, wcs, wcf⟩ := id hwC
  refine A_iconst dX0_wayFrom_0 (by decide) ?_
  refine A_istore dX0_wayFrom_1 (by decide) rfl ?_
  refine A_iconst dX0_wayFrom_3 (by decide) ?_
  refine A_istore dX0_wayFrom_4 (by decide) rfl ?_
  have lp : ∀ (k : Nat) (i : Nat) (x : Int), oT T - i = k → (i ≤ oT T) → (x = wyN T C d but i) → AW E mX0_wayFrom G 0 0 6 [vR c, vI d, vI but, vR t, vI x, vI i] [] M := by
    intro k
    induction k using Nat.strongRecOn with
    | ind k ih =>
      intro i x hk h0 hx
      refine A_iload dX0_wayFrom_6 rfl ?_
      refine A_aload_n dX0_wayFrom_8 rfl ?_
      refine A_getI (ki := 1) dX0_wayFrom_9 fl_RX0_107 (by assumption) (by rfl) rfl ?_
      rw [t1]
      refine A_icmp_ge (tgt := 67) dX0_wayFrom_12 (by decide) (fun h12 => ?_) (fun h12 => ?_)
      · skip
        have hi : i = oT T := by omega
        subst hi
        refine A_iload dX0_wayFrom_67 rfl ?_
        refine A_iconst dX0_wayFrom_69 (by decide) ?_
        refine A_icmp_ne (tgt := 77) dX0_wayFrom_70 (by decide) (fun h70 => ?_) (fun h70 => ?_)
        · skip
          refine A_iload dX0_wayFrom_77 rfl ?_
          exact A_iret hR dX0_wayFrom_79 rfl ⟨_, rfl, rfl, by unfold way; first | (rw [if_pos (by omega)]) | (rw [if_neg (by omega)]; exact hx)⟩
        · skip
          refine A_iload_n dX0_wayFrom_73 rfl ?_
          refine A_goto (tgt := 79) dX0_wayFrom_74 (by decide) ?_
          exact A_iret hR dX0_wayFrom_79 rfl ⟨_, rfl, rfl, by unfold way; first | (rw [if_pos (by omega)]) | (rw [if_neg (by omega)]; exact hx)⟩
      · skip
        have g1 := tt i (by omega) (by omega)
        have g2 := cs i (by omega) (by omega)
        have sr := wyN_r T C d but i
        refine A_iload dX0_wayFrom_15 rfl ?_
        refine A_iload_n dX0_wayFrom_17 rfl ?_
        refine A_icmp_eq (tgt := 61) dX0_wayFrom_18 (by decide) (fun h18 => ?_) (fun h18 => ?_)
        · skip
          refine A_iinc dX0_wayFrom_61 (by decide) rfl rfl ⟨by omega, by omega⟩ ?_
          refine A_goto (tgt := 6) dX0_wayFrom_64 (by decide) ?_
          refine ih _ ?_ (i + 1) _ rfl (by omega) ?_
          · omega
          · rw [wyN]
            first | rw [if_pos ⟨by omega, by omega, by omega⟩] | (rw [if_neg (fun q => by omega)]; try exact hx)
        · skip
          refine A_aload_n dX0_wayFrom_21 rfl ?_
          refine A_iload dX0_wayFrom_22 rfl ?_
          refine A_iload_n dX0_wayFrom_24 rfl ?_
          refine A_vI2 (mj := mX6_isOf) dX0_wayFrom_25 hR.rm (by decide) ok_X6_isOf mv_X6_isOf ml_RX0_110 (by assumption) rfl rfl rfl (c_isOf (by exact ⟨aT0, aT1, aT2, aT3, aT4, aT5, aT6, aT7⟩) (by omega) (by omega)) (fun z25 M25 g25 k25 q25 => ?_)
          obtain ⟨e25, q25a, q25b⟩ := q25
          subst M25
          rw [g1.1, g1.2.1] at q25b
          refine A_if_ne (tgt := 34) dX0_wayFrom_28 (by decide) (fun h28 => ?_) (fun h28 => ?_)
          · skip
            refine A_iload dX0_wayFrom_34 rfl ?_
            refine A_iconst dX0_wayFrom_36 (by decide) ?_
            refine A_icmp_eq (tgt := 57) dX0_wayFrom_37 (by decide) (fun h37 => ?_) (fun h37 => ?_)
            · skip
              refine A_iload dX0_wayFrom_57 rfl ?_
              refine A_istore dX0_wayFrom_59 (by decide) rfl ?_
              refine A_iinc dX0_wayFrom_61 (by decide) rfl rfl ⟨by omega, by omega⟩ ?_
              refine A_goto (tgt := 6) dX0_wayFrom_64 (by decide) ?_
              refine ih _ ?_ (i + 1) _ rfl (by omega) ?_
              · omega
              · rw [wyN]
                first | rw [if_pos ⟨by omega, by omega, by omega⟩] | (rw [if_neg (fun q => by omega)]; try exact hx)
            · skip
              refine A_aload_n dX0_wayFrom_40 rfl ?_
              refine A_getR dX0_wayFrom_41 fl_RX0_9 (by assumption) (by rfl) ?_
              refine A_iload dX0_wayFrom_44 rfl ?_
              refine A_iald dX0_wayFrom_46 (by assumption) (by omega) (by omega) ?_
              rw [g2]
              refine A_aload_n dX0_wayFrom_47 rfl ?_
              refine A_getR dX0_wayFrom_48 fl_RX0_9 (by assumption) (by rfl) ?_
              refine A_iload dX0_wayFrom_51 rfl ?_
              refine A_iald dX0_wayFrom_53 (by assumption) (by omega) (by omega) ?_
              rw [cs x (by omega) (by omega), hx]
              refine A_icmp_le (tgt := 61) dX0_wayFrom_54 (by decide) (fun h54 => ?_) (fun h54 => ?_)
              · skip
                refine A_iinc dX0_wayFrom_61 (by decide) rfl rfl ⟨by omega, by omega⟩ ?_
                refine A_goto (tgt := 6) dX0_wayFrom_64 (by decide) ?_
                refine ih _ ?_ (i + 1) _ rfl (by omega) ?_
                · omega
                · rw [wyN]
                  first | rw [if_pos ⟨by omega, by omega, by omega⟩] | (rw [if_neg (fun q => by omega)]; try exact hx)
              · skip
                refine A_iload dX0_wayFrom_57 rfl ?_
                refine A_istore dX0_wayFrom_59 (by decide) rfl ?_
                refine A_iinc dX0_wayFrom_61 (by decide) rfl rfl ⟨by omega, by omega⟩ ?_
                refine A_goto (tgt := 6) dX0_wayFrom_64 (by decide) ?_
                refine ih _ ?_ (i + 1) _ rfl (by omega) ?_
                · omega
                · rw [wyN]
                  first | rw [if_pos ⟨by omega, by omega, by omega⟩] | (rw [if_neg (fun q => by omega)]; try exact hx)
          · skip
            refine A_goto (tgt := 61) dX0_wayFrom_31 (by decide) ?_
            refine A_iinc dX0_wayFrom_61 (by decide) rfl rfl ⟨by omega, by omega⟩ ?_
            refine A_goto (tgt := 6) dX0_wayFrom_64 (by decide) ?_
            refine ih _ ?_ (i + 1) _ rfl (by omega) ?_
            · omega
            · rw [wyN]
              first | rw [if_pos ⟨by omega, by omega, by omega⟩] | (rw [if_neg (fun q => by omega)]; try exact hx)
  exact lp _ 0 (-1) rfl (by omega) rfl

set_option maxRecDepth 100000 in
set_option maxHeartbeats 4000000 in
theorem c_leaveScent {E : EN} {l : Launch} {M : Mem} {c t : Nat} {T : TD} {C : CS}{cr : Fn}(hC : isCrs E c) (hT : isTold E t) (hd : t + 8 ≤ c ∨ c + 8 ≤ t) (hrT : rT M t T) (hwT : wT T) (hwC : wC T C) (hs : ∀ k : Int, 0 ≤ k → k < oT T → M (c + 1) k = csS C k) (hw : ∀ k : Int, 0 ≤ k → k < oF T → M (c + 3) k = csSw C k) (hcr : ∀ k : Int, 0 ≤ k → k < oF T → M (c + 6) k = cr k ∧ -1 ≤ cr k ∧ cr k < oT T) : Cn E l mX0_leaveScent 1 [vR c, vR t] M (fun r M1 => r = vU ∧ ((∀ x, x ≠ c + 1 → M1 x = M x) ∧ ∀ j : Int, 0 ≤ j → j < oT T → M1 (c + 1) j = scN C cr j (oF T))) := by
  refine Cn.of (by decide) rfl (Nat.le_of_ble_eq_true rfl) 2 rfl (fun oka okm G hR => ?_)
  obtain ⟨aC0, aC1, aC2, aC3, aC4, aC5, aC6, aC7⟩ := id hC
  obtain ⟨aT0, aT1, aT2, aT3, aT4, aT5, aT6, aT7⟩ := id hT
  obtain ⟨⟨t0, t1, t2, t3, t4⟩, tk, tt, tf⟩ := id hrT
  obtain ⟨wt0, wtk, wtt, wtf⟩ := id hwT
  obtain ⟨wc0, wcs, wcf⟩ := id hwC
  refine A_iconst dX0_leaveScent_0 (by decide) ?_
  refine A_istore_n dX0_leaveScent_1 (by decide) rfl ?_
  have lp : ∀ (k : Nat) (i : Nat) (M1 : Mem) (x3 : AV), oF T - i = k → (i ≤ oF T) → (∀ y, y ≠ c + 1 → M1 y = M y) → (∀ j : Int, 0 ≤ j → j < oT T → M1 (c + 1) j = scN C cr j i) → AW E mX0_leaveScent G 0 0 2 [vR c, vR t, vI i, x3] [] M1 := by
    intro k
    induction k using Nat.strongRecOn with
    | ind k ih =>
      intro i M1 x3 hk h0 hf hc
      have w3 : M1 (c + 3) = M (c + 3) := hf _ (by omega)
      have w6 : M1 (c + 6) = M (c + 6) := hf _ (by omega)
      have wt : M1 t = M t := hf _ (by omega)
      refine A_iload_n dX0_leaveScent_2 rfl ?_
      refine A_aload_n dX0_leaveScent_3 rfl ?_
      refine A_getI (ki := 2) dX0_leaveScent_4 fl_RX0_100 (by assumption) (by rfl) rfl ?_
      rw [wt, t2]
      refine A_icmp_ge (tgt := 52) dX0_leaveScent_7 (by decide) (fun h7 => ?_) (fun h7 => ?_)
      · skip
        have hi : i = oF T := by omega
        subst hi
        exact A_vret hR dX0_leaveScent_52 rfl ⟨rfl, hf, hc⟩
      · skip
        have f1 := hcr i (by omega) (by omega)
        have f2 := wcf i (by omega) (by omega)
        refine A_aload_n dX0_leaveScent_10 rfl ?_
        refine A_getR dX0_leaveScent_11 fl_RX0_27 (by assumption) (by rfl) ?_
        refine A_iload_n dX0_leaveScent_14 rfl ?_
        refine A_iald dX0_leaveScent_15 (by assumption) (by omega) (by omega) ?_
        rw [w6, f1.1]
        refine A_istore_n dX0_leaveScent_16 (by decide) rfl ?_
        refine A_iload_n dX0_leaveScent_17 rfl ?_
        refine A_iconst dX0_leaveScent_18 (by decide) ?_
        refine A_icmp_eq (tgt := 46) dX0_leaveScent_19 (by decide) (fun h19 => ?_) (fun h19 => ?_)
        · skip
          refine A_iinc dX0_leaveScent_46 (by decide) rfl rfl ⟨by omega, by omega⟩ ?_
          refine A_goto (tgt := 2) dX0_leaveScent_49 (by decide) ?_
          refine ih _ ?_ (i + 1) M1 _ rfl (by omega) hf (fun j a b => ?_)
          · omega
          · rw [scN, if_neg (by omega)]; exact hc j a b
        · skip
          refine A_aload_n dX0_leaveScent_22 rfl ?_
          refine A_getR dX0_leaveScent_23 fl_RX0_9 (by assumption) (by rfl) ?_
          refine A_iload_n dX0_leaveScent_26 rfl ?_
          refine A_bipush dX0_leaveScent_27 bp_99 (by decide) ?_
          refine A_aload_n dX0_leaveScent_29 rfl ?_
          refine A_getR dX0_leaveScent_30 fl_RX0_9 (by assumption) (by rfl) ?_
          refine A_iload_n dX0_leaveScent_33 rfl ?_
          refine A_iald dX0_leaveScent_34 (by assumption) (by omega) (by omega) ?_
          rw [hc (cr i) (by omega) (by omega)]
          have sr := scN_r (cr := cr) (wcs (cr i) (by omega) (by omega)).1 (wcs (cr i) (by omega) (by omega)).2 i (fun f x y => ⟨(wcf f x (by omega)).2.2.1, (wcf f x (by omega)).2.2.2.1⟩)
          refine A_aload_n dX0_leaveScent_35 rfl ?_
          refine A_getR dX0_leaveScent_36 fl_RX0_18 (by assumption) (by rfl) ?_
          refine A_iload_n dX0_leaveScent_39 rfl ?_
          refine A_iald dX0_leaveScent_40 (by assumption) (by omega) (by omega) ?_
          rw [w3, hw i (by omega) (by omega)]
          refine A_iadd dX0_leaveScent_41 ⟨by omega, by omega⟩ ?_
          refine A_mmin (d := 1) dX0_leaveScent_42 hR.rm (by decide) ml_RX0_114 rfl ?_
          refine A_iast dX0_leaveScent_45 (by assumption) (by omega) (by omega) (fun M45 e45 k45 => ?_)
          refine A_iinc dX0_leaveScent_46 (by decide) rfl rfl ⟨by omega, by omega⟩ ?_
          refine A_goto (tgt := 2) dX0_leaveScent_49 (by decide) ?_
          refine ih _ ?_ (i + 1) M45 _ rfl (by omega) (fun y hy => by rw [e45, upm_c hy]; exact hf y hy) (fun j a b => ?_)
          · omega
          · rw [e45, upm_x]
            by_cases hj : j = cr i
            · subst hj
              rw [if_pos ⟨rfl, rfl⟩, scN, if_pos rfl]
            · rw [if_neg (fun q => hj q.2), scN, if_neg (fun q => hj q.symm)]
              exact hc j a b
  exact lp _ 0 M vU rfl (by omega) (fun y hy => rfl) (fun d a b => hs d a b)

set_option maxRecDepth 100000 in
set_option maxHeartbeats 4000000 in
theorem c_fadeScents {E : EN} {l : Launch} {M : Mem} {c t : Nat} {T : TD} {C : CS}{S : Fn}(hC : isCrs E c) (hT : isTold E t) (hd : t + 8 ≤ c ∨ c + 8 ≤ t) (hrT : rT M t T) (hwT : wT T) (hs : ∀ k : Int, 0 ≤ k → k < oT T → M (c + 1) k = S k ∧ 0 ≤ S k ∧ S k ≤ 99) : Cn E l mX0_fadeScents 1 [vR c, vR t] M (fun r M1 => r = vU ∧ ((∀ x, x ≠ c + 1 → M1 x = M x) ∧ ∀ j : Int, 0 ≤ j → j < oT T → M1 (c + 1) j = max 0 (S j - oFa T))) := by
  refine Cn.of (by decide) rfl (Nat.le_of_ble_eq_true rfl) 1 rfl (fun oka okm G hR => ?_)
  obtain ⟨aC0, aC1, aC2, aC3, aC4, aC5, aC6, aC7⟩ := id hC
  obtain ⟨aT0, aT1, aT2, aT3, aT4, aT5, aT6, aT7⟩ := id hT
  obtain ⟨⟨t0, t1, t2, t3, t4⟩, tk, tt, tf⟩ := id hrT
  obtain ⟨wt0, wtk, wtt, wtf⟩ := id hwT
  refine A_iconst dX0_fadeScents_0 (by decide) ?_
  refine A_istore_n dX0_fadeScents_1 (by decide) rfl ?_
  have lp : ∀ (k : Nat) (i : Nat) (M1 : Mem), oT T - i = k → (i ≤ oT T) → (∀ y, y ≠ c + 1 → M1 y = M y) → (∀ j : Int, 0 ≤ j → j < oT T → M1 (c + 1) j = if j < i then max 0 (S j - oFa T) else S j) → AW E mX0_fadeScents G 0 0 2 [vR c, vR t, vI i] [] M1 := by
    intro k
    induction k using Nat.strongRecOn with
    | ind k ih =>
      intro i M1 hk h0 hf hc
      have wt : M1 t = M t := hf _ (by omega)
      refine A_iload_n dX0_fadeScents_2 rfl ?_
      refine A_aload_n dX0_fadeScents_3 rfl ?_
      refine A_getI (ki := 1) dX0_fadeScents_4 fl_RX0_107 (by assumption) (by rfl) rfl ?_
      rw [wt, t1]
      refine A_icmp_ge (tgt := 37) dX0_fadeScents_7 (by decide) (fun h7 => ?_) (fun h7 => ?_)
      · skip
        have hi : i = oT T := by omega
        subst hi
        exact A_vret hR dX0_fadeScents_37 rfl ⟨rfl, hf, fun j a b => by rw [hc j a b, if_pos b]⟩
      · skip
        have f1 := hs i (by omega) (by omega)
        refine A_aload_n dX0_fadeScents_10 rfl ?_
        refine A_getR dX0_fadeScents_11 fl_RX0_9 (by assumption) (by rfl) ?_
        refine A_iload_n dX0_fadeScents_14 rfl ?_
        refine A_iconst dX0_fadeScents_15 (by decide) ?_
        refine A_aload_n dX0_fadeScents_16 rfl ?_
        refine A_getR dX0_fadeScents_17 fl_RX0_9 (by assumption) (by rfl) ?_
        refine A_iload_n dX0_fadeScents_20 rfl ?_
        refine A_iald dX0_fadeScents_21 (by assumption) (by omega) (by omega) ?_
        rw [hc i (by omega) (by omega), if_neg (by omega)]
        refine A_aload_n dX0_fadeScents_22 rfl ?_
        refine A_getI (ki := 3) dX0_fadeScents_23 fl_RX0_120 (by assumption) (by rfl) rfl ?_
        rw [wt, t3]
        refine A_isub dX0_fadeScents_26 ⟨by omega, by omega⟩ ?_
        refine A_mmax (d := 1) dX0_fadeScents_27 hR.rm (by decide) ml_RX0_123 rfl ?_
        refine A_iast dX0_fadeScents_30 (by assumption) (by omega) (by omega) (fun M30 e30 k30 => ?_)
        refine A_iinc dX0_fadeScents_31 (by decide) rfl rfl ⟨by omega, by omega⟩ ?_
        refine A_goto (tgt := 2) dX0_fadeScents_34 (by decide) ?_
        refine ih _ ?_ (i + 1) M30 rfl (by omega) (fun y hy => by rw [e30, upm_c hy]; exact hf y hy) (fun j a b => ?_)
        · omega
        · rw [e30, upm_x]
          by_cases hj : j = i
          · subst hj
            rw [if_pos ⟨rfl, rfl⟩, if_pos (by omega)]
          · rw [if_neg (fun q => hj q.2), hc j a b]
            by_cases q : j < i
            · rw [if_pos q, if_pos (by omega)]
            · rw [if_neg q, if_neg (by omega)]
  exact lp _ 0 M rfl (by omega) (fun y hy => rfl) (fun d a b => by rw [if_neg (by omega)]; exact (hs d a b).1)

