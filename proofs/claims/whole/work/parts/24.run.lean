/-! COURSE: minutes -/
theorem scN_none {C : CS} {cr : Fn} {j : Int} : ∀ n : Nat, (∀ k : Int, 0 ≤ k → k < n → cr k = -1) → 0 ≤ j → scN C cr j n = csS C j
  | 0, _, _ => rfl
  | n + 1, h, hj => by
    rw [scN, if_neg (by have := h n (by omega) (by omega); omega)]
    exact scN_none n (fun k a b => h k a (by omega)) hj
def itC (T : TD) (C : CS) : Nat → CS
  | 0 => C
  | n + 1 => mnC T (itC T C n)
theorem itC_w {T : TD} {C : CS} (hT : wT T) (hC : wC T C) : ∀ n : Nat, wC T (itC T C n) ∧ csG (itC T C n) = csG C + n
  | 0 => ⟨hC, by simp [itC]⟩
  | n + 1 => by
    obtain ⟨h1, h2⟩ := itC_w hT hC n
    refine ⟨mnC_w hT h1, ?_⟩
    show csG (itC T C n) + 1 = _
    omega
theorem itC_s (T : TD) (C : CS) : ∀ n : Nat, itC T (mnC T C) n = itC T C (n + 1)
  | 0 => rfl
  | n + 1 => by rw [itC, itC_s T C n]; rfl
theorem itC_a (T : TD) (C : CS) (m : Nat) : ∀ n : Nat, itC T (itC T C m) n = itC T C (m + n)
  | 0 => rfl
  | n + 1 => by rw [itC, itC_a T C m n]; rfl
theorem crd_u {T : TD} {C : CS} {f : Int} (h0 : 0 ≤ f) (h : crd T C f ≠ -1) : csF C f = -1 ∧ 0 < csSw C f ∧ csW C ≤ 0 := by
  unfold crd at h
  split at h
  · exact absurd rfl h
  · rename_i q
    have e : swN C (csA C f) (oF T) = f := by omega
    have p := swN_p C (csA C f) (oF T)
    rw [e] at p
    exact ⟨(p (by omega)).2.1, (p (by omega)).2.2, by omega⟩
/-- one that is filed stays so -/
theorem mn_stable {T : TD} {C : CS} {f : Int} (h0 : 0 ≤ f) (h : csF C f ≠ -1) : csF (mnC T C) f = csF C f ∧ crd T C f = -1 := by
  have e : crd T C f = -1 := by
    by_cases q : crd T C f = -1
    · exact q
    · exact absurd (crd_u h0 q).1 h
  refine ⟨?_, e⟩
  show csF (mnB T C (crd T C)) f = _
  rw [mnB_F, if_neg (fun z => z.1 e)]
theorem it_stable {T : TD} {C : CS} {f : Int} (h0 : 0 ≤ f) (h : csF C f ≠ -1) : ∀ n : Nat, csF (itC T C n) f = csF C f
  | 0 => rfl
  | n + 1 => by
    have ih := it_stable (T := T) h0 h n
    show csF (mnC T (itC T C n)) f = _
    rw [(mn_stable h0 (by rw [ih]; exact h)).1, ih]
theorem it_later {T : TD} {C : CS} {f : Int} (h0 : 0 ≤ f) {m n : Nat} (hmn : m ≤ n) (h : csF (itC T C m) f ≠ -1) : csF (itC T C n) f = csF (itC T C m) f := by
  have := it_stable (T := T) h0 h (n - m)
  rw [itC_a, show m + (n - m) = n by omega] at this
  exact this
theorem sw_ext {C C' : CS} {d : Int} : ∀ n : Nat, (∀ k : Int, 0 ≤ k → k < n → csA C' k = csA C k ∧ csF C' k = csF C k ∧ csSw C' k = csSw C k) → swN C' d n = swN C d n
  | 0, _ => rfl
  | n + 1, h => by
    have ih := sw_ext (d := d) n (fun k a b => h k a (by omega))
    have q := h n (by omega) (by omega)
    have r := swN_r C d n
    unfold swN
    rw [ih, q.1, q.2.1, q.2.2]
    by_cases e : swN C d n = -1
    · simp [e]
    · rw [(h (swN C d n) (by omega) (by omega)).2.2]
theorem wy_none {T : TD} {C : CS} {d but : Int} : ∀ n : Nat, wyN T C d but n = -1 ↔ ∀ k : Int, 0 ≤ k → k < n → ¬ (onT T k d ∧ k ≠ but)
  | 0 => ⟨fun _ k a b => by omega, fun _ => rfl⟩
  | n + 1 => by
    have ih := wy_none (T := T) (C := C) (d := d) (but := but) n
    have r := wyN_r T C d but n
    constructor
    · intro h k a b
      unfold wyN at h
      split at h
      · omega
      · rename_i q
        by_cases hk : k = n
        · subst hk
          exact fun z => q ⟨z.1, z.2, Or.inl h⟩
        · exact (ih.mp h) k a (by omega)
    · intro h
      have h1 := ih.mpr (fun k a b => h k a (by omega))
      unfold wyN
      rw [if_neg (fun q => h n (by omega) (by omega) ⟨q.1, q.2.1⟩)]
      exact h1
/-- nothing moves, and it is no winter: nothing ever will -/
def frz (T : TD) (C : CS) : Prop := csW C ≤ 0 ∧ ∀ k : Int, 0 ≤ k → k < oF T → crd T C k = -1
theorem frz_s {T : TD} {C : CS} (h : frz T C) : frz T (mnC T C) ∧ ∀ k : Int, 0 ≤ k → k < oF T → csF (mnC T C) k = csF C k := by
  obtain ⟨h1, h2⟩ := h
  have e : ∀ k : Int, 0 ≤ k → k < oF T → csA (mnC T C) k = csA C k ∧ csF (mnC T C) k = csF C k ∧ csSw (mnC T C) k = csSw C k ∧ csC (mnC T C) k = csC C k := fun k a b => by
    show csA (mnB T C (crd T C)) k = _ ∧ csF (mnB T C (crd T C)) k = _ ∧ csSw (mnB T C (crd T C)) k = _ ∧ csC (mnB T C (crd T C)) k = _
    rw [mnB_A, mnB_F, mnB_Sw, mnB_C, if_pos (h2 k a b), if_pos (h2 k a b), if_pos (h2 k a b), if_neg (fun z => z.1 (h2 k a b))]
    exact ⟨rfl, rfl, rfl, rfl⟩
  have w : csW (mnC T C) = csW C := by
    show (if 0 < csW C then csW C - 1 else csW C) = _
    rw [if_neg (by omega)]
  refine ⟨⟨by rw [w]; exact h1, fun k a b => ?_⟩, fun k a b => (e k a b).2.1⟩
  have q := h2 k a b
  unfold crd at q ⊢
  rw [w, (e k a b).1, (e k a b).2.2.2, show csQ (mnC T C) = csQ C from rfl, sw_ext (oF T) (fun k a b => ⟨(e k a b).1, (e k a b).2.1, (e k a b).2.2.1⟩)]
  split at q
  · rename_i z; rw [if_pos z]
  · rename_i z
    rw [if_neg z]
    unfold way at q ⊢
    by_cases y : wyN T C (csA C k) (csC C k) (oT T) = -1
    · rw [if_pos y] at q
      rw [if_pos ((wy_none _).mpr ((wy_none _).mp y))]
      exact q
    · rw [if_neg y] at q
      exact absurd q y
theorem frz_it {T : TD} {C : CS} (h : frz T C) : ∀ n : Nat, frz T (itC T C n) ∧ ∀ k : Int, 0 ≤ k → k < oF T → csF (itC T C n) k = csF C k
  | 0 => ⟨h, fun _ _ _ => rfl⟩
  | n + 1 => by
    obtain ⟨h1, h2⟩ := frz_it h n
    obtain ⟨h3, h4⟩ := frz_s h1
    exact ⟨h3, fun k a b => (h4 k a b).trans (h2 k a b)⟩

set_option maxRecDepth 100000 in
set_option maxHeartbeats 4000000 in
theorem c_passMinute {E : EN} {l : Launch} {M : Mem} {c t : Nat} {T : TD} {C : CS}(hC : isCrs E c) (hT : isTold E t) (hd : t + 8 ≤ c ∨ c + 8 ≤ t) (hrT : rT M t T) (hrC : rC M c T C) (hwT : wT T) (hwC : wC T C)(hG : csG C < 1000000) : Cn E l mX0_passMinute 3 [vR c, vR t] M (fun r M1 => ∃ z, r = vI z ∧ (fr M M1 c 8 ∧ rC M1 c T (mnC T C) ∧ (z = 0 ∨ z = 1) ∧ (z = 1 → carr T C) ∧ (z = 0 → ∀ k : Int, 0 ≤ k → k < oF T → crd T C k = -1))) := by
  refine Cn.of (by decide) rfl (Nat.le_of_ble_eq_true rfl) 1 rfl (fun oka okm G hR => ?_)
  obtain ⟨aC0, aC1, aC2, aC3, aC4, aC5, aC6, aC7⟩ := id hC
  obtain ⟨aT0, aT1, aT2, aT3, aT4, aT5, aT6, aT7⟩ := id hT
  obtain ⟨⟨t0, t1, t2, t3, t4⟩, tk, tt, tf⟩ := id hrT
  obtain ⟨⟨c0, c1, c2, c3⟩, cs, cf⟩ := id hrC
  obtain ⟨wt0, wtk, wtt, wtf⟩ := id hwT
  obtain ⟨wc0, wcs, wcf⟩ := id hwC
  refine A_aload_n dX0_passMinute_0 rfl ?_
  refine A_aload_n dX0_passMinute_1 rfl ?_
  refine A_vI1 (mj := mX0_choose) dX0_passMinute_2 hR.rm (by decide) ok_X0_choose mv_X0_choose ml_RX0_70 (by assumption) rfl rfl rfl (c_choose (by exact ⟨aC0, aC1, aC2, aC3, aC4, aC5, aC6, aC7⟩) (by exact ⟨aT0, aT1, aT2, aT3, aT4, aT5, aT6, aT7⟩) hd hrT hrC hwT hwC) (fun z2 M2 g2 k2 q2 => ?_)
  obtain ⟨f2, q6, z0, z1, z2n⟩ := q2
  have hcr : ∀ k : Int, 0 ≤ k → k < oF T → M2 (c + 6) k = crd T C k ∧ -1 ≤ crd T C k ∧ crd T C k < oT T ∧ (crd T C k ≠ -1 → onT T (crd T C k) (csA C k) ∧ csF C k = -1) := fun k a b => ⟨q6 k a b, (crd_p hwC a b).1, (crd_p hwC a b).2.1, fun h => ⟨(crd_p hwC a b).2.2 h, (crd_u a h).1⟩⟩
  have j46 : ∀ M6 : Mem, okM M6 → fr M M6 c 8 → M6 c 0 = csW (mnC T C) → M6 c 1 = csG C → M6 c 2 = csQ C → M6 c 3 = fsN (csF (mnC T C)) (oF T) → (∀ k : Int, 0 ≤ k → k < oT T → M6 (c + 1) k = csS (mnC T C) k) → (∀ k : Int, 0 ≤ k → k < oF T → M6 (c + 2) k = csA (mnC T C) k ∧ M6 (c + 3) k = csSw (mnC T C) k ∧ M6 (c + 4) k = csC (mnC T C) k ∧ M6 (c + 5) k = csF (mnC T C) k) → AW E mX0_passMinute G 0 0 46 [vR c, vR t, vI z2] [] M6 := by
    intro M6 k6 a1 a2 a3 a4 a5 a6 a7
    refine A_aload_n dX0_passMinute_46 rfl ?_
    refine A_dup dX0_passMinute_47 rfl ?_
    refine A_getI (ki := 1) dX0_passMinute_48 fl_RX0_40 (by assumption) (by rfl) rfl ?_
    rw [a3]
    refine A_iconst dX0_passMinute_51 (by decide) ?_
    refine A_iadd dX0_passMinute_52 ⟨by omega, by omega⟩ ?_
    refine A_putI (ki := 1) dX0_passMinute_53 fl_RX0_40 fi0_1 (by assumption) (by rfl) rfl (fun M53 e53 k53 => ?_)
    refine A_iload_n dX0_passMinute_56 rfl ?_
    exact A_zret hR dX0_passMinute_57 rfl (by first | exact Or.inl rfl | exact Or.inr rfl | omega) ⟨_, rfl, fun y hy => by rw [e53, upm_c (by omega)]; exact a1 y hy, ⟨⟨by rw [e53, upm_k (by omega)]; exact a2, by rw [e53, upm_s]; rfl, by rw [e53, upm_k (by omega)]; exact a4, by rw [e53, upm_k (by omega)]; exact a5⟩, fun k a b => by rw [e53, upm_c (by omega)]; exact a6 k a b, fun k a b => by rw [e53, upm_c (by omega), upm_c (by omega), upm_c (by omega), upm_c (by omega)]; exact a7 k a b⟩, z0, z1, z2n⟩
  have j32 : ∀ M4 : Mem, okM M4 → (∀ y, y ≠ c → y ≠ c + 1 → M4 y = M2 y) → (∀ k : Int, k ≠ 0 → M4 c k = M2 c k) → M4 c 0 = csW (mnC T C) → (∀ j : Int, 0 ≤ j → j < oT T → M4 (c + 1) j = scN C (crd T C) j (oF T)) → AW E mX0_passMinute G 0 0 32 [vR c, vR t, vI z2] [] M4 := by
    intro M4 k4 b1 b2 b3 b4
    have b1' : ∀ y, (y < c ∨ c + 8 ≤ y) → M4 y = M y := fun y hy => by rw [b1 y (by omega) (by omega), f2 y (by omega) (by omega)]
    have rT4 : rT M4 t T := rT_fr hrT (c := c) (n := 8) b1' hd
    refine A_aload_n dX0_passMinute_32 rfl ?_
    refine A_aload_n dX0_passMinute_33 rfl ?_
    refine A_vV1 (mj := mX0_fadeScents) dX0_passMinute_34 hR.rm (by decide) ok_X0_fadeScents mv_X0_fadeScents ml_RX0_77 (by assumption) rfl rfl rfl (c_fadeScents (C := C) (S := fun j => scN C (crd T C) j (oF T)) (by exact ⟨aC0, aC1, aC2, aC3, aC4, aC5, aC6, aC7⟩) (by exact ⟨aT0, aT1, aT2, aT3, aT4, aT5, aT6, aT7⟩) hd rT4 hwT (fun k a b => ⟨b4 k a b, scN_r (wcs k a b).1 (wcs k a b).2 (oF T) (fun f x y => ⟨(wcf f x y).2.2.1, (wcf f x y).2.2.2.1⟩)⟩)) (fun M34 k34 q34 => ?_)
    obtain ⟨q34a, q34b⟩ := q34
    have f34 : ∀ y, (y < c ∨ c + 8 ≤ y) → M34 y = M y := fun y hy => by rw [q34a y (by omega)]; exact b1' y hy
    have c34 : ∀ k : Int, k ≠ 0 → M34 c k = M c k := fun k hk => by rw [q34a c (by omega), b2 k hk, f2 c (by omega) (by omega)]
    have d34 : ∀ y, y = c + 2 ∨ y = c + 3 ∨ y = c + 4 ∨ y = c + 5 → M34 y = M y := fun y hy => by rw [q34a y (by omega), b1 y (by omega) (by omega), f2 y (by omega) (by omega)]
    refine A_iload_n dX0_passMinute_37 rfl ?_
    refine A_if_eq (tgt := 46) dX0_passMinute_38 (by decide) (fun h38 => ?_) (fun h38 => ?_)
    · skip
      have none := z2n h38
      have eA : ∀ k : Int, 0 ≤ k → k < oF T → csA (mnC T C) k = csA C k ∧ csSw (mnC T C) k = csSw C k ∧ csC (mnC T C) k = csC C k ∧ csF (mnC T C) k = csF C k := fun k a b => by
        show csA (mnB T C (crd T C)) k = _ ∧ csSw (mnB T C (crd T C)) k = _ ∧ csC (mnB T C (crd T C)) k = _ ∧ csF (mnB T C (crd T C)) k = _
        rw [mnB_A, mnB_F, mnB_Sw, mnB_C, if_pos (none k a b), if_pos (none k a b), if_pos (none k a b), if_neg (fun z => z.1 (none k a b))]
        exact ⟨rfl, rfl, rfl, rfl⟩
      exact j46 M34 k34 f34 (by rw [q34a c (by omega)]; exact b3) (by rw [c34 1 (by omega)]; exact c1) (by rw [c34 2 (by omega)]; exact c2) (by rw [c34 3 (by omega), c3]; congr 1; exact fsN_ext _ (fun k hk => by rw [(eA k (by omega) (by omega)).2.2.2])) q34b (fun k a b => by rw [d34 _ (by omega), d34 _ (by omega), d34 _ (by omega), d34 _ (by omega), (eA k a b).1, (eA k a b).2.1, (eA k a b).2.2.1, (eA k a b).2.2.2]; exact cf k a b)
    · skip
      refine A_aload_n dX0_passMinute_41 rfl ?_
      refine A_aload_n dX0_passMinute_42 rfl ?_
      refine A_vV1 (mj := mX0_arrive) dX0_passMinute_43 hR.rm (by decide) ok_X0_arrive mv_X0_arrive ml_RX0_80 (by assumption) rfl rfl rfl (c_arrive (cr := crd T C) (C := C) (by exact ⟨aC0, aC1, aC2, aC3, aC4, aC5, aC6, aC7⟩) (by exact ⟨aT0, aT1, aT2, aT3, aT4, aT5, aT6, aT7⟩) hd (rT_fr hrT (c := c) (n := 8) f34 hd) hwT hwC (by rw [c34 1 (by omega)]; exact c1) (by rw [c34 3 (by omega)]; exact c3) (fun k a b => by rw [d34 _ (by omega), d34 _ (by omega), d34 _ (by omega), d34 _ (by omega)]; exact cf k a b) (fun k a b => by rw [q34a _ (by omega), b1 _ (by omega) (by omega)]; exact hcr k a b)) (fun M43 k43 q43 => ?_)
      obtain ⟨q43a, q43b, q43c, q43d⟩ := q43
      exact j46 M43 k43 (fun y hy => by rw [q43a y (by unfold mvd; omega)]; exact f34 y hy) (by rw [q43b 0 (by omega), q34a c (by omega)]; exact b3) (by rw [q43b 1 (by omega), c34 1 (by omega)]; exact c1) (by rw [q43b 2 (by omega), c34 2 (by omega)]; exact c2) q43c (fun k a b => by rw [q43a _ (by unfold mvd; omega)]; exact q34b k a b) q43d
  have j23 : ∀ M3 : Mem, okM M3 → (∀ y, y ≠ c → M3 y = M2 y) → (∀ k : Int, k ≠ 0 → M3 c k = M2 c k) → M3 c 0 = csW (mnC T C) → AW E mX0_passMinute G 0 0 23 [vR c, vR t, vI z2] [] M3 := by
    intro M3 k3 b1 b2 b3
    have rT3 : rT M3 t T := rT_fr hrT (c := c) (n := 8) (fun y hy => by rw [b1 y (by omega), f2 y (by omega) (by omega)]) hd
    refine A_iload_n dX0_passMinute_23 rfl ?_
    refine A_if_eq (tgt := 32) dX0_passMinute_24 (by decide) (fun h24 => ?_) (fun h24 => ?_)
    · skip
      exact j32 M3 k3 (fun y y1 y2 => b1 y y1) b2 b3 (fun j a b => by rw [b1 _ (by omega), f2 _ (by omega) (by omega), scN_none _ (z2n h24) a]; exact cs j a b)
    · skip
      refine A_aload_n dX0_passMinute_27 rfl ?_
      refine A_aload_n dX0_passMinute_28 rfl ?_
      refine A_vV1 (mj := mX0_leaveScent) dX0_passMinute_29 hR.rm (by decide) ok_X0_leaveScent mv_X0_leaveScent ml_RX0_73 (by assumption) rfl rfl rfl (c_leaveScent (cr := crd T C) (C := C) (by exact ⟨aC0, aC1, aC2, aC3, aC4, aC5, aC6, aC7⟩) (by exact ⟨aT0, aT1, aT2, aT3, aT4, aT5, aT6, aT7⟩) hd rT3 hwT hwC (fun k a b => by rw [b1 _ (by omega), f2 _ (by omega) (by omega)]; exact cs k a b) (fun k a b => by rw [b1 _ (by omega), f2 _ (by omega) (by omega)]; exact (cf k a b).2.1) (fun k a b => by rw [b1 _ (by omega)]; exact ⟨(hcr k a b).1, (hcr k a b).2.1, (hcr k a b).2.2.1⟩)) (fun M29 k29 q29 => ?_)
      obtain ⟨q29a, q29b⟩ := q29
      exact j32 M29 k29 (fun y y1 y2 => by rw [q29a y y2]; exact b1 y y1) (fun k hk => by rw [q29a c (by omega)]; exact b2 k hk) (by rw [q29a c (by omega)]; exact b3) q29b
  refine A_istore_n dX0_passMinute_5 (by decide) rfl ?_
  refine A_aload_n dX0_passMinute_6 rfl ?_
  refine A_getI (ki := 0) dX0_passMinute_7 fl_RX0_39 (by assumption) (by rfl) rfl ?_
  rw [f2 c (by omega) (by omega), c0]
  refine A_if_le (tgt := 23) dX0_passMinute_10 (by decide) (fun h10 => ?_) (fun h10 => ?_)
  · skip
    exact j23 M2 k2 (fun y hy => rfl) (fun k hk => rfl) (by rw [f2 c (by omega) (by omega), c0]; show _ = (if 0 < csW C then csW C - 1 else csW C); rw [if_neg (by omega)])
  · skip
    refine A_aload_n dX0_passMinute_13 rfl ?_
    refine A_dup dX0_passMinute_14 rfl ?_
    refine A_getI (ki := 0) dX0_passMinute_15 fl_RX0_39 (by assumption) (by rfl) rfl ?_
    rw [f2 c (by omega) (by omega), c0]
    refine A_iconst dX0_passMinute_18 (by decide) ?_
    refine A_isub dX0_passMinute_19 ⟨by omega, by omega⟩ ?_
    refine A_putI (ki := 0) dX0_passMinute_20 fl_RX0_39 fi0_0 (by assumption) (by rfl) rfl (fun M20 e20 k20 => ?_)
    exact j23 M20 k20 (fun y hy => by rw [e20, upm_c hy]) (fun k hk => by rw [e20, upm_k hk]) (by rw [e20, upm_s]; show _ = (if 0 < csW C then csW C - 1 else csW C); rw [if_pos (by omega)])

set_option maxRecDepth 100000 in
set_option maxHeartbeats 4000000 in
theorem c_run {E : EN} {l : Launch} {M : Mem} {c t : Nat} {T : TD} {C : CS}{n : Nat}(hC : isCrs E c) (hT : isTold E t) (hd : t + 8 ≤ c ∨ c + 8 ≤ t) (hrT : rT M t T) (hrC : rC M c T C) (hwT : wT T) (hwC : wC T C)(hG : csG C < 100000) (hn : n ≤ 1000) : Cn E l mX0_run 4 [vR c, vR t, vI n] M (fun r M1 => r = vU ∧ (fr M M1 c 8 ∧ rC M1 c T (itC T C n))) := by
  refine Cn.of (by decide) rfl (Nat.le_of_ble_eq_true rfl) 1 rfl (fun oka okm G hR => ?_)
  obtain ⟨aC0, aC1, aC2, aC3, aC4, aC5, aC6, aC7⟩ := id hC
  obtain ⟨aT0, aT1, aT2, aT3, aT4, aT5, aT6, aT7⟩ := id hT
  obtain ⟨⟨t0, t1, t2, t3, t4⟩, tk, tt, tf⟩ := id hrT
  obtain ⟨⟨c0, c1, c2, c3⟩, cs, cf⟩ := id hrC
  obtain ⟨wt0, wtk, wtt, wtf⟩ := id hwT
  obtain ⟨wc0, wcs, wcf⟩ := id hwC
  refine A_iconst dX0_run_0 (by decide) ?_
  refine A_istore_n dX0_run_1 (by decide) rfl ?_
  have lp : ∀ (k : Nat) (i : Nat) (M1 : Mem), n - i = k → (i ≤ n) → (fr M M1 c 8) → (rC M1 c T (itC T C i)) → AW E mX0_run G 0 0 2 [vR c, vR t, vI n, vI i] [] M1 := by
    intro k
    induction k using Nat.strongRecOn with
    | ind k ih =>
      intro i M1 hk h0 hf hc
      refine A_iload_n dX0_run_2 rfl ?_
      refine A_iload_n dX0_run_3 rfl ?_
      refine A_icmp_ge (tgt := 19) dX0_run_4 (by decide) (fun h4 => ?_) (fun h4 => ?_)
      · skip
        have hi : i = n := by omega
        subst hi
        exact A_vret hR dX0_run_19 rfl ⟨rfl, hf, hc⟩
      · skip
        refine A_aload_n dX0_run_7 rfl ?_
        refine A_aload_n dX0_run_8 rfl ?_
        refine A_vI1 (mj := mX0_passMinute) dX0_run_9 hR.rm (by decide) ok_X0_passMinute mv_X0_passMinute ml_RX0_66 (by assumption) rfl rfl rfl (c_passMinute (by exact ⟨aC0, aC1, aC2, aC3, aC4, aC5, aC6, aC7⟩) (by exact ⟨aT0, aT1, aT2, aT3, aT4, aT5, aT6, aT7⟩) hd (rT_fr hrT hf hd) hc hwT (itC_w hwT hwC i).1 (by have := (itC_w hwT hwC i).2; omega)) (fun z9 M9 g9 k9 q9 => ?_)
        obtain ⟨q9a, q9b, -⟩ := q9
        refine A_pop dX0_run_12 rfl ?_
        refine A_iinc dX0_run_13 (by decide) rfl rfl ⟨by omega, by omega⟩ ?_
        refine A_goto (tgt := 2) dX0_run_16 (by decide) ?_
        refine ih _ ?_ (i + 1) M9 rfl (by omega) (fr_t hf q9a) q9b
        omega
  exact lp _ 0 M rfl (by omega) fr_r hrC

