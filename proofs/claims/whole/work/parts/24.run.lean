/-! COURSE: minutes -/
theorem scN_none {C : CS} {cr : Fn} {j : Int} : ∀ n : Nat, (∀ k : Int, 0 ≤ k → k < n → cr k = -1) → 0 ≤ j → scN C cr j n = csS C j
  | 0, _, _ => rfl
  | n + 1, h, hj => by
    rw [scN, if_neg (by have := h n (by omega) (by omega); omega)]
    exact scN_none n (fun k a b => h k a (by omega)) hj
def itC (T : TD) (C : CS) : Nat → CS
  | 0 => C
  | n + 1 => mnC T (itC T C n)
theorem itC_w {T : TD} {C : CS} (hT : wT T) (hC : wC T C) : ∀ n : Nat, wC T (itC T C n) ∧ csG (itC T C n) = csG C + n
  | 0 => ⟨hC, by simp [itC]⟩
  | n + 1 => by
    obtain ⟨h1, h2⟩ := itC_w hT hC n
    refine ⟨mnC_w hT h1, ?_⟩
    show csG (itC T C n) + 1 = _
    omega
theorem itC_s (T : TD) (C : CS) : ∀ n : Nat, itC T (mnC T C) n = itC T C (n + 1)
  | 0 => rfl
  | n + 1 => by rw [itC, itC_s T C n]; rfl
theorem itC_a (T : TD) (C : CS) (m : Nat) : ∀ n : Nat, itC T (itC T C m) n = itC T C (m + n)
  | 0 => rfl
  | n + 1 => by rw [itC, itC_a T C m n]; rfl
theorem crd_u {T : TD} {C : CS} {f : Int} (h0 : 0 ≤ f) (h : crd T C f ≠ -1) : csF C f = -1 ∧ 0 < csSw C f ∧ csW C ≤ 0 := by
  unfold crd at h
  split at h
  · exact absurd rfl h
  · rename_i q
    have e : swN C (csA C f) (oF T) = f := by omega
    have p := swN_p C (csA C f) (oF T)
    rw [e] at p
    exact ⟨(p (by omega)).2.1, (p (by omega)).2.2, by omega⟩
/-- one that is filed stays so -/
theorem mn_stable {T : TD} {C : CS} {f : Int} (h0 : 0 ≤ f) (h : csF C f ≠ -1) : csF (mnC T C) f = csF C f ∧ crd T C f = -1 := by
  have e : crd T C f = -1 := by
    by_cases q : crd T C f = -1
    · exact q
    · exact absurd (crd_u h0 q).1 h
  refine ⟨?_, e⟩
  show csF (mnB T C (crd T C)) f = _
  rw [mnB_F, if_neg (fun z => z.1 e)]
theorem it_stable {T : TD} {C : CS} {f : Int} (h0 : 0 ≤ f) (h : csF C f ≠ -1) : ∀ n : Nat, csF (itC T C n) f = csF C f
  | 0 => rfl
  | n + 1 => by
    have ih := it_stable (T := T) h0 h n
    show csF (mnC T (itC T C n)) f = _
    rw [(mn_stable h0 (by rw [ih]; exact h)).1, ih]
theorem it_later {T : TD} {C : CS} {f : Int} (h0 : 0 ≤ f) {m n : Nat} (hmn : m ≤ n) (h : csF (itC T C m) f ≠ -1) : csF (itC T C n) f = csF (itC T C m) f := by
  have := it_stable (T := T) h0 h (n - m)
  rw [itC_a, show m + (n - m) = n by omega] at this
  exact this
theorem sw_ext {C C' : CS} {d : Int} : ∀ n : Nat, (∀ k : Int, 0 ≤ k → k < n → csA C' k = csA C k ∧ csF C' k = csF C k ∧ csSw C' k = csSw C k) → swN C' d n = swN C d n
  | 0, _ => rfl
  | n + 1, h => by
    have ih := sw_ext (d := d) n (fun k a b => h k a (by omega))
    have q := h n (by omega) (by omega)
    have r := swN_r C d n
    unfold swN
    rw [ih, q.1, q.2.1, q.2.2]
    by_cases e : swN C d n = -1
    · simp [e]
    · rw [(h (swN C d n) (by omega) (by omega)).2.2]
theorem wy_none {T : TD} {C : CS} {d but : Int} : ∀ n : Nat, wyN T C d but n = -1 ↔ ∀ k : Int, 0 ≤ k → k < n → ¬ (onT T k d ∧ k ≠ but)
  | 0 => ⟨fun _ k a b => by omega, fun _ => rfl⟩
  | n + 1 => by
    have ih := wy_none (T := T) (C := C) (d := d) (but := but) n
    have r := wyN_r T C d but n
    constructor
    · intro h k a b
      unfold wyN at h
      split at h
      · omega
      · rename_i q
        by_cases hk : k = n
        · subst hk
          exact fun z => q ⟨z.1, z.2, Or.inl h⟩
        · exact (ih.mp h) k a (by omega)
    · intro h
      have h1 := ih.mpr (fun k a b => h k a (by omega))
      unfold wyN
      rw [if_neg (fun q => h n (by omega) (by omega) ⟨q.1, q.2.1⟩)]
      exact h1
/-- nothing moves, and it is no winter: nothing ever will -/
def frz (T : TD) (C : CS) : Prop := csW C ≤ 0 ∧ ∀ k : Int, 0 ≤ k → k < oF T → crd T C k = -1
theorem frz_s {T : TD} {C : CS} (h : frz T C) : frz T (mnC T C) ∧ ∀ k : Int, 0 ≤ k → k < oF T → csF (mnC T C) k = csF C k := by
  obtain ⟨h1, h2⟩ := h
  have e : ∀ k : Int, 0 ≤ k → k < oF T → csA (mnC T C) k = csA C k ∧ csF (mnC T C) k = csF C k ∧ csSw (mnC T C) k = csSw C k ∧ csC (mnC T C) k = csC C k := fun k a b => by
    show csA (mnB T C (crd T C)) k = _ ∧ csF (mnB T C (crd T C)) k = _ ∧ csSw (mnB T C (crd T C)) k = _ ∧ csC (mnB T C (crd T C)) k = _
    rw [mnB_A, mnB_F, mnB_Sw, mnB_C, if_pos (h2 k a b), if_pos (h2 k a b), if_pos (h2 k a b), if_neg (fun z => z.1 (h2 k a b))]
    exact ⟨rfl, rfl, rfl, rfl⟩
  have w : csW (mnC T C) = csW C := by
    show (if 0 < csW C then csW C - 1 else csW C) = _
    rw [if_neg (by omega)]
  refine ⟨⟨by rw [w]; exact h1, fun k a b => ?_⟩, fun k a b => (e k a b).2.1⟩
  have q := h2 k a b
  unfold crd at q ⊢
  rw [w, (e k a b).1, (e k a b).2.2.2, show csQ (mnC T C) = csQ C from rfl, sw_ext (oF T) (fun k a b => ⟨(e k a b).1, (e k a b).2.1, (e k a b).2.2.1⟩)]
  split at q
  · rename_i z; rw [if_pos z]
  · rename_i z
    rw [if_neg z]
    unfold way at q ⊢
    by_cases y : wyN T C (csA C k) (csC C k) (oT T) = -1
    · rw [if_pos y] at q
      rw [if_pos ((wy_none _).mpr ((wy_none _).mp y))]
      exact q
    · rw [if_neg y] at q
      exact absurd q y
theorem frz_it {T : TD} {C : CS} (h : frz T C) : ∀ n : Nat, frz T (itC T C n) ∧ ∀ k : Int, 0 ≤ k → k < oF T → csF (itC T C n) k = csF C k
  | 0 => ⟨h, fun _ _ _ => rfl⟩
  | n + 1 => by
    obtain ⟨h1, h2⟩ := frz_it h n
    obtain ⟨h3, h4⟩ := frz_s h1
    exact ⟨h3, fun k a b => (h4 k a b).trans (h2 k a b)⟩

set_option maxRecDepth 100000 in
set_option maxHeartbeats 4000000 in
theorem c_passMinute {E : EN} {l : Launch} {M : Mem} {c t : Nat} {T : TD} {C : CS}(hC : isCrs E c) (hT : isTold E t) (hd : t + 8 ≤ c ∨ c + 8 ≤ t) (hrT : rT M t T) (hrC : rC M c T C) (hwT : wT T) (hwC : wC T C)(hG : csG C < 1000000) : Cn E l mX0_passMinute 3 [vR c, vR t] M (fun r M1 => ∃ z, r = vI z ∧ (fr M M1 c 8 ∧ rC M1 c T (mnC T C) ∧ (z = 0 ∨ z = 1) ∧ (z = 1 → carr T C) ∧ (z = 0 → ∀ k : Int, 0 ≤ k → k < oF T → crd T C k = -1))) := by
  refine Cn.of (by decide) rfl (Nat.le_of_ble_eq_true rfl) 1 rfl (fun oka okm G hR => ?_)
  obtain ⟨aC0, aC1, aC2, aC3, aC4, aC5, aC6, aC7⟩ := id hC
  obtain ⟨aT0, aT1, aT2, aT3, aT4, aT5, aT6, aT7⟩ := id hT
  obtain ⟨⟨t0, t1, t2, t3, t4⟩, tk, tt, tf⟩ := id hrT
  obtain ⟨⟨c0, c1, c2, c3⟩, cs, cf⟩ := id hrC
  obtain ⟨wt0, wtk, wtt, wtf⟩ := id hwT
  obtain ⟨wc0, wcs, wcf⟩ := id hwC
  refine A_aload_n dX0_passMinute_0 rfl ?_
  refine A_aload_n dX0_passMinute_1 rfl ?_
  refine A_vI1 (mj := mX0_choose) dX0_passMinute_2 hR.rm (by decide) ok_X0_choose mv_X0_choose ml_RX0_70 (by assumption) rfl rfl rfl (c_choose (by exact ⟨aC0, aC1, aC2, aC3, aC4, aC5, aC6, aC7⟩) (by exact ⟨aT0, aT1, aT2, aT3, aT4, aT5, aT6, aT7⟩) hd hrT hrC hwT hwC) (fun z2 M2 g2 k2 q2 => ?_)
  obtain ⟨f2, q6, z0, z1, z2n⟩ := q2
  have hcr : ∀ k : Int, 0 ≤ k → k < oF T → M2 (c + 6) k = crd T C k ∧ -1 ≤ crd T C k ∧ crd T C k < oT T ∧ (crd T C k ≠ -1 → onT T (crd T C k) (csA C k) ∧ csF C k = -1) := fun k a b => ⟨q6 k a b, (crd_p hwC a b).1, (crd_p hwC a b).2.1, fun h => ⟨(crd_p hwC a b).2.2 h, (crd_u a h).1⟩⟩
  have j46 : ∀ M6 : Mem, okM M6 → fr M M6 c 8 → M6 c 0 = csW (mnC T C) → M6 c 1 = csG C → M6 c 2 = csQ C → M6 c 3 = fsN (csF (mnC T C)) (oF T) → (∀ k : Int, 0 ≤ k → k < oT T → M6 (c + 1) k = csS (mnC T C) k) → (∀ k : Int, 0 ≤ k → k < oF T → M6 (c + 2) k = csA (mnC T C) k ∧ M6 (c + 3) k = csSw (mnC T C) k ∧ M6 (c + 4) k = csC (mnC T C) k ∧ M6 (c + 5) k = csF (mnC T C) k) → AW E mX0_passMinute G 0 0 46 [vR c, vR t, vI z2] [] M6 := by
    intro M6 k6 a1 a2 a3 a4 a5 a6 a7
    refine A_aload_n dX0_passMinute_46 rfl ?_
    refine A_dup dX0_passMinute_47 rfl ?_
    refine A_getI (ki := 1) dX0_passMinute_48 fl_RX0_40 (by assumption) (by rfl) rfl ?_
    rw [a3]
    refine A_iconst dX0_passMinute_51 (by decide) ?_
    refine A_iadd dX0_passMinute_52 ⟨by omega, by omega⟩ ?_
    refine A_putI (ki := 1) dX0_passMinute_53 fl_RX0_40 fi0_1 (by assumption) (by rfl) rfl (fun M53 e53 k53 => ?_)
    refine A_iload_n dX0_passMinute_56 rfl ?_
    exact A_zret hR dX0_passMinute_57 rfl (by first | exact Or.inl rfl | exact Or.inr rfl | omega) ⟨_, rfl, fun y hy => by rw [e53, upm_c (by omega)]; exact a1 y hy, ⟨⟨by rw [e53, upm_k (by omega)]; exact a2, by rw [e53, upm_s]; rfl, by rw [e53, upm_k (by omega)]; exact a4, by rw [e53, upm_k (by omega)]; exact a5⟩, fun k a b => by rw [e53, upm_c (by omega)]; exact a6 k a b, fun k a b => by rw [e53, upm_c (by omega), upm_c (by omega), upm_c (by omega), upm_c (by omega)]; exact a7 k a b⟩, z0, z1, z2n⟩
  have j32 : ∀ M4 : Mem, okM M4 → (∀ y, y ≠ c → y ≠ c + 1 → M4 y = M2 y) → (∀ k : Int, k ≠ 0 → M4 c k = M2 c k) → M4 c 0 = csW (mnC T C) → (∀ j : Int, 0 ≤ j → j < oT T → M4 (c + 1) j = scN C (crd T C) j (oF T)) → AW E mX0_passMinute G 0 0 32 [vR c, vR t, vI z2] [] M4 := by
    intro M4 k4 b1 b2 b3 b4
    have b1' : ∀ y, (y < c ∨ c + 8 ≤ y) → M4 y = M y := fun y hy => by rw [b1 y (by omega) (by omega), f2 y (by omega) (by omega)]
    have rT4 : rT M4 t T := rT_fr hrT (c := c) (n := 8) b1' hd
    refine A_aload_n dX0_passMinute_32 rfl ?_
    refine A_aload_n dX0_passMinute_33 rfl ?_
    refine A_vV1 (mj := mX0_fadeScents) dX0_passMinute_34 hR.rm (by decide) ok_X0_fadeScents mv_X0_fadeScents ml_RX0_77 (by assumption) rfl rfl rfl (c_fadeScents (C := C) (S := fun j => scN C (crd T C) j (oF T)) (by exact ⟨aC0, aC1, aC2, aC3, aC4, aC5, aC6, aC7⟩) (by exact ⟨aT0, aT1, aT2, aT3, aT4, aT5, aT6, aT7⟩) hd rT4 hwT (fun k a b => ⟨b4 k a b, scN_r (wcs k a b).1 (wcs k a b).2 (oF T) (fun f x y => ⟨(wcf f x y).2.2.1, (wcf f x y).2.2.2.1⟩)⟩)) (fun M34 k34 q34 => ?_)
    obtain ⟨q34a, q34b⟩ := q34
    have f34 : ∀ y, (y < c ∨ c + 8 ≤ y) → M34 y = M y := fun y hy => by rw [q34a y (by omega)]; exact b1' y hy
    have c34 : ∀ k : Int, k ≠ 0 → M34 c k = M c k := fun k hk => by rw [q34a c (by omega), b2 k hk, f2 c (by omega) (by omega)]
    have d34 : ∀ y, y = c + 2 ∨ y = c + 3 ∨ y = c + 4 ∨ y = c + 5 → M34 y = M y := fun y hy => by rw [q34a y (by omega), b1 y (by omega) (by omega), f2 y (by omega) (by omega)]
    refine A_iload_n dX0_passMinute_37 rfl ?_
    refine A_if_eq (tgt := 46) dX0_passMinute_38 (by decide) (fun h38 => ?_) (fun h38 => ?_)
    · skip
      have none := z2n h38
      have eA : ∀ k : Int, 0 ≤ k → k < oF T → csA (mnC T C) k = csA C k ∧ csSw (mnC T C) k = csSw C k ∧ csC (mnC T C) k = csC C k ∧ csF (mnC T C) k = csF C k := fun k a b => by
        show csA (mnB T C (crd T C)) k = _ ∧ csSw (mnB T C (crd T C)) k = _ ∧ csC (mnB T C (crd T C)) k = _ ∧ csF (mnB T C (crd T C)) k = _
        rw [mnB_A, mnB_F, mnB_Sw, mnB_C, if_pos (none k a b), if_pos (none k a b), if_pos (none k a b), if_neg (fun z => z.1 (none k a b))]
        exact ⟨rfl, rfl, rfl, rfl⟩
      exact j46 M34 k34 f34 (by rw [q34a c (by omega)]; exact b3) (by rw [c34 1 (by omega)]; exact c1) (by rw [c34 2 (by omega)]; exact c2) (by rw [c34 3 (by omega), c3]; congr 1; exact fsN_ext _ (fun k hk => by rw [(eA k (by omega) (by omega)).2.2.2])) q34b (fun k a b => by rw [d34 _ (by omega), d34 _ (by omega), d34 _ (by omega), d34 _ (by omega), (eA k a b).1, (eA k a b).2.1, (eA k a b).2.2.1, (eA k a b).2.2.2]; exact cf k a b)
    · skip
      refine A_aload_n dX0_passMinute_41 rfl ?_
      refine A_aload_n dX0_passMinute_42 rfl ?_
      refine A_vV1 (mj := mX0_arrive) dX0_passMinute_43 hR.rm (by decide) ok_X0_arrive mv_X0_arrive ml_RX0_80 (by assumption) rfl rfl rfl (c_arrive (cr := crd T C) (C := C) (by exact ⟨aC0, aC1, aC2, aC3, aC4, aC5, aC6, aC7⟩) (by exact ⟨aT0, aT1, aT2, aT3, aT4, aT5, aT6, aT7⟩) hd (rT_fr hrT (c := c) (n := 8) f34 hd) hwT hwC (by rw [c34 1 (by omega)]; exact c1) (by rw [c34 3 (by omega)]; exact c3) (fun k a b => by rw [d34 _ (by omega), d34 _ (by omega), d34 _ (by omega), d34 _ (by omega)]; exact cf k a b) (fun k a b => by rw [q34a _ (by omega), b1 _ (by omega) (by omega)]; exact hcr k a b)) (fun M43 k43 q43 => ?_)
      obtain ⟨q43a, q43b, q43c, q43d⟩ := q43
      exact j46 M43 k43 (fun y hy => by rw [q43a y (by unfold mvd; omega)]; exact f34 y hy) (by rw [q43b 0 (by omega), q34a c (by omega)]; exact b3) (by rw [q43b 1 (by omega), c34 1 (by omega)]; exact c1) (by rw [q43b 2 (by omega), c34 2 (by omega)]; exact c2) q43c (fun k a b => by rw [q43a _ (by unfold mvd; omega)]; exact q34b k a b) q43d
  have j23 : ∀ M3 : Mem, okM M3 → (∀ y, y ≠ c → M3 y = M2 y) → (∀ k : Int, k ≠ 0 → M3 c k = M2 c k) → M3 c 0 = csW (mnC T C) → AW E mX0_passMinute G 0 0 23 [vR c, vR t, vI z2] [] M3 := by
    intro M3 k3 b1 b2 b3
    have rT3 : rT M3 t T := rT_fr hrT (c := c) (n := 8) (fun y hy => by rw [b1 y (by omega), f2 y (by omega) (by omega)]) hd
    refine A_iload_n dX0_passMinute_23 rfl ?_
    refine A_if_eq (tgt := 32) dX0_passMinute_24 (by decide) (fun h24 => ?_) (fun h24 => ?_)
    · skip
      exact j32 M3 k3 (fun y y1 y2 => b1 y y1) b2 b3 (fun j a b => by rw [b1 _ (by omega), f2 _ (by omega) (by omega), scN_none _ (z2n h24) a]; exact cs j a b)
    · skip
      refine A_aload_n dX0_passMinute_27 rfl ?_
      refine A_aload_n dX0_passMinute_28 rfl ?_
      refine A_vV1 (mj := mX0_leaveScent) dX0_passMinute_29 hR.rm (by decide) ok_X0_leaveScent mv_X0_leaveScent ml_RX0_73 (by assumption) rfl rfl rfl (c_leaveScent (cr := crd T C) (C := C) (by exact ⟨aC0, aC1, aC2, aC3, aC4, aC5, aC6, aC7⟩) (by exact ⟨aT0, aT1, aT2, aT3, aT4, aT5, aT6, aT7⟩) hd rT3 hwT hwC (fun k a b => by rw [b1 _ (by omega), f2 _ (by omega) (by omega)]; exact cs k a b) (fun k a b => by rw [b1 _ (by omega), f2 _ (by omega) (by omega)]; exact (cf k a b).2.1) (fun k a b => by rw [b1 _ (by omega)]; exact ⟨(hcr k a b).1, (hcr k a b).2.1, (hcr k a b).2.2.1⟩)) (fun M29 k29 q29 => ?_)
      obtain ⟨q29a, q29b⟩ := q29
      exact j32 M29 k29 (fun y y1 y2 => by rw [q29a y y2]; exact b1 y y1) (fun k hk => by rw [q29a c (by omega)]; exact b2 k hk) (by rw [q29a c (by omega)]; exact b3) q29b
  refine A_istore_n dX0_passMinute_5 (by decide) rfl ?_
  refine A_aload_n dX0_passMinute_6 rfl ?_
  refine A_getI (ki := 0) dX0_passMinute_7 fl_RX0_39 (by assumption) (by rfl) rfl ?_
  rw [f2 c (by omega) (by omega), c0]
  refine A_if_le (tgt := 23) dX0_passMinute_10 (by decide) (fun h10 => ?_) (fun h10 => ?_)
  · skip
    exact j23 M2 k2 (fun y hy => rfl) (fun k hk => rfl) (by rw [f2 c (by omega) (by omega), c0]; show _ = (if 0 < csW C then csW C - 1 else csW C); rw [if_neg (by omega)])
  · skip
    refine A_aload_n dX0_passMinute_13 rfl ?_
    refine A_dup dX0_passMinute_14 rfl ?_
    refine A_getI (ki := 0) dX0_passMinute_15 fl_RX0_39 (by assumption) (by rfl) rfl ?_
    rw [f2 c (by omega) (by omega), c0]
    refine A_iconst dX0_passMinute_18 (by decide) ?_
    refine A_isub dX0_passMinute_19 ⟨by omega, by omega⟩ ?_
    refine A_putI (ki := 0) dX0_passMinute_20 fl_RX0_39 fi0_0 (by assumption) (by rfl) rfl (fun M20 e20 k20 => ?_)
    exact j23 M20 k20 (fun y hy => by rw [e20, upm_c hy]) (fun k hk => by rw [e20, upm_k hk]) (by rw [e20, upm_s]; show _ = (if 0 < csW C then csW C - 1 else csW C); rw [if_pos (by omega)])

set_option maxRecDepth 100000 in
set_option maxHeartbeats 4000000 in
theorem c_run {E : EN} {l : Launch} {M : Mem} {c t : Nat} {T : TD} {C : CS}{n : Nat}(hC : isCrs E c) (hT : isTold E t) (hd : t + 8 ≤ c ∨ c + 8 ≤ t) (hrT : rT M t T) (hrC : rC M c T C) (hwT : wT T) (hwC : wC T C)(hG : csG C < 100000) (hn : n ≤ 1000) : Cn E l mX0_run 4 [vR c, vR t, vI n] M (fun r M1 => r = vU ∧ (fr M M1 c 8 ∧ rC M1 c T (itC T C n))) := by
  refine Cn.of (by decide) rfl (Nat.le_of_ble_eq_true rfl) 1 rfl (fun oka okm G hR => ?_)
  obtain ⟨aC0, aC1, aC2, aC3, aC4, aC5, aC6, aC7⟩ := id hC
  obtain ⟨aT0, aT1, aT2, aT3, aT4, aT5, aT6, aT7⟩ := id hT
  obtain ⟨⟨t0, t1, t2, t3, t4⟩, tk, tt, tf⟩ := id hrT
  obtain ⟨⟨c0, c1, c2, c3⟩, cs, cf⟩ := id hrC
  obtain ⟨wt0, wtk, wtt, wtf⟩ := id hwT
  obtain ⟨wc0, wcs, wcf⟩ := id hwC
  refine A_iconst dX0_run_0 (by decide) ?_
  refine A_istore_n dX0_run_1 (by decide) rfl ?_
  have lp : ∀ (k : Nat) (i : Nat) (M1 : Mem), n - i = k → (i ≤ n) → (fr M M1 c 8) → (rC M1 c T (itC T C i)) → AW E mX0_run G 0 0 2 [vR c, vR t, vI n, vI i] [] M1 := by
    intro k
    induction k using Nat.strongRecOn with
    | ind k ih =>
      intro i M1 hk h0 hf hc
      refine A_iload_n dX0_run_2 rfl ?_
      refine A_iload_n dX0_run_3 rfl ?_
      refine A_icmp_ge (tgt := 19) dX0_run_4 (by decide) (fun h4 => ?_) (fun h4 => ?_)
      · skip
        have hi : i = n := by omega
        subst hi
        exact A_vret hR dX0_run_19 rfl ⟨rfl, hf, hc⟩
      · skip
        refine A_aload_n dX0_run_7 rfl ?_
        refine A_aload_n dX0_run_8 rfl ?_
        refine A_vI1 (mj := mX0_passMinute) dX0_run_9 hR.rm (by decide) ok_X0_passMinute mv_X0_passMinute ml_RX0_66 (by assumption) rfl rfl rfl (c_passMinute (by exact ⟨aC0, aC1, aC2, aC3, aC4, aC5, aC6, aC7⟩) (by exact ⟨aT0, aT1, aT2, aT3, aT4, aT5, aT6, aT7⟩) hd (rT_fr hrT hf hd) hc hwT (itC_w hwT hwC i).1 (by have := (itC_w hwT hwC i).2; omega)) (fun z9 M9 g9 k9 q9 => ?_)
        obtain ⟨q9a, q9b, -⟩ := q9
        refine A_pop dX0_run_12 rfl ?_
        refine A_iinc dX0_run_13 (by decide) rfl rfl ⟨by omega, by omega⟩ ?_
        refine A_goto (tgt := 2) dX0_run_16 (by decide) ?_
        refine ih _ ?_ (i + 1) M9 rfl (by omega) (fr_t hf q9a) q9b
        omega
  exact lp _ 0 M rfl (by omega) fr_r hrC

/-- all of a set are filed -/
def rdy (T : TD) (s : Nat) (C : CS) : Prop := ∀ f : Nat, f < oF T → s.testBit f = true → csF C f ≠ -1
theorem and_rdy {T : TD} {s : Nat} {C : CS} (hs : s < 2 ^ oF T) : (((fsN (csF C) (oF T) &&& s : Nat) : Int) = (s : Int)) ↔ rdy T s C := by
  rw [Int.ofNat_inj]
  constructor
  · intro h f hf hb
    have := congrArg (fun x => x.testBit f) h
    simp only [Nat.testBit_and, (fsN_bit (csF C) (oF T)).2, hb, Bool.and_true] at this
    exact (of_decide_eq_true this).2
  · intro h
    apply Nat.eq_of_testBit_eq
    intro f
    rw [Nat.testBit_and, (fsN_bit (csF C) (oF T)).2]
    by_cases hb : s.testBit f = true
    · have hf : f < oF T := by
        rcases Nat.lt_or_ge f (oF T) with q | q
        · exact q
        · rw [Nat.testBit_lt_two_pow (Nat.lt_of_lt_of_le hs (p2_le q))] at hb
          cases hb
      rw [hb, Bool.and_true]
      exact decide_eq_true ⟨hf, h f hf hb⟩
    · simp only [Bool.not_eq_true] at hb
      rw [hb, Bool.and_false]
/-- a set's run has ended as n minutes would end it -/
def untl (M1 : Mem) (c : Nat) (T : TD) (C : CS) (s n : Nat) (z : Int) : Prop := ∃ j : Nat, j ≤ n ∧ rC M1 c T (itC T C j) ∧ (∀ f : Nat, f < oF T → s.testBit f = true → csF (itC T C j) f = csF (itC T C n) f) ∧ (z = 1 ↔ rdy T s (itC T C n))
theorem rng_and {a b n : Nat} (h : a < 2 ^ n) (hn : n ≤ 6) : rng ((a &&& b : Nat) : Int) := by
  have h1 : a &&& b ≤ a := Nat.and_le_left
  have h2 : 2 ^ n ≤ 2 ^ 6 := p2_le hn
  have h3 : a &&& b < 64 := by omega
  exact ⟨Int.le_trans (by decide) (Int.natCast_nonneg _), Int.le_trans (Int.ofNat_le.mpr (Nat.le_of_lt h3)) (by decide)⟩
set_option maxRecDepth 100000 in
set_option maxHeartbeats 4000000 in
theorem c_runUntil {E : EN} {l : Launch} {M : Mem} {c t : Nat} {T : TD} {C : CS}{s n : Nat}(hC : isCrs E c) (hT : isTold E t) (hd : t + 8 ≤ c ∨ c + 8 ≤ t) (hrT : rT M t T) (hrC : rC M c T C) (hwT : wT T) (hwC : wC T C)(hG : csG C < 100000) (hn : n ≤ 1000) (hs : s < 2 ^ oF T) : Cn E l mX0_runUntilFiled 4 [vR c, vR t, vI s, vI n] M (fun r M1 => ∃ z, r = vI z ∧ (fr M M1 c 8 ∧ (z = 0 ∨ z = 1) ∧ untl M1 c T C s n z)) := by
  refine Cn.of (by decide) rfl (Nat.le_of_ble_eq_true rfl) 2 rfl (fun oka okm G hR => ?_)
  obtain ⟨aC0, aC1, aC2, aC3, aC4, aC5, aC6, aC7⟩ := id hC
  obtain ⟨aT0, aT1, aT2, aT3, aT4, aT5, aT6, aT7⟩ := id hT
  obtain ⟨⟨t0, t1, t2, t3, t4⟩, tk, tt, tf⟩ := id hrT
  obtain ⟨⟨c0, c1, c2, c3⟩, cs, cf⟩ := id hrC
  obtain ⟨wt0, wtk, wtt, wtf⟩ := id hwT
  obtain ⟨wc0, wcs, wcf⟩ := id hwC
  refine A_iconst dX0_runUntilFiled_0 (by decide) ?_
  refine A_istore dX0_runUntilFiled_1 (by decide) rfl ?_
  have lp : ∀ (k : Nat) (i : Nat) (M1 : Mem) (x5 : AV), n - i = k → (i ≤ n) → (fr M M1 c 8) → (rC M1 c T (itC T C i)) → AW E mX0_runUntilFiled G 0 0 3 [vR c, vR t, vI s, vI n, vI i, x5] [] M1 := by
    intro k
    induction k using Nat.strongRecOn with
    | ind k ih =>
      intro i M1 x5 hk h0 hf hc
      refine A_iload dX0_runUntilFiled_3 rfl ?_
      refine A_iload_n dX0_runUntilFiled_5 rfl ?_
      refine A_icmp_ge (tgt := 54) dX0_runUntilFiled_6 (by decide) (fun h6 => ?_) (fun h6 => ?_)
      · skip
        have hi : i = n := by omega
        have key : rdy T s (itC T C i) ↔ rdy T s (itC T C n) := by rw [hi]
        have keq : ∀ f : Nat, f < oF T → s.testBit f = true → csF (itC T C i) f = csF (itC T C n) f := fun f _ _ => by rw [hi]
        refine A_aload_n dX0_runUntilFiled_54 rfl ?_
        refine A_getI (ki := 3) dX0_runUntilFiled_55 fl_RX0_46 (by assumption) (by rfl) rfl ?_
        rw [hc.1.2.2.2]
        refine A_iload_n dX0_runUntilFiled_58 rfl ?_
        refine A_iand (z := ((fsN (csF (itC T C i)) (oF T) &&& s : Nat) : Int)) dX0_runUntilFiled_59 (b_and _ _) (rng_and (fsN_bit _ _).1 wt0.2.2.2.1) ?_
        refine A_iload_n dX0_runUntilFiled_60 rfl ?_
        refine A_icmp_ne (tgt := 68) dX0_runUntilFiled_61 (by decide) (fun h61 => ?_) (fun h61 => ?_)
        · skip
          refine A_iconst dX0_runUntilFiled_68 (by decide) ?_
          exact A_zret hR dX0_runUntilFiled_69 rfl (by first | exact Or.inl rfl | exact Or.inr rfl | omega) (by first | exact ⟨_, rfl, hf, Or.inr rfl, i, h0, hc, keq, ⟨fun _ => key.mp ((and_rdy hs).mp h61), fun _ => rfl⟩⟩ | exact ⟨_, rfl, hf, Or.inl rfl, i, h0, hc, keq, ⟨fun h => absurd h (by decide), fun h => absurd ((and_rdy hs).mpr (key.mpr h)) h61⟩⟩)
        · skip
          refine A_iconst dX0_runUntilFiled_64 (by decide) ?_
          refine A_goto (tgt := 69) dX0_runUntilFiled_65 (by decide) ?_
          exact A_zret hR dX0_runUntilFiled_69 rfl (by first | exact Or.inl rfl | exact Or.inr rfl | omega) (by first | exact ⟨_, rfl, hf, Or.inr rfl, i, h0, hc, keq, ⟨fun _ => key.mp ((and_rdy hs).mp h61), fun _ => rfl⟩⟩ | exact ⟨_, rfl, hf, Or.inl rfl, i, h0, hc, keq, ⟨fun h => absurd h (by decide), fun h => absurd ((and_rdy hs).mpr (key.mpr h)) h61⟩⟩)
      · skip
        skip
        refine A_aload_n dX0_runUntilFiled_9 rfl ?_
        refine A_getI (ki := 3) dX0_runUntilFiled_10 fl_RX0_46 (by assumption) (by rfl) rfl ?_
        rw [hc.1.2.2.2]
        refine A_iload_n dX0_runUntilFiled_13 rfl ?_
        refine A_iand (z := ((fsN (csF (itC T C i)) (oF T) &&& s : Nat) : Int)) dX0_runUntilFiled_14 (b_and _ _) (rng_and (fsN_bit _ _).1 wt0.2.2.2.1) ?_
        refine A_iload_n dX0_runUntilFiled_15 rfl ?_
        refine A_icmp_eq (tgt := 54) dX0_runUntilFiled_16 (by decide) (fun h16 => ?_) (fun h16 => ?_)
        · skip
          have r0 := (and_rdy hs).mp h16
          have keq : ∀ f : Nat, f < oF T → s.testBit f = true → csF (itC T C i) f = csF (itC T C n) f := fun f a b => (it_later (by omega) h0 (r0 f a b)).symm
          have key : rdy T s (itC T C i) ↔ rdy T s (itC T C n) := ⟨fun r f a b => by rw [← keq f a b]; exact r f a b, fun _ => r0⟩
          refine A_aload_n dX0_runUntilFiled_54 rfl ?_
          refine A_getI (ki := 3) dX0_runUntilFiled_55 fl_RX0_46 (by assumption) (by rfl) rfl ?_
          rw [hc.1.2.2.2]
          refine A_iload_n dX0_runUntilFiled_58 rfl ?_
          refine A_iand (z := ((fsN (csF (itC T C i)) (oF T) &&& s : Nat) : Int)) dX0_runUntilFiled_59 (b_and _ _) (rng_and (fsN_bit _ _).1 wt0.2.2.2.1) ?_
          refine A_iload_n dX0_runUntilFiled_60 rfl ?_
          refine A_icmp_ne (tgt := 68) dX0_runUntilFiled_61 (by decide) (fun h61 => ?_) (fun h61 => ?_)
          · skip
            refine A_iconst dX0_runUntilFiled_68 (by decide) ?_
            exact A_zret hR dX0_runUntilFiled_69 rfl (by first | exact Or.inl rfl | exact Or.inr rfl | omega) (by first | exact ⟨_, rfl, hf, Or.inr rfl, i, h0, hc, keq, ⟨fun _ => key.mp ((and_rdy hs).mp h61), fun _ => rfl⟩⟩ | exact ⟨_, rfl, hf, Or.inl rfl, i, h0, hc, keq, ⟨fun h => absurd h (by decide), fun h => absurd ((and_rdy hs).mpr (key.mpr h)) h61⟩⟩)
          · skip
            refine A_iconst dX0_runUntilFiled_64 (by decide) ?_
            refine A_goto (tgt := 69) dX0_runUntilFiled_65 (by decide) ?_
            exact A_zret hR dX0_runUntilFiled_69 rfl (by first | exact Or.inl rfl | exact Or.inr rfl | omega) (by first | exact ⟨_, rfl, hf, Or.inr rfl, i, h0, hc, keq, ⟨fun _ => key.mp ((and_rdy hs).mp h61), fun _ => rfl⟩⟩ | exact ⟨_, rfl, hf, Or.inl rfl, i, h0, hc, keq, ⟨fun h => absurd h (by decide), fun h => absurd ((and_rdy hs).mpr (key.mpr h)) h61⟩⟩)
        · skip
          refine A_aload_n dX0_runUntilFiled_19 rfl ?_
          refine A_getI (ki := 0) dX0_runUntilFiled_20 fl_RX0_39 (by assumption) (by rfl) rfl ?_
          rw [hc.1.1]
          refine A_if_le (tgt := 30) dX0_runUntilFiled_23 (by decide) (fun h23 => ?_) (fun h23 => ?_)
          · skip
            refine A_iconst dX0_runUntilFiled_30 (by decide) ?_
            refine A_istore dX0_runUntilFiled_31 (by decide) rfl ?_
            refine A_aload_n dX0_runUntilFiled_33 rfl ?_
            refine A_aload_n dX0_runUntilFiled_34 rfl ?_
            refine A_vI1 (mj := mX0_passMinute) dX0_runUntilFiled_35 hR.rm (by decide) ok_X0_passMinute mv_X0_passMinute ml_RX0_66 (by assumption) rfl rfl rfl (c_passMinute (by exact ⟨aC0, aC1, aC2, aC3, aC4, aC5, aC6, aC7⟩) (by exact ⟨aT0, aT1, aT2, aT3, aT4, aT5, aT6, aT7⟩) hd (rT_fr hrT hf hd) hc hwT (itC_w hwT hwC i).1 (by have := (itC_w hwT hwC i).2; omega)) (fun z35 M35 g35 k35 q35 => ?_)
            obtain ⟨q35a, q35b, z0, -, z2⟩ := q35
            refine A_if_ne (tgt := 48) dX0_runUntilFiled_38 (by decide) (fun h38 => ?_) (fun h38 => ?_)
            · skip
              refine A_iinc dX0_runUntilFiled_48 (by decide) rfl rfl ⟨by omega, by omega⟩ ?_
              refine A_goto (tgt := 3) dX0_runUntilFiled_51 (by decide) ?_
              refine ih _ ?_ (i + 1) M35 _ rfl (by omega) (fr_t hf q35a) q35b
              omega
            · skip
              refine A_iload dX0_runUntilFiled_41 rfl ?_
              refine A_if_ne (tgt := 48) dX0_runUntilFiled_43 (by decide) (fun h43 => ?_) (fun h43 => ?_)
              · skip
                refine A_iinc dX0_runUntilFiled_48 (by decide) rfl rfl ⟨by omega, by omega⟩ ?_
                refine A_goto (tgt := 3) dX0_runUntilFiled_51 (by decide) ?_
                refine ih _ ?_ (i + 1) M35 _ rfl (by omega) (fr_t hf q35a) q35b
                omega
              · skip
                have fz : frz T (itC T C i) := ⟨by omega, z2 h38⟩
                have fe : ∀ f : Nat, f < oF T → csF (itC T C n) f = csF (itC T C i) f := fun f a => by
                  have := (frz_it fz (n - i)).2 f (by omega) (by omega)
                  rw [itC_a, show i + (n - i) = n by omega] at this
                  exact this
                have fe1 : ∀ f : Nat, f < oF T → csF (itC T C (i + 1)) f = csF (itC T C i) f := fun f a => (frz_s fz).2 f (by omega) (by omega)
                refine A_iconst dX0_runUntilFiled_46 (by decide) ?_
                exact A_zret hR dX0_runUntilFiled_47 rfl (by first | exact Or.inl rfl | exact Or.inr rfl | omega) ⟨_, rfl, fr_t hf q35a, Or.inl rfl, i + 1, by omega, q35b, fun f a b => by rw [fe f a, fe1 f a], ⟨fun h => absurd h (by decide), fun h => absurd ((and_rdy hs).mpr (fun f a b => by rw [← fe f a]; exact h f a b)) h16⟩⟩
          · skip
            refine A_iconst dX0_runUntilFiled_26 (by decide) ?_
            refine A_goto (tgt := 31) dX0_runUntilFiled_27 (by decide) ?_
            refine A_istore dX0_runUntilFiled_31 (by decide) rfl ?_
            refine A_aload_n dX0_runUntilFiled_33 rfl ?_
            refine A_aload_n dX0_runUntilFiled_34 rfl ?_
            refine A_vI1 (mj := mX0_passMinute) dX0_runUntilFiled_35 hR.rm (by decide) ok_X0_passMinute mv_X0_passMinute ml_RX0_66 (by assumption) rfl rfl rfl (c_passMinute (by exact ⟨aC0, aC1, aC2, aC3, aC4, aC5, aC6, aC7⟩) (by exact ⟨aT0, aT1, aT2, aT3, aT4, aT5, aT6, aT7⟩) hd (rT_fr hrT hf hd) hc hwT (itC_w hwT hwC i).1 (by have := (itC_w hwT hwC i).2; omega)) (fun z35 M35 g35 k35 q35 => ?_)
            obtain ⟨q35a, q35b, z0, -, z2⟩ := q35
            refine A_if_ne (tgt := 48) dX0_runUntilFiled_38 (by decide) (fun h38 => ?_) (fun h38 => ?_)
            · skip
              refine A_iinc dX0_runUntilFiled_48 (by decide) rfl rfl ⟨by omega, by omega⟩ ?_
              refine A_goto (tgt := 3) dX0_runUntilFiled_51 (by decide) ?_
              refine ih _ ?_ (i + 1) M35 _ rfl (by omega) (fr_t hf q35a) q35b
              omega
            · skip
              refine A_iload dX0_runUntilFiled_41 rfl ?_
              refine A_if_ne (tgt := 48) dX0_runUntilFiled_43 (by decide) (fun h43 => ?_) (fun h43 => ?_)
              · skip
                refine A_iinc dX0_runUntilFiled_48 (by decide) rfl rfl ⟨by omega, by omega⟩ ?_
                refine A_goto (tgt := 3) dX0_runUntilFiled_51 (by decide) ?_
                refine ih _ ?_ (i + 1) M35 _ rfl (by omega) (fr_t hf q35a) q35b
                omega
              · skip
                have fz : frz T (itC T C i) := ⟨by omega, z2 h38⟩
                have fe : ∀ f : Nat, f < oF T → csF (itC T C n) f = csF (itC T C i) f := fun f a => by
                  have := (frz_it fz (n - i)).2 f (by omega) (by omega)
                  rw [itC_a, show i + (n - i) = n by omega] at this
                  exact this
                have fe1 : ∀ f : Nat, f < oF T → csF (itC T C (i + 1)) f = csF (itC T C i) f := fun f a => (frz_s fz).2 f (by omega) (by omega)
                refine A_iconst dX0_runUntilFiled_46 (by decide) ?_
                exact A_zret hR dX0_runUntilFiled_47 rfl (by first | exact Or.inl rfl | exact Or.inr rfl | omega) ⟨_, rfl, fr_t hf q35a, Or.inl rfl, i + 1, by omega, q35b, fun f a b => by rw [fe f a, fe1 f a], ⟨fun h => absurd h (by decide), fun h => absurd ((and_rdy hs).mpr (fun f a b => by rw [← fe f a]; exact h f a b)) h16⟩⟩
  exact lp _ 0 M vU rfl (by omega) fr_r hrC

/-- all of the place's rows are another one's -/
theorem rC_cp {M M1 : Mem} {c s : Nat} {T : TD} {C : CS} (h : rC M s T C) (h0 : ∀ k : Int, 0 ≤ k → k < 4 → M1 c k = M s k) (h1 : ∀ k : Int, 0 ≤ k → k < 12 → M1 (c + 1) k = M (s + 1) k) (h2 : ∀ y, y = 2 ∨ y = 3 ∨ y = 4 ∨ y = 5 → ∀ k : Int, 0 ≤ k → k < 6 → M1 (c + y) k = M (s + y) k) (hT : wT T) : rC M1 c T C := by
  obtain ⟨⟨a, b, d, e⟩, f, g⟩ := h
  have w := hT.1
  refine ⟨⟨by rw [h0 0 (by omega) (by omega)]; exact a, by rw [h0 1 (by omega) (by omega)]; exact b, by rw [h0 2 (by omega) (by omega)]; exact d, by rw [h0 3 (by omega) (by omega)]; exact e⟩, fun k x y => by rw [h1 k x (by omega)]; exact f k x y, fun k x y => ?_⟩
  rw [h2 2 (by omega) k x (by omega), h2 3 (by omega) k x (by omega), h2 4 (by omega) k x (by omega), h2 5 (by omega) k x (by omega)]
  exact g k x y
set_option maxRecDepth 100000 in
set_option maxHeartbeats 4000000 in
theorem c_takeC {E : EN} {l : Launch} {M : Mem} {c s : Nat} (hC : isCrs E c) (hS : isCrs E s) (hd : s + 8 ≤ c ∨ c + 8 ≤ s) : Cn E l mX0_takeFrom 1 [vR c, vR s] M (fun r M1 => r = vU ∧ (fr M M1 c 8 ∧ (∀ k : Int, 0 ≤ k → k < 4 → M1 c k = M s k) ∧ (∀ k : Int, 0 ≤ k → k < 12 → M1 (c + 1) k = M (s + 1) k) ∧ ∀ y, y = 2 ∨ y = 3 ∨ y = 4 ∨ y = 5 → ∀ k : Int, 0 ≤ k → k < 6 → M1 (c + y) k = M (s + y) k)) := by
  refine Cn.of (by decide) rfl (Nat.le_of_ble_eq_true rfl) 0 rfl (fun oka okm G hR => ?_)
  obtain ⟨aC0, aC1, aC2, aC3, aC4, aC5, aC6, aC7⟩ := id hC
  obtain ⟨aS0, aS1, aS2, aS3, aS4, aS5, aS6, aS7⟩ := id hS
  refine A_aload_n dX0_takeFrom_0 rfl ?_
  refine A_aload_n dX0_takeFrom_1 rfl ?_
  refine A_getI (ki := 0) dX0_takeFrom_2 fl_RX0_39 (by assumption) (by rfl) rfl ?_
  refine A_putI (ki := 0) dX0_takeFrom_5 fl_RX0_39 fi0_0 (by assumption) (by rfl) rfl (fun M5 e5 k5 => ?_)
  refine A_aload_n dX0_takeFrom_8 rfl ?_
  refine A_aload_n dX0_takeFrom_9 rfl ?_
  refine A_getI (ki := 1) dX0_takeFrom_10 fl_RX0_40 (by assumption) (by rfl) rfl ?_
  refine A_putI (ki := 1) dX0_takeFrom_13 fl_RX0_40 fi0_1 (by assumption) (by rfl) rfl (fun M13 e13 k13 => ?_)
  refine A_aload_n dX0_takeFrom_16 rfl ?_
  refine A_aload_n dX0_takeFrom_17 rfl ?_
  refine A_getI (ki := 2) dX0_takeFrom_18 fl_RX0_43 (by assumption) (by rfl) rfl ?_
  refine A_putI (ki := 2) dX0_takeFrom_21 fl_RX0_43 fi0_2 (by assumption) (by rfl) rfl (fun M21 e21 k21 => ?_)
  refine A_aload_n dX0_takeFrom_24 rfl ?_
  refine A_aload_n dX0_takeFrom_25 rfl ?_
  refine A_getI (ki := 3) dX0_takeFrom_26 fl_RX0_46 (by assumption) (by rfl) rfl ?_
  refine A_putI (ki := 3) dX0_takeFrom_29 fl_RX0_46 fi0_3 (by assumption) (by rfl) rfl (fun M29 e29 k29 => ?_)
  refine A_aload_n dX0_takeFrom_32 rfl ?_
  refine A_getR dX0_takeFrom_33 fl_RX0_9 (by assumption) (by rfl) ?_
  refine A_iconst dX0_takeFrom_36 (by decide) ?_
  refine A_aload_n dX0_takeFrom_37 rfl ?_
  refine A_getR dX0_takeFrom_38 fl_RX0_9 (by assumption) (by rfl) ?_
  refine A_iconst dX0_takeFrom_41 (by decide) ?_
  refine A_bipush dX0_takeFrom_42 bp_12 (by decide) ?_
  refine A_acopy (d := 1) dX0_takeFrom_44 hR.rm (by decide) ml_RX0_50 rfl (by assumption) (by assumption) (by omega) (by omega) (by omega) (fun M44 e44 k44 => ?_)
  refine A_aload_n dX0_takeFrom_47 rfl ?_
  refine A_getR dX0_takeFrom_48 fl_RX0_15 (by assumption) (by rfl) ?_
  refine A_iconst dX0_takeFrom_51 (by decide) ?_
  refine A_aload_n dX0_takeFrom_52 rfl ?_
  refine A_getR dX0_takeFrom_53 fl_RX0_15 (by assumption) (by rfl) ?_
  refine A_iconst dX0_takeFrom_56 (by decide) ?_
  refine A_bipush dX0_takeFrom_57 bp_6 (by decide) ?_
  refine A_acopy (d := 1) dX0_takeFrom_59 hR.rm (by decide) ml_RX0_50 rfl (by assumption) (by assumption) (by omega) (by omega) (by omega) (fun M59 e59 k59 => ?_)
  refine A_aload_n dX0_takeFrom_62 rfl ?_
  refine A_getR dX0_takeFrom_63 fl_RX0_18 (by assumption) (by rfl) ?_
  refine A_iconst dX0_takeFrom_66 (by decide) ?_
  refine A_aload_n dX0_takeFrom_67 rfl ?_
  refine A_getR dX0_takeFrom_68 fl_RX0_18 (by assumption) (by rfl) ?_
  refine A_iconst dX0_takeFrom_71 (by decide) ?_
  refine A_bipush dX0_takeFrom_72 bp_6 (by decide) ?_
  refine A_acopy (d := 1) dX0_takeFrom_74 hR.rm (by decide) ml_RX0_50 rfl (by assumption) (by assumption) (by omega) (by omega) (by omega) (fun M74 e74 k74 => ?_)
  refine A_aload_n dX0_takeFrom_77 rfl ?_
  refine A_getR dX0_takeFrom_78 fl_RX0_21 (by assumption) (by rfl) ?_
  refine A_iconst dX0_takeFrom_81 (by decide) ?_
  refine A_aload_n dX0_takeFrom_82 rfl ?_
  refine A_getR dX0_takeFrom_83 fl_RX0_21 (by assumption) (by rfl) ?_
  refine A_iconst dX0_takeFrom_86 (by decide) ?_
  refine A_bipush dX0_takeFrom_87 bp_6 (by decide) ?_
  refine A_acopy (d := 1) dX0_takeFrom_89 hR.rm (by decide) ml_RX0_50 rfl (by assumption) (by assumption) (by omega) (by omega) (by omega) (fun M89 e89 k89 => ?_)
  refine A_aload_n dX0_takeFrom_92 rfl ?_
  refine A_getR dX0_takeFrom_93 fl_RX0_24 (by assumption) (by rfl) ?_
  refine A_iconst dX0_takeFrom_96 (by decide) ?_
  refine A_aload_n dX0_takeFrom_97 rfl ?_
  refine A_getR dX0_takeFrom_98 fl_RX0_24 (by assumption) (by rfl) ?_
  refine A_iconst dX0_takeFrom_101 (by decide) ?_
  refine A_bipush dX0_takeFrom_102 bp_6 (by decide) ?_
  refine A_acopy (d := 1) dX0_takeFrom_104 hR.rm (by decide) ml_RX0_50 rfl (by assumption) (by assumption) (by omega) (by omega) (by omega) (fun M104 e104 k104 => ?_)
  exact A_vret hR dX0_takeFrom_107 rfl ⟨rfl, fun x hx => by simp (disch := omega) only [e104, e89, e74, e59, e44, e29, e21, e13, e5, upm_c, cpm_o], fun k a b => by rcases (show k = 0 ∨ k = 1 ∨ k = 2 ∨ k = 3 by omega) with rfl | rfl | rfl | rfl <;> simp (disch := omega) only [e104, e89, e74, e59, e44, e29, e21, e13, e5, upm_c, cpm_o, upm_s, upm_k], fun k a b => by simp (disch := omega) only [e104, e89, e74, e59, e44, e29, e21, e13, e5, upm_c, cpm_o, cpm_i], fun y hy k a b => by rcases hy with rfl | rfl | rfl | rfl <;> simp (disch := omega) only [e104, e89, e74, e59, e44, e29, e21, e13, e5, upm_c, cpm_o, cpm_i]⟩

set_option maxRecDepth 100000 in
set_option maxHeartbeats 4000000 in
theorem c_begin {E : EN} {l : Launch} {M : Mem} {c t : Nat} {T : TD} (hC : isCrs E c) (hT : isTold E t) (hd : t + 8 ≤ c ∨ c + 8 ≤ t) (hrT : rT M t T) (hwT : wT T) : Cn E l mX0_begin 1 [vR c, vR t] M (fun r M1 => r = vU ∧ (fr M M1 c 8 ∧ rC M1 c T (bgC T))) := by
  refine Cn.of (by decide) rfl (Nat.le_of_ble_eq_true rfl) 0 rfl (fun oka okm G hR => ?_)
  obtain ⟨aC0, aC1, aC2, aC3, aC4, aC5, aC6, aC7⟩ := id hC
  obtain ⟨aT0, aT1, aT2, aT3, aT4, aT5, aT6, aT7⟩ := id hT
  obtain ⟨⟨t0, t1, t2, t3, t4⟩, tk, tt, tf⟩ := id hrT
  obtain ⟨wt0, wtk, wtt, wtf⟩ := id hwT
  refine A_aload_n dX0_begin_0 rfl ?_
  refine A_aload_n dX0_begin_1 rfl ?_
  refine A_getI (ki := 4) dX0_begin_2 fl_RX0_33 (by assumption) (by rfl) rfl ?_
  refine A_putI (ki := 0) dX0_begin_5 fl_RX0_39 fi0_0 (by assumption) (by rfl) rfl (fun M5 e5 k5 => ?_)
  refine A_aload_n dX0_begin_8 rfl ?_
  refine A_iconst dX0_begin_9 (by decide) ?_
  refine A_putI (ki := 1) dX0_begin_10 fl_RX0_40 fi0_1 (by assumption) (by rfl) rfl (fun M10 e10 k10 => ?_)
  refine A_aload_n dX0_begin_13 rfl ?_
  refine A_iconst dX0_begin_14 (by decide) ?_
  refine A_putI (ki := 2) dX0_begin_15 fl_RX0_43 fi0_2 (by assumption) (by rfl) rfl (fun M15 e15 k15 => ?_)
  refine A_aload_n dX0_begin_18 rfl ?_
  refine A_iconst dX0_begin_19 (by decide) ?_
  refine A_putI (ki := 3) dX0_begin_20 fl_RX0_46 fi0_3 (by assumption) (by rfl) rfl (fun M20 e20 k20 => ?_)
  refine A_aload_n dX0_begin_23 rfl ?_
  refine A_getR dX0_begin_24 fl_RX0_49 (by assumption) (by rfl) ?_
  refine A_iconst dX0_begin_27 (by decide) ?_
  refine A_aload_n dX0_begin_28 rfl ?_
  refine A_getR dX0_begin_29 fl_RX0_9 (by assumption) (by rfl) ?_
  refine A_iconst dX0_begin_32 (by decide) ?_
  refine A_bipush dX0_begin_33 bp_12 (by decide) ?_
  refine A_acopy (d := 1) dX0_begin_35 hR.rm (by decide) ml_RX0_50 rfl (by assumption) (by assumption) (by omega) (by omega) (by omega) (fun M35 e35 k35 => ?_)
  refine A_aload_n dX0_begin_38 rfl ?_
  refine A_getR dX0_begin_39 fl_RX0_56 (by assumption) (by rfl) ?_
  refine A_iconst dX0_begin_42 (by decide) ?_
  refine A_aload_n dX0_begin_43 rfl ?_
  refine A_getR dX0_begin_44 fl_RX0_15 (by assumption) (by rfl) ?_
  refine A_iconst dX0_begin_47 (by decide) ?_
  refine A_bipush dX0_begin_48 bp_6 (by decide) ?_
  refine A_acopy (d := 1) dX0_begin_50 hR.rm (by decide) ml_RX0_50 rfl (by assumption) (by assumption) (by omega) (by omega) (by omega) (fun M50 e50 k50 => ?_)
  refine A_aload_n dX0_begin_53 rfl ?_
  refine A_getR dX0_begin_54 fl_RX0_59 (by assumption) (by rfl) ?_
  refine A_iconst dX0_begin_57 (by decide) ?_
  refine A_aload_n dX0_begin_58 rfl ?_
  refine A_getR dX0_begin_59 fl_RX0_18 (by assumption) (by rfl) ?_
  refine A_iconst dX0_begin_62 (by decide) ?_
  refine A_bipush dX0_begin_63 bp_6 (by decide) ?_
  refine A_acopy (d := 1) dX0_begin_65 hR.rm (by decide) ml_RX0_50 rfl (by assumption) (by assumption) (by omega) (by omega) (by omega) (fun M65 e65 k65 => ?_)
  refine A_aload_n dX0_begin_68 rfl ?_
  refine A_getR dX0_begin_69 fl_RX0_21 (by assumption) (by rfl) ?_
  refine A_iconst dX0_begin_72 (by decide) ?_
  refine A_sV2 (mj := mJ7_fill_53178) dX0_begin_73 hR.rm (by decide) ok_J7_fill_53178 st_J7_fill_53178 ml_RX0_60 rfl (c_fill (n := 6) aC4 (by omega)) (fun M73 k73 q73 => ?_)
  refine A_aload_n dX0_begin_76 rfl ?_
  refine A_getR dX0_begin_77 fl_RX0_24 (by assumption) (by rfl) ?_
  refine A_iconst dX0_begin_80 (by decide) ?_
  refine A_sV2 (mj := mJ7_fill_53178) dX0_begin_81 hR.rm (by decide) ok_J7_fill_53178 st_J7_fill_53178 ml_RX0_60 rfl (c_fill (n := 6) aC5 (by omega)) (fun M81 k81 q81 => ?_)
  exact A_vret hR dX0_begin_84 rfl (by
      refine ⟨rfl, fun x hx => by simp (disch := omega) only [q81, q73, e65, e50, e35, e20, e15, e10, e5, upm_c, cpm_o, flm_o], ⟨?_, ?_, ?_, ?_⟩, fun k a b => ?_, fun k a b => ⟨?_, ?_, ?_, ?_⟩⟩
      · simp (disch := omega) only [q81, q73, e65, e50, e35, e20, e15, e10, e5, upm_c, cpm_o, flm_o, upm_s, upm_k]; exact t4
      · simp (disch := omega) only [q81, q73, e65, e50, e35, e20, e15, e10, e5, upm_c, cpm_o, flm_o, upm_s, upm_k]; rfl
      · simp (disch := omega) only [q81, q73, e65, e50, e35, e20, e15, e10, e5, upm_c, cpm_o, flm_o, upm_s, upm_k]; rfl
      · simp (disch := omega) only [q81, q73, e65, e50, e35, e20, e15, e10, e5, upm_c, cpm_o, flm_o, upm_s, upm_k]
        have z : ∀ n : Nat, fsN (csF (bgC T)) n = 0 := fun n => by
          induction n with
          | zero => rfl
          | succ n ih => rw [fsN, if_pos (show csF (bgC T) n = -1 from rfl), ih]
        rw [z]; rfl
      · simp (disch := omega) only [q81, q73, e65, e50, e35, e20, e15, e10, e5, upm_c, cpm_o, flm_o, cpm_i]; exact (tt k a b).2.2
      · simp (disch := omega) only [q81, q73, e65, e50, e35, e20, e15, e10, e5, upm_c, cpm_o, flm_o, cpm_i]; exact (tf k a b).1
      · simp (disch := omega) only [q81, q73, e65, e50, e35, e20, e15, e10, e5, upm_c, cpm_o, flm_o, cpm_i]; exact (tf k a b).2.2
      · simp (disch := omega) only [q81, q73, e65, e50, e35, e20, e15, e10, e5, upm_c, cpm_o, flm_o, flm_i]; rfl
      · simp (disch := omega) only [q81, q73, e65, e50, e35, e20, e15, e10, e5, upm_c, cpm_o, flm_o, flm_i]; rfl)

theorem bgC_w {T : TD} (h : wT T) : wC T (bgC T) := by
  obtain ⟨a, b, c, d⟩ := h
  refine ⟨⟨by show 0 ≤ oW T; omega, by show oW T ≤ 99; omega, by show (0 : Int) ≤ 0; omega, by show (-1 : Int) ≤ -1; omega, by show (-1 : Int) < oD T; omega⟩, fun k x y => ⟨(c k x y).2.2.2.2.2.1, (c k x y).2.2.2.2.2.2⟩, fun k x y => ?_⟩
  have q := d k x y
  exact ⟨q.1, q.2.1, q.2.2.2.2.2.1, q.2.2.2.2.2.2, by show (-1 : Int) ≤ -1; omega, by show (-1 : Int) < oT T; omega, fun h => absurd rfl h, by show (-1 : Int) ≤ -1; omega, by show (-1 : Int) < 0; omega⟩
set_option maxRecDepth 100000 in
set_option maxHeartbeats 4000000 in
theorem c_takeT {E : EN} {l : Launch} {M : Mem} {t s : Nat} {T : TD} (hT : isTold E t) (hS : isTold E s) (hd : s + 8 ≤ t ∨ t + 8 ≤ s) (hrT : rT M s T) (hwT : wT T) : Cn E l mX6_takeFrom 1 [vR t, vR s] M (fun r M1 => r = vU ∧ (fr M M1 t 8 ∧ rT M1 t T)) := by
  refine Cn.of (by decide) rfl (Nat.le_of_ble_eq_true rfl) 0 rfl (fun oka okm G hR => ?_)
  obtain ⟨aT0, aT1, aT2, aT3, aT4, aT5, aT6, aT7⟩ := id hT
  obtain ⟨aS0, aS1, aS2, aS3, aS4, aS5, aS6, aS7⟩ := id hS
  obtain ⟨⟨t0, t1, t2, t3, t4⟩, tk, tt, tf⟩ := id hrT
  obtain ⟨wt0, wtk, wtt, wtf⟩ := id hwT
  refine A_aload_n dX6_takeFrom_0 rfl ?_
  refine A_aload_n dX6_takeFrom_1 rfl ?_
  refine A_getI (ki := 0) dX6_takeFrom_2 fl_RX6_37 (by assumption) (by rfl) rfl ?_
  refine A_putI (ki := 0) dX6_takeFrom_5 fl_RX6_37 fi6_0 (by assumption) (by rfl) rfl (fun M5 e5 k5 => ?_)
  refine A_aload_n dX6_takeFrom_8 rfl ?_
  refine A_aload_n dX6_takeFrom_9 rfl ?_
  refine A_getI (ki := 1) dX6_takeFrom_10 fl_RX6_41 (by assumption) (by rfl) rfl ?_
  refine A_putI (ki := 1) dX6_takeFrom_13 fl_RX6_41 fi6_1 (by assumption) (by rfl) rfl (fun M13 e13 k13 => ?_)
  refine A_aload_n dX6_takeFrom_16 rfl ?_
  refine A_aload_n dX6_takeFrom_17 rfl ?_
  refine A_getI (ki := 2) dX6_takeFrom_18 fl_RX6_44 (by assumption) (by rfl) rfl ?_
  refine A_putI (ki := 2) dX6_takeFrom_21 fl_RX6_44 fi6_2 (by assumption) (by rfl) rfl (fun M21 e21 k21 => ?_)
  refine A_aload_n dX6_takeFrom_24 rfl ?_
  refine A_aload_n dX6_takeFrom_25 rfl ?_
  refine A_getI (ki := 3) dX6_takeFrom_26 fl_RX6_47 (by assumption) (by rfl) rfl ?_
  refine A_putI (ki := 3) dX6_takeFrom_29 fl_RX6_47 fi6_3 (by assumption) (by rfl) rfl (fun M29 e29 k29 => ?_)
  refine A_aload_n dX6_takeFrom_32 rfl ?_
  refine A_aload_n dX6_takeFrom_33 rfl ?_
  refine A_getI (ki := 4) dX6_takeFrom_34 fl_RX6_50 (by assumption) (by rfl) rfl ?_
  refine A_putI (ki := 4) dX6_takeFrom_37 fl_RX6_50 fi6_4 (by assumption) (by rfl) rfl (fun M37 e37 k37 => ?_)
  refine A_aload_n dX6_takeFrom_40 rfl ?_
  refine A_getR dX6_takeFrom_41 fl_RX6_9 (by assumption) (by rfl) ?_
  refine A_iconst dX6_takeFrom_44 (by decide) ?_
  refine A_aload_n dX6_takeFrom_45 rfl ?_
  refine A_getR dX6_takeFrom_46 fl_RX6_9 (by assumption) (by rfl) ?_
  refine A_iconst dX6_takeFrom_49 (by decide) ?_
  refine A_bipush dX6_takeFrom_50 bp_8 (by decide) ?_
  refine A_acopy (d := 1) dX6_takeFrom_52 hR.rm (by decide) ml_RX6_59 rfl (by assumption) (by assumption) (by omega) (by omega) (by omega) (fun M52 e52 k52 => ?_)
  refine A_aload_n dX6_takeFrom_55 rfl ?_
  refine A_getR dX6_takeFrom_56 fl_RX6_15 (by assumption) (by rfl) ?_
  refine A_iconst dX6_takeFrom_59 (by decide) ?_
  refine A_aload_n dX6_takeFrom_60 rfl ?_
  refine A_getR dX6_takeFrom_61 fl_RX6_15 (by assumption) (by rfl) ?_
  refine A_iconst dX6_takeFrom_64 (by decide) ?_
  refine A_bipush dX6_takeFrom_65 bp_12 (by decide) ?_
  refine A_acopy (d := 1) dX6_takeFrom_67 hR.rm (by decide) ml_RX6_59 rfl (by assumption) (by assumption) (by omega) (by omega) (by omega) (fun M67 e67 k67 => ?_)
  refine A_aload_n dX6_takeFrom_70 rfl ?_
  refine A_getR dX6_takeFrom_71 fl_RX6_18 (by assumption) (by rfl) ?_
  refine A_iconst dX6_takeFrom_74 (by decide) ?_
  refine A_aload_n dX6_takeFrom_75 rfl ?_
  refine A_getR dX6_takeFrom_76 fl_RX6_18 (by assumption) (by rfl) ?_
  refine A_iconst dX6_takeFrom_79 (by decide) ?_
  refine A_bipush dX6_takeFrom_80 bp_12 (by decide) ?_
  refine A_acopy (d := 1) dX6_takeFrom_82 hR.rm (by decide) ml_RX6_59 rfl (by assumption) (by assumption) (by omega) (by omega) (by omega) (fun M82 e82 k82 => ?_)
  refine A_aload_n dX6_takeFrom_85 rfl ?_
  refine A_getR dX6_takeFrom_86 fl_RX6_21 (by assumption) (by rfl) ?_
  refine A_iconst dX6_takeFrom_89 (by decide) ?_
  refine A_aload_n dX6_takeFrom_90 rfl ?_
  refine A_getR dX6_takeFrom_91 fl_RX6_21 (by assumption) (by rfl) ?_
  refine A_iconst dX6_takeFrom_94 (by decide) ?_
  refine A_bipush dX6_takeFrom_95 bp_12 (by decide) ?_
  refine A_acopy (d := 1) dX6_takeFrom_97 hR.rm (by decide) ml_RX6_59 rfl (by assumption) (by assumption) (by omega) (by omega) (by omega) (fun M97 e97 k97 => ?_)
  refine A_aload_n dX6_takeFrom_100 rfl ?_
  refine A_getR dX6_takeFrom_101 fl_RX6_24 (by assumption) (by rfl) ?_
  refine A_iconst dX6_takeFrom_104 (by decide) ?_
  refine A_aload_n dX6_takeFrom_105 rfl ?_
  refine A_getR dX6_takeFrom_106 fl_RX6_24 (by assumption) (by rfl) ?_
  refine A_iconst dX6_takeFrom_109 (by decide) ?_
  refine A_bipush dX6_takeFrom_110 bp_6 (by decide) ?_
  refine A_acopy (d := 1) dX6_takeFrom_112 hR.rm (by decide) ml_RX6_59 rfl (by assumption) (by assumption) (by omega) (by omega) (by omega) (fun M112 e112 k112 => ?_)
  refine A_aload_n dX6_takeFrom_115 rfl ?_
  refine A_getR dX6_takeFrom_116 fl_RX6_27 (by assumption) (by rfl) ?_
  refine A_iconst dX6_takeFrom_119 (by decide) ?_
  refine A_aload_n dX6_takeFrom_120 rfl ?_
  refine A_getR dX6_takeFrom_121 fl_RX6_27 (by assumption) (by rfl) ?_
  refine A_iconst dX6_takeFrom_124 (by decide) ?_
  refine A_bipush dX6_takeFrom_125 bp_6 (by decide) ?_
  refine A_acopy (d := 1) dX6_takeFrom_127 hR.rm (by decide) ml_RX6_59 rfl (by assumption) (by assumption) (by omega) (by omega) (by omega) (fun M127 e127 k127 => ?_)
  refine A_aload_n dX6_takeFrom_130 rfl ?_
  refine A_getR dX6_takeFrom_131 fl_RX6_30 (by assumption) (by rfl) ?_
  refine A_iconst dX6_takeFrom_134 (by decide) ?_
  refine A_aload_n dX6_takeFrom_135 rfl ?_
  refine A_getR dX6_takeFrom_136 fl_RX6_30 (by assumption) (by rfl) ?_
  refine A_iconst dX6_takeFrom_139 (by decide) ?_
  refine A_bipush dX6_takeFrom_140 bp_6 (by decide) ?_
  refine A_acopy (d := 1) dX6_takeFrom_142 hR.rm (by decide) ml_RX6_59 rfl (by assumption) (by assumption) (by omega) (by omega) (by omega) (fun M142 e142 k142 => ?_)
  exact A_vret hR dX6_takeFrom_145 rfl (by
      refine ⟨rfl, fun x hx => by simp (disch := omega) only [e142, e127, e112, e97, e82, e67, e52, e37, e29, e21, e13, e5, upm_c, cpm_o], ⟨?_, ?_, ?_, ?_, ?_⟩, fun k a b => ?_, fun k a b => ⟨?_, ?_, ?_⟩, fun k a b => ⟨?_, ?_, ?_⟩⟩
      · simp (disch := omega) only [e142, e127, e112, e97, e82, e67, e52, e37, e29, e21, e13, e5, upm_c, cpm_o, upm_s, upm_k]; exact t0
      · simp (disch := omega) only [e142, e127, e112, e97, e82, e67, e52, e37, e29, e21, e13, e5, upm_c, cpm_o, upm_s, upm_k]; exact t1
      · simp (disch := omega) only [e142, e127, e112, e97, e82, e67, e52, e37, e29, e21, e13, e5, upm_c, cpm_o, upm_s, upm_k]; exact t2
      · simp (disch := omega) only [e142, e127, e112, e97, e82, e67, e52, e37, e29, e21, e13, e5, upm_c, cpm_o, upm_s, upm_k]; exact t3
      · simp (disch := omega) only [e142, e127, e112, e97, e82, e67, e52, e37, e29, e21, e13, e5, upm_c, cpm_o, upm_s, upm_k]; exact t4
      · simp (disch := omega) only [e142, e127, e112, e97, e82, e67, e52, e37, e29, e21, e13, e5, upm_c, cpm_o, cpm_i]; exact tk k a b
      · simp (disch := omega) only [e142, e127, e112, e97, e82, e67, e52, e37, e29, e21, e13, e5, upm_c, cpm_o, cpm_i]; exact (tt k a b).1
      · simp (disch := omega) only [e142, e127, e112, e97, e82, e67, e52, e37, e29, e21, e13, e5, upm_c, cpm_o, cpm_i]; exact (tt k a b).2.1
      · simp (disch := omega) only [e142, e127, e112, e97, e82, e67, e52, e37, e29, e21, e13, e5, upm_c, cpm_o, cpm_i]; exact (tt k a b).2.2
      · simp (disch := omega) only [e142, e127, e112, e97, e82, e67, e52, e37, e29, e21, e13, e5, upm_c, cpm_o, cpm_i]; exact (tf k a b).1
      · simp (disch := omega) only [e142, e127, e112, e97, e82, e67, e52, e37, e29, e21, e13, e5, upm_c, cpm_o, cpm_i]; exact (tf k a b).2.1
      · simp (disch := omega) only [e142, e127, e112, e97, e82, e67, e52, e37, e29, e21, e13, e5, upm_c, cpm_o, cpm_i]; exact (tf k a b).2.2)

