/-! FORESIGHT: the class's picture, and most of its methods -/
def isFor (E : EN) (f t n : Nat) : Prop := At E f (.inl (2, [rf t, rf n, rf (f + 1), rf (f + 9), rf (f + 10), rf (f + 11), rf (f + 12)])) ∧ isCrs E (f + 1) ∧ At E (f + 9) (aI 4 nG) ∧ At E (f + 10) (aI 4 nG) ∧ At E (f + 11) (aI 3 nG) ∧ At E (f + 12) (aI 8 nG)
theorem crs_at {E : EN} {c : Nat} (h : isCrs E c) : At E c (.inl (0, [none, none, none, none, rf (c + 1), rf (c + 2), rf (c + 3), rf (c + 4), rf (c + 5), rf (c + 6), rf (c + 7)])) := h.1
theorem told_at {E : EN} {t : Nat} (h : isTold E t) : At E t (.inl (6, [none, none, none, none, none, rf (t + 1), rf (t + 2), rf (t + 3), rf (t + 4), rf (t + 5), rf (t + 6), rf (t + 7)])) := h.1
/-- with the queen on a desk -/
def wq (C : CS) (q : Int) : CS := (csW C, csG C, q, csS C, csA C, csSw C, csC C, csF C)
theorem wq_w {T : TD} {C : CS} {q : Int} (h : wC T C) (h0 : -1 ≤ q) (h1 : q < oD T) : wC T (wq C q) := by
  obtain ⟨⟨a, b, c, d, e⟩, f, g⟩ := h
  exact ⟨⟨a, b, c, h0, h1⟩, f, g⟩
/-- how many files are filed some minutes on, if the queen sits there -/
def ffl (T : TD) (C : CS) (q : Int) (m : Nat) : Int := popN (fsN (csF (itC T (wq C q) m)) (oF T))
/-- the worst desk of the first and one more -/
def wsN (T : TD) (C : CS) (m : Nat) : Nat → Int
  | 0 => 0
  | k + 1 => if ffl T C (k + 1) m < ffl T C (wsN T C m k) m then (k : Int) + 1 else wsN T C m k
theorem wsN_r (T : TD) (C : CS) (m : Nat) : ∀ k : Nat, 0 ≤ wsN T C m k ∧ wsN T C m k ≤ k
  | 0 => by unfold wsN; omega
  | k + 1 => by
    have := wsN_r T C m k
    unfold wsN
    split <;> omega
theorem fs256 {F : Fn} {T : TD} (h : wT T) : fsN F (oF T) < 256 := by
  have h1 := (fsN_bit F (oF T)).1
  have h2 : 2 ^ (oF T) ≤ 2 ^ 6 := p2_le h.1.2.2.2.1
  omega
/-- with another sweetness of one file -/
def sws (C : CS) (g v : Int) : CS := (csW C, csG C, csQ C, csS C, csA C, fun k => if k = g then v else csSw C k, csC C, csF C)
theorem sws_w {T : TD} {C : CS} {g v : Int} (h : wC T C) (h0 : 0 ≤ v) (h1 : v ≤ 9) : wC T (sws C g v) := by
  obtain ⟨a, b, c⟩ := h
  refine ⟨a, b, fun k x y => ?_⟩
  have q := c k x y
  refine ⟨q.1, q.2.1, ?_, ?_, q.2.2.2.2⟩
  · show 0 ≤ (if k = g then v else csSw C k)
    split
    · exact h0
    · exact q.2.2.1
  · show (if k = g then v else csSw C k) ≤ 9
    split
    · exact h1
    · exact q.2.2.2.1
/-- a file is where it was seen -/
def agr (T : TD) (C : CS) (fl dk mn : Fn) (n : Nat) (g : Int) : Prop := ∀ k : Int, 0 ≤ k → k < n → fl k = g → csA (itC T C (mn k).toNat) g = dk k
/-- what a stamp may have been, by bits -/
def isSt (T : TD) (fl dk mn : Fn) (n : Nat) (g : Int) (v s : Nat) : Prop := s < 2 ^ v ∧ ∀ b : Nat, b < v → (s.testBit b = true ↔ agr T (sws (bgC T) g b) fl dk mn n g)
theorem isSt_y {T : TD} {fl dk mn : Fn} {n : Nat} {g : Int} {v s : Nat} (h : isSt T fl dk mn n g v s) (ha : agr T (sws (bgC T) g v) fl dk mn n g) : isSt T fl dk mn n g (v + 1) (s ||| 2 ^ v) := by
  obtain ⟨h1, h2⟩ := h
  refine ⟨by rw [b_add h1, Nat.pow_succ]; omega, fun b hb => ?_⟩
  rw [Nat.testBit_or, Nat.testBit_two_pow]
  by_cases e : b = v
  · subst e
    simp [ha]
  · have e2 : ¬ v = b := fun z => e z.symm
    simp only [e2, decide_false, Bool.or_false]
    exact h2 b (by omega)
theorem isSt_n {T : TD} {fl dk mn : Fn} {n : Nat} {g : Int} {v s : Nat} (h : isSt T fl dk mn n g v s) (ha : ¬ agr T (sws (bgC T) g v) fl dk mn n g) : isSt T fl dk mn n g (v + 1) s := by
  obtain ⟨h1, h2⟩ := h
  refine ⟨by rw [Nat.pow_succ]; omega, fun b hb => ?_⟩
  by_cases e : b = v
  · subst e
    rw [Nat.testBit_lt_two_pow h1]
    simp [ha]
  · exact h2 b (by omega)
theorem isSt_u {T : TD} {fl dk mn : Fn} {n : Nat} {g : Int} {v s s' : Nat} (h : isSt T fl dk mn n g v s) (h' : isSt T fl dk mn n g v s') : s = s' := by
  apply Nat.eq_of_testBit_eq
  intro b
  by_cases hb : b < v
  · have a := h.2 b hb
    have c := h'.2 b hb
    rw [Bool.eq_iff_iff]
    exact a.trans c.symm
  · rw [Nat.testBit_lt_two_pow (Nat.lt_of_lt_of_le h.1 (p2_le (by omega))), Nat.testBit_lt_two_pow (Nat.lt_of_lt_of_le h'.1 (p2_le (by omega)))]
theorem rng_or {a b : Nat} (h : a < 2 ^ 10) (hb : b < 10) : rng ((a ||| 2 ^ b : Nat) : Int) := by
  have h1 : a ||| 2 ^ b < 2 ^ 10 := Nat.or_lt_two_pow h (Nat.pow_lt_pow_right (by omega) hb)
  exact ⟨Int.le_trans (by decide) (Int.natCast_nonneg _), Int.le_trans (Int.ofNat_le.mpr (Nat.le_of_lt h1)) (by decide)⟩
set_option maxRecDepth 100000 in
set_option maxHeartbeats 4000000 in
theorem c_inMinutes {E : EN} {l : Launch} {M : Mem} {f t n : Nat} {T : TD} {C : CS}{m : Nat}(hF : isFor E f t n) (hT : isTold E t) (hN : isCrs E n) (hd1 : t + 8 ≤ n) (hd2 : n + 8 ≤ f) (hrT : rT M t T) (hrC : rC M n T C) (hwT : wT T) (hwC : wC T C) (hG : csG C ≤ 9999)(hm : m ≤ 1000) : Cn E l mX2_inMinutes 5 [vR f, vI m] M (fun r M1 => ∃ j, r = vR j ∧ (j = f + 1 ∧ fr M M1 (f + 1) 8 ∧ rC M1 (f + 1) T (itC T C m))) := by
  refine Cn.of (by decide) rfl (Nat.le_of_ble_eq_true rfl) 0 rfl (fun oka okm G hR => ?_)
  obtain ⟨aF0, hTr, aF9, aF10, aF11, aF12⟩ := id hF
  have cT := crs_at hTr
  have cN := crs_at hN
  have tD := told_at hT
  obtain ⟨cT0, cT1, cT2, cT3, cT4, cT5, cT6, cT7⟩ := id hTr
  obtain ⟨cN0, cN1, cN2, cN3, cN4, cN5, cN6, cN7⟩ := id hN
  obtain ⟨aT0, aT1, aT2, aT3, aT4, aT5, aT6, aT7⟩ := id hT
  obtain ⟨⟨t0, t1, t2, t3, t4⟩, tk, tt, tf⟩ := id hrT
  obtain ⟨⟨c0, c1, c2, c3⟩, cs, cf⟩ := id hrC
  obtain ⟨wt0, wtk, wtt, wtf⟩ := id hwT
  obtain ⟨wc0, wcs, wcf⟩ := id hwC
  refine A_aload_n dX2_inMinutes_0 rfl ?_
  refine A_getR dX2_inMinutes_1 fl_RX2_12 (by assumption) (by rfl) ?_
  refine A_aload_n dX2_inMinutes_4 rfl ?_
  refine A_getR dX2_inMinutes_5 fl_RX2_35 (by assumption) (by rfl) ?_
  refine A_vV1 (mj := mX0_takeFrom) dX2_inMinutes_8 hR.rm (by decide) ok_X0_takeFrom mv_X0_takeFrom ml_RX2_38 (by assumption) rfl rfl rfl (c_takeC hTr hN (by omega)) (fun M8 k8 q8 => ?_)
  obtain ⟨q8a, q8b, q8c, q8d⟩ := q8
  have rT8 : rT M8 t T := rT_fr hrT q8a (by omega)
  have rC8 : rC M8 (f + 1) T C := rC_cp hrC q8b q8c q8d hwT
  refine A_aload_n dX2_inMinutes_11 rfl ?_
  refine A_getR dX2_inMinutes_12 fl_RX2_12 (by assumption) (by rfl) ?_
  refine A_aload_n dX2_inMinutes_15 rfl ?_
  refine A_getR dX2_inMinutes_16 fl_RX2_31 (by assumption) (by rfl) ?_
  refine A_iload_n dX2_inMinutes_19 rfl ?_
  refine A_vV2 (mj := mX0_run) dX2_inMinutes_20 hR.rm (by decide) ok_X0_run mv_X0_run ml_RX2_42 (by assumption) rfl rfl rfl (c_run hTr hT (by omega) rT8 rC8 hwT hwC (by omega) hm) (fun M20 k20 q20 => ?_)
  obtain ⟨q20a, q20b⟩ := q20
  refine A_aload_n dX2_inMinutes_23 rfl ?_
  refine A_getR dX2_inMinutes_24 fl_RX2_12 (by assumption) (by rfl) ?_
  exact A_aret hR dX2_inMinutes_27 rfl ⟨_, rfl, rfl, fr_t q8a q20a, q20b⟩

set_option maxRecDepth 100000 in
set_option maxHeartbeats 4000000 in
theorem c_filedIn {E : EN} {l : Launch} {M : Mem} {f t n : Nat} {T : TD} {C : CS}{g : Nat}(hF : isFor E f t n) (hT : isTold E t) (hN : isCrs E n) (hd1 : t + 8 ≤ n) (hd2 : n + 8 ≤ f) (hrT : rT M t T) (hrC : rC M n T C) (hwT : wT T) (hwC : wC T C) (hG : csG C ≤ 9999)(hg : g < oF T) : Cn E l mX2_minuteOfFiling 5 [vR f, vI g] M (fun r M1 => ∃ z, r = vI z ∧ (fr M M1 (f + 1) 8 ∧ z = csF (itC T C 200) g)) := by
  refine Cn.of (by decide) rfl (Nat.le_of_ble_eq_true rfl) 0 rfl (fun oka okm G hR => ?_)
  obtain ⟨aF0, hTr, aF9, aF10, aF11, aF12⟩ := id hF
  have cT := crs_at hTr
  have cN := crs_at hN
  have tD := told_at hT
  obtain ⟨cT0, cT1, cT2, cT3, cT4, cT5, cT6, cT7⟩ := id hTr
  obtain ⟨cN0, cN1, cN2, cN3, cN4, cN5, cN6, cN7⟩ := id hN
  obtain ⟨aT0, aT1, aT2, aT3, aT4, aT5, aT6, aT7⟩ := id hT
  obtain ⟨⟨t0, t1, t2, t3, t4⟩, tk, tt, tf⟩ := id hrT
  obtain ⟨⟨c0, c1, c2, c3⟩, cs, cf⟩ := id hrC
  obtain ⟨wt0, wtk, wtt, wtf⟩ := id hwT
  obtain ⟨wc0, wcs, wcf⟩ := id hwC
  refine A_aload_n dX2_minuteOfFiling_0 rfl ?_
  refine A_getR dX2_minuteOfFiling_1 fl_RX2_12 (by assumption) (by rfl) ?_
  refine A_aload_n dX2_minuteOfFiling_4 rfl ?_
  refine A_getR dX2_minuteOfFiling_5 fl_RX2_35 (by assumption) (by rfl) ?_
  refine A_vV1 (mj := mX0_takeFrom) dX2_minuteOfFiling_8 hR.rm (by decide) ok_X0_takeFrom mv_X0_takeFrom ml_RX2_38 (by assumption) rfl rfl rfl (c_takeC hTr hN (by omega)) (fun M8 k8 q8 => ?_)
  obtain ⟨q8a, q8b, q8c, q8d⟩ := q8
  have rT8 : rT M8 t T := rT_fr hrT q8a (by omega)
  have rC8 : rC M8 (f + 1) T C := rC_cp hrC q8b q8c q8d hwT
  refine A_aload_n dX2_minuteOfFiling_11 rfl ?_
  refine A_getR dX2_minuteOfFiling_12 fl_RX2_12 (by assumption) (by rfl) ?_
  refine A_aload_n dX2_minuteOfFiling_15 rfl ?_
  refine A_getR dX2_minuteOfFiling_16 fl_RX2_31 (by assumption) (by rfl) ?_
  refine A_iconst dX2_minuteOfFiling_19 (by decide) ?_
  refine A_iload_n dX2_minuteOfFiling_20 rfl ?_
  refine A_ishl (z := ((2 ^ g : Nat) : Int)) dX2_minuteOfFiling_21 (b_shl g (by omega)) (rng_p2 (by omega)) ?_
  refine A_sipush dX2_minuteOfFiling_22 sp_200 (by decide) ?_
  refine A_vI3 (mj := mX0_runUntilFiled) dX2_minuteOfFiling_25 hR.rm (by decide) ok_X0_runUntilFiled mv_X0_runUntilFiled ml_RX2_46 (by assumption) rfl rfl rfl (c_runUntil (s := 2 ^ g) (n := 200) hTr hT (by omega) rT8 rC8 hwT hwC (by omega) (by omega) (Nat.pow_lt_pow_right (by omega) hg)) (fun z25 M25 g25 k25 q25 => ?_)
  obtain ⟨q25a, z0, j, hj, rCj, keq, kz⟩ := q25
  refine A_pop dX2_minuteOfFiling_28 rfl ?_
  refine A_aload_n dX2_minuteOfFiling_29 rfl ?_
  refine A_getR dX2_minuteOfFiling_30 fl_RX2_12 (by assumption) (by rfl) ?_
  refine A_getR dX2_minuteOfFiling_33 fl_RX2_50 (by assumption) (by rfl) ?_
  refine A_iload_n dX2_minuteOfFiling_36 rfl ?_
  refine A_iald dX2_minuteOfFiling_37 (by assumption) (by omega) (by omega) ?_
  rw [show f + 6 = f + 1 + 5 from rfl, (rCj.2.2 g (by omega) (by omega)).2.2.2, keq g hg Nat.testBit_two_pow_self]
  exact A_iret hR dX2_minuteOfFiling_38 rfl ⟨_, rfl, fr_t q8a q25a, rfl⟩

set_option maxRecDepth 100000 in
set_option maxHeartbeats 4000000 in
theorem c_filesFiled {E : EN} {l : Launch} {M : Mem} {f t n : Nat} {T : TD} {C : CS}{m : Nat} {q : Int}(hF : isFor E f t n) (hT : isTold E t) (hN : isCrs E n) (hd1 : t + 8 ≤ n) (hd2 : n + 8 ≤ f) (hrT : rT M t T) (hrC : rC M n T C) (hwT : wT T) (hwC : wC T C) (hG : csG C ≤ 9999)(hm : m ≤ 1000) (h0 : -1 ≤ q) (h1 : q < oD T) : Cn E l mX2_filesFiled 5 [vR f, vI q, vI m] M (fun r M1 => ∃ z, r = vI z ∧ (fr M M1 (f + 1) 8 ∧ z = ffl T C q m)) := by
  refine Cn.of (by decide) rfl (Nat.le_of_ble_eq_true rfl) 0 rfl (fun oka okm G hR => ?_)
  obtain ⟨aF0, hTr, aF9, aF10, aF11, aF12⟩ := id hF
  have cT := crs_at hTr
  have cN := crs_at hN
  have tD := told_at hT
  obtain ⟨cT0, cT1, cT2, cT3, cT4, cT5, cT6, cT7⟩ := id hTr
  obtain ⟨cN0, cN1, cN2, cN3, cN4, cN5, cN6, cN7⟩ := id hN
  obtain ⟨aT0, aT1, aT2, aT3, aT4, aT5, aT6, aT7⟩ := id hT
  obtain ⟨⟨t0, t1, t2, t3, t4⟩, tk, tt, tf⟩ := id hrT
  obtain ⟨⟨c0, c1, c2, c3⟩, cs, cf⟩ := id hrC
  obtain ⟨wt0, wtk, wtt, wtf⟩ := id hwT
  obtain ⟨wc0, wcs, wcf⟩ := id hwC
  refine A_aload_n dX2_filesFiled_0 rfl ?_
  refine A_getR dX2_filesFiled_1 fl_RX2_12 (by assumption) (by rfl) ?_
  refine A_aload_n dX2_filesFiled_4 rfl ?_
  refine A_getR dX2_filesFiled_5 fl_RX2_35 (by assumption) (by rfl) ?_
  refine A_vV1 (mj := mX0_takeFrom) dX2_filesFiled_8 hR.rm (by decide) ok_X0_takeFrom mv_X0_takeFrom ml_RX2_38 (by assumption) rfl rfl rfl (c_takeC hTr hN (by omega)) (fun M8 k8 q8 => ?_)
  obtain ⟨q8a, q8b, q8c, q8d⟩ := q8
  have rT8 : rT M8 t T := rT_fr hrT q8a (by omega)
  have rC8 : rC M8 (f + 1) T C := rC_cp hrC q8b q8c q8d hwT
  refine A_aload_n dX2_filesFiled_11 rfl ?_
  refine A_getR dX2_filesFiled_12 fl_RX2_12 (by assumption) (by rfl) ?_
  refine A_iload_n dX2_filesFiled_15 rfl ?_
  refine A_putI (ki := 2) dX2_filesFiled_16 fl_RX2_128 fi0_2 (by assumption) (by rfl) rfl (fun M16 e16 k16 => ?_)
  have f16 : fr M8 M16 (f + 1) 8 := fun y hy => by rw [e16, upm_c (by omega)]
  have rT16 : rT M16 t T := rT_fr rT8 f16 (by omega)
  have rC16 : rC M16 (f + 1) T (wq C q) := by
    obtain ⟨⟨a, b, c, d⟩, x, y⟩ := rC8
    exact ⟨⟨by rw [e16, upm_k (by omega)]; exact a, by rw [e16, upm_k (by omega)]; exact b, by rw [e16, upm_s]; rfl, by rw [e16, upm_k (by omega)]; exact d⟩, fun k z w => by rw [e16, upm_c (by omega)]; exact x k z w, fun k z w => by rw [e16, upm_c (by omega), upm_c (by omega), upm_c (by omega), upm_c (by omega)]; exact y k z w⟩
  refine A_aload_n dX2_filesFiled_19 rfl ?_
  refine A_getR dX2_filesFiled_20 fl_RX2_12 (by assumption) (by rfl) ?_
  refine A_aload_n dX2_filesFiled_23 rfl ?_
  refine A_getR dX2_filesFiled_24 fl_RX2_31 (by assumption) (by rfl) ?_
  refine A_iload_n dX2_filesFiled_27 rfl ?_
  refine A_vV2 (mj := mX0_run) dX2_filesFiled_28 hR.rm (by decide) ok_X0_run mv_X0_run ml_RX2_42 (by assumption) rfl rfl rfl (c_run (C := wq C q) hTr hT (by omega) rT16 rC16 hwT (wq_w hwC h0 h1) (by show csG C < 100000; omega) hm) (fun M28 k28 q28 => ?_)
  obtain ⟨q28a, q28b⟩ := q28
  refine A_aload_n dX2_filesFiled_31 rfl ?_
  refine A_getR dX2_filesFiled_32 fl_RX2_12 (by assumption) (by rfl) ?_
  refine A_getI (ki := 3) dX2_filesFiled_35 fl_RX2_131 (by assumption) (by rfl) rfl ?_
  rw [q28b.1.2.2.2]
  refine A_sI1 (mj := mJ6_bitCount_0f7a4) dX2_filesFiled_38 hR.rm (by decide) ok_J6_bitCount_0f7a4 st_J6_bitCount_0f7a4 ml_RX2_134 rfl (c_bitCount (x := fsN (csF (itC T (wq C q) m)) (oF T)) (fs256 hwT)) (fun z38 M38 g38 k38 q38 => ?_)
  obtain ⟨e38, q38⟩ := q38
  subst M38
  exact A_iret hR dX2_filesFiled_41 rfl ⟨_, rfl, fr_t q8a (fr_t f16 q28a), q38⟩

set_option maxRecDepth 100000 in
set_option maxHeartbeats 4000000 in
theorem c_worst {E : EN} {l : Launch} {M : Mem} {f t n : Nat} {T : TD} {C : CS}{m : Nat}(hF : isFor E f t n) (hT : isTold E t) (hN : isCrs E n) (hd1 : t + 8 ≤ n) (hd2 : n + 8 ≤ f) (hrT : rT M t T) (hrC : rC M n T C) (hwT : wT T) (hwC : wC T C) (hG : csG C ≤ 9999)(hm : m ≤ 1000) : Cn E l mX2_worstDesk 6 [vR f, vI m] M (fun r M1 => ∃ z, r = vI z ∧ (fr M M1 (f + 1) 8 ∧ z = wsN T C m (oD T - 1))) := by
  refine Cn.of (by decide) rfl (Nat.le_of_ble_eq_true rfl) 4 rfl (fun oka okm G hR => ?_)
  obtain ⟨aF0, hTr, aF9, aF10, aF11, aF12⟩ := id hF
  have cT := crs_at hTr
  have cN := crs_at hN
  have tD := told_at hT
  obtain ⟨cT0, cT1, cT2, cT3, cT4, cT5, cT6, cT7⟩ := id hTr
  obtain ⟨cN0, cN1, cN2, cN3, cN4, cN5, cN6, cN7⟩ := id hN
  obtain ⟨aT0, aT1, aT2, aT3, aT4, aT5, aT6, aT7⟩ := id hT
  obtain ⟨⟨t0, t1, t2, t3, t4⟩, tk, tt, tf⟩ := id hrT
  obtain ⟨⟨c0, c1, c2, c3⟩, cs, cf⟩ := id hrC
  obtain ⟨wt0, wtk, wtt, wtf⟩ := id hwT
  obtain ⟨wc0, wcs, wcf⟩ := id hwC
  refine A_iconst dX2_worstDesk_0 (by decide) ?_
  refine A_istore_n dX2_worstDesk_1 (by decide) rfl ?_
  refine A_aload_n dX2_worstDesk_2 rfl ?_
  refine A_iconst dX2_worstDesk_3 (by decide) ?_
  refine A_iload_n dX2_worstDesk_4 rfl ?_
  refine A_vI2 (mj := mX2_filesFiled) dX2_worstDesk_5 hR.rm (by decide) ok_X2_filesFiled mv_X2_filesFiled ml_RX2_140 (by assumption) rfl rfl rfl (c_filesFiled (q := 0) hF hT hN hd1 hd2 hrT hrC hwT hwC hG hm (by omega) (by omega)) (fun z5 M5 g5 k5 q5 => ?_)
  obtain ⟨q5a, q5b⟩ := q5
  refine A_istore_n dX2_worstDesk_8 (by decide) rfl ?_
  refine A_iconst dX2_worstDesk_9 (by decide) ?_
  refine A_istore dX2_worstDesk_10 (by decide) rfl ?_
  have lp : ∀ (k : Nat) (i : Nat) (w : Int) (y : Int) (M1 : Mem) (x5 : AV), oD T - i = k → (1 ≤ i) → (i ≤ oD T) → (fr M M1 (f + 1) 8) → (w = wsN T C m (i - 1)) → (y = ffl T C w m) → AW E mX2_worstDesk G 0 0 12 [vR f, vI m, vI w, vI y, vI i, x5] [] M1 := by
    intro k
    induction k using Nat.strongRecOn with
    | ind k ih =>
      intro i w y M1 x5 hk h0 h1 hf hw hy
      have rT1 : rT M1 t T := rT_fr hrT hf (by omega)
      have rC1 : rC M1 n T C := rC_fr hrC hf (by omega)
      have ws : wsN T C m (i + 1 - 1) = if ffl T C i m < ffl T C (wsN T C m (i - 1)) m then (i : Int) else wsN T C m (i - 1) := by
        obtain ⟨j, rfl⟩ : ∃ j, i = j + 1 := ⟨i - 1, by omega⟩
        simp only [Nat.add_sub_cancel]
        rw [wsN]
        rfl
      refine A_iload dX2_worstDesk_12 rfl ?_
      refine A_aload_n dX2_worstDesk_14 rfl ?_
      refine A_getR dX2_worstDesk_15 fl_RX2_31 (by assumption) (by rfl) ?_
      refine A_getI (ki := 0) dX2_worstDesk_18 fl_RX2_111 (by assumption) (by rfl) rfl ?_
      rw [rT1.1.1]
      refine A_icmp_ge (tgt := 54) dX2_worstDesk_21 (by decide) (fun h21 => ?_) (fun h21 => ?_)
      · skip
        have hi : i = oD T := by omega
        subst hi
        refine A_iload_n dX2_worstDesk_54 rfl ?_
        exact A_iret hR dX2_worstDesk_55 rfl ⟨_, rfl, hf, hw⟩
      · skip
        refine A_aload_n dX2_worstDesk_24 rfl ?_
        refine A_iload dX2_worstDesk_25 rfl ?_
        refine A_iload_n dX2_worstDesk_27 rfl ?_
        refine A_vI2 (mj := mX2_filesFiled) dX2_worstDesk_28 hR.rm (by decide) ok_X2_filesFiled mv_X2_filesFiled ml_RX2_140 (by assumption) rfl rfl rfl (c_filesFiled (q := (i : Int)) hF hT hN hd1 hd2 rT1 rC1 hwT hwC hG hm (by omega) (by omega)) (fun z28 M28 g28 k28 q28 => ?_)
        obtain ⟨q28a, q28b⟩ := q28
        refine A_istore dX2_worstDesk_31 (by decide) rfl ?_
        refine A_iload dX2_worstDesk_33 rfl ?_
        refine A_iload_n dX2_worstDesk_35 rfl ?_
        refine A_icmp_lt (tgt := 42) dX2_worstDesk_36 (by decide) (fun h36 => ?_) (fun h36 => ?_)
        · skip
          refine A_iload dX2_worstDesk_42 rfl ?_
          refine A_istore_n dX2_worstDesk_44 (by decide) rfl ?_
          refine A_iload dX2_worstDesk_45 rfl ?_
          refine A_istore_n dX2_worstDesk_47 (by decide) rfl ?_
          refine A_iinc dX2_worstDesk_48 (by decide) rfl rfl ⟨by omega, by omega⟩ ?_
          refine A_goto (tgt := 12) dX2_worstDesk_51 (by decide) ?_
          refine ih _ ?_ (i + 1) _ _ M28 _ rfl (by omega) (by omega) (fr_t hf q28a) ?_ ?_
          · omega
          · rw [ws]
            first | (rw [if_pos (by rw [← hw]; omega)]) | (rw [if_neg (by rw [← hw]; omega)]; exact hw)
          · first | exact q28b | exact hy
        · skip
          refine A_goto (tgt := 48) dX2_worstDesk_39 (by decide) ?_
          refine A_iinc dX2_worstDesk_48 (by decide) rfl rfl ⟨by omega, by omega⟩ ?_
          refine A_goto (tgt := 12) dX2_worstDesk_51 (by decide) ?_
          refine ih _ ?_ (i + 1) _ _ M28 _ rfl (by omega) (by omega) (fr_t hf q28a) ?_ ?_
          · omega
          · rw [ws]
            first | (rw [if_pos (by rw [← hw]; omega)]) | (rw [if_neg (by rw [← hw]; omega)]; exact hw)
          · first | exact q28b | exact hy
  exact lp _ 1 0 z5 M5 vU rfl (by omega) (by omega) q5a rfl q5b

set_option maxRecDepth 100000 in
set_option maxHeartbeats 4000000 in
theorem c_agrees {E : EN} {l : Launch} {M : Mem} {f t n s cn : Nat} {T : TD} {C : CS} {fl dk mn : Fn} {g : Nat}(hF : isFor E f t n) (hT : isTold E t) (hN : isCrs E n) (hSg : isSgt E s) (hd1 : t + 8 ≤ n) (hd2 : n + 8 ≤ f) (hd3 : f + 13 ≤ s) (hrT : rT M t T) (hrC : rC M (f + 1) T C) (hwT : wT T) (hwC : wC T C) (hG : csG C = 0) (hrS : rS M s cn fl dk mn) (hm : ∀ k : Int, 0 ≤ k → k < cn → 0 ≤ mn k ∧ mn k ≤ 99) (hg : g < oF T) : Cn E l mX2_agreesWith 5 [vR f, vR s, vI g] M (fun r M1 => ∃ z, r = vI z ∧ (fr M M1 (f + 1) 8 ∧ (z = 0 ∨ z = 1) ∧ (z = 1 ↔ agr T C fl dk mn cn g))) := by
  refine Cn.of (by decide) rfl (Nat.le_of_ble_eq_true rfl) 2 rfl (fun oka okm G hR => ?_)
  obtain ⟨aF0, hTr, aF9, aF10, aF11, aF12⟩ := id hF
  have cT := crs_at hTr
  have cN := crs_at hN
  have tD := told_at hT
  obtain ⟨cT0, cT1, cT2, cT3, cT4, cT5, cT6, cT7⟩ := id hTr
  obtain ⟨cN0, cN1, cN2, cN3, cN4, cN5, cN6, cN7⟩ := id hN
  obtain ⟨aT0, aT1, aT2, aT3, aT4, aT5, aT6, aT7⟩ := id hT
  obtain ⟨⟨t0, t1, t2, t3, t4⟩, tk, tt, tf⟩ := id hrT
  obtain ⟨⟨c0, c1, c2, c3⟩, cs, cf⟩ := id hrC
  obtain ⟨wt0, wtk, wtt, wtf⟩ := id hwT
  obtain ⟨wc0, wcs, wcf⟩ := id hwC
  obtain ⟨aS0, aS1, aS2, aS3⟩ := id hSg
  have lr := laN_r (fl := fl) (f := (g : Int)) cn hm
  refine A_aload_n dX2_agreesWith_0 rfl ?_
  refine A_iload_n dX2_agreesWith_1 rfl ?_
  refine A_vI1 (mj := mX4_lastOf) dX2_agreesWith_2 hR.rm (by decide) ok_X4_lastOf mv_X4_lastOf ml_RX2_151 (by assumption) rfl rfl rfl (c_lastOf hSg hrS hm) (fun z2 M2 g2 k2 q2 => ?_)
  obtain ⟨e2, q2a⟩ := q2
  subst M2
  refine A_istore_n dX2_agreesWith_5 (by decide) rfl ?_
  refine A_iconst dX2_agreesWith_6 (by decide) ?_
  refine A_istore dX2_agreesWith_7 (by decide) rfl ?_
  have lp : ∀ (k : Nat) (i : Nat) (M1 : Mem), 200 - i = k → ((i : Int) ≤ z2 + 1) → (fr M M1 (f + 1) 8) → (rC M1 (f + 1) T (itC T C i)) → (∀ k : Int, 0 ≤ k → k < cn → fl k = g → mn k < i → csA (itC T C (mn k).toNat) g = dk k) → AW E mX2_agreesWith G 0 0 9 [vR f, vR s, vI g, vI z2, vI i] [] M1 := by
    intro k
    induction k using Nat.strongRecOn with
    | ind k ih =>
      intro i M1 hk h0 hf hc hx
      have rS1 : rS M1 s cn fl dk mn := rS_fr hrS (fun y p q => hf y (by omega))
      skip
      refine A_iload dX2_agreesWith_9 rfl ?_
      refine A_iload_n dX2_agreesWith_11 rfl ?_
      refine A_icmp_gt (tgt := 54) dX2_agreesWith_12 (by decide) (fun h12 => ?_) (fun h12 => ?_)
      · skip
        refine A_iconst dX2_agreesWith_54 (by decide) ?_
        exact A_zret hR dX2_agreesWith_55 rfl (by first | exact Or.inl rfl | exact Or.inr rfl | omega) ⟨_, rfl, hf, Or.inr rfl, ⟨fun _ k a b p => hx k a b p (by have := lr.2.2 k a b p; omega), fun _ => rfl⟩⟩
      · skip
        refine A_aload_n dX2_agreesWith_15 rfl ?_
        refine A_iload_n dX2_agreesWith_16 rfl ?_
        refine A_aload_n dX2_agreesWith_17 rfl ?_
        refine A_getR dX2_agreesWith_18 fl_RX2_12 (by assumption) (by rfl) ?_
        refine A_getR dX2_agreesWith_21 fl_RX2_67 (by assumption) (by rfl) ?_
        refine A_iload_n dX2_agreesWith_24 rfl ?_
        refine A_iald dX2_agreesWith_25 (by assumption) (by omega) (by omega) ?_
        rw [show f + 3 = f + 1 + 2 from rfl, (hc.2.2 g (by omega) (by omega)).1]
        refine A_iload dX2_agreesWith_26 rfl ?_
        refine A_vI3 (mj := mX4_allow) dX2_agreesWith_28 hR.rm (by decide) ok_X4_allow mv_X4_allow ml_RX2_156 (by assumption) rfl rfl rfl (c_allow hSg rS1) (fun z28 M28 g28 k28 q28 => ?_)
        obtain ⟨e28, z0, q28b⟩ := q28
        subst M28
        refine A_if_ne (tgt := 36) dX2_agreesWith_31 (by decide) (fun h31 => ?_) (fun h31 => ?_)
        · skip
          refine A_aload_n dX2_agreesWith_36 rfl ?_
          refine A_getR dX2_agreesWith_37 fl_RX2_12 (by assumption) (by rfl) ?_
          refine A_aload_n dX2_agreesWith_40 rfl ?_
          refine A_getR dX2_agreesWith_41 fl_RX2_31 (by assumption) (by rfl) ?_
          refine A_vI1 (mj := mX0_passMinute) dX2_agreesWith_44 hR.rm (by decide) ok_X0_passMinute mv_X0_passMinute ml_RX2_160 (by assumption) rfl rfl rfl (c_passMinute hTr hT (by omega) (rT_fr hrT hf (by omega)) hc hwT (itC_w hwT hwC i).1 (by have := (itC_w hwT hwC i).2; omega)) (fun z44 M44 g44 k44 q44 => ?_)
          obtain ⟨q44a, q44b, -⟩ := q44
          refine A_pop dX2_agreesWith_47 rfl ?_
          refine A_iinc dX2_agreesWith_48 (by decide) rfl rfl ⟨by omega, by omega⟩ ?_
          refine A_goto (tgt := 9) dX2_agreesWith_51 (by decide) ?_
          refine ih _ ?_ (i + 1) M44 rfl (by omega) (fr_t hf q44a) q44b (fun k a b p q => ?_)
          · omega
          · by_cases e : mn k = i
            · have := (q28b.mp (by omega)) k a b p e
              rw [e, this]; rfl
            · exact hx k a b p (by omega)
        · skip
          refine A_iconst dX2_agreesWith_34 (by decide) ?_
          exact A_zret hR dX2_agreesWith_35 rfl (by first | exact Or.inl rfl | exact Or.inr rfl | omega) ⟨_, rfl, hf, Or.inl rfl, ⟨fun h => absurd h (by decide), fun h => by
              have z1 : z28 = 1 := q28b.mpr (fun k a b p q => by
                have := h k a b p
                rw [q] at this
                exact this.symm)
              omega⟩⟩
  exact lp _ 0 M rfl (by omega) fr_r hrC (fun k a b p q => by have := hm k a b; omega)

