/-! THE READER: trails and files -/
theorem fr11_t {M M1 M2 : Mem} (h1 : fr11 M M1) (h2 : fr11 M1 M2) : fr11 M M2 := ⟨fun y a => (h2.1 y a).trans (h1.1 y a), fun k a b c => (h2.2 k a b c).trans (h1.2 k a b c)⟩
theorem rt_0 {M M1 : Mem} {x : Fn} {n p f : Nat} {w : Int} {T : TD} (e : rsR x n p w (oD T) = ((f : Int), 0, 0, 0, 0)) (fr : fr11 M M1) (hf : M1 11 2 = f) : rrP M M1 x n p w T 0 := by
  unfold rrP
  rw [e]
  exact ⟨⟨fun y hy => fr.1 y (by omega), fr.2 3 (by omega) (by omega) (by omega)⟩, fun _ => ⟨rfl, hf⟩, fun q => by have q : (f : Int) = -1 := q; omega⟩
theorem rt_1 {M M1 M2 : Mem} {x : Fn} {n p q : Nat} {w v1 v2 v3 : Int} {T : TD} (e : rsR x n p w (oD T) = (-1, q, v1, v2, v3)) (fr : fr11 M M1) (h2 : M1 11 2 = M 11 2) (h5 : M1 11 5 = q) (f : ∀ y, y < 12 ∨ 20 ≤ y → M2 y = M1 y) (hT : rT M2 12 (apL w v1 v2 v3 T)) : rrP M M2 x n p w T 1 := by
  unfold rrP
  rw [e]
  exact ⟨⟨fun y hy => by rw [f y (by omega)]; exact fr.1 y (by omega), by rw [f 11 (by omega)]; exact fr.2 3 (by omega) (by omega) (by omega)⟩, fun z => absurd rfl z, fun _ => ⟨rfl, by rw [f 11 (by omega)]; exact h2, by rw [f 11 (by omega)]; exact h5, hT⟩⟩
set_option maxRecDepth 100000 in
set_option maxHeartbeats 4000000 in
theorem c_readTrail {E : EN} {l : Launch} {M : Mem} {n p : Nat} {x : Fn} {T : TD} (hO : isRdr E) (hn2 : n ≤ 200) (hby : ∀ k : Int, 0 ≤ k → k < n → 0 ≤ x k ∧ x k ≤ 255) (hx : tX M n x) (hp : M 11 5 = p) (hp2 : p ≤ n) (hT : rT M 12 T) (hw : wN3 T) (hc : oT T ≠ 12) : Cn E l mX3_readTrail 4 [vR 11] M (fun r M1 => ∃ z, r = vI z ∧ rrP M M1 x n p 5 T z) := by
  refine Cn.of (by decide) rfl (Nat.le_of_ble_eq_true rfl) 3 rfl (fun oka okm G hR => ?_)
  obtain ⟨rt, rd, ra⟩ := id hO
  obtain ⟨ta, tb⟩ := id rt
  obtain ⟨b0, b1, b2, b3, b4, b5, b6, b7⟩ := id rd
  obtain ⟨⟨h0, -⟩, -⟩ := id hT
  have t1 := tk_r (x := x) hp2
  have t2 := tk_r (x := x) (show tkB x n p ≤ n by omega)
  have rr1 := rdN_r x n p (lo := 0) (hi := (oD T : Int) - 1) (by decide)
  have w3 := hw.2
  have w2 := hw.1
  refine A_aload_n dX3_readTrail_0 rfl ?_
  refine A_iconst dX3_readTrail_1 (by decide) ?_
  refine A_aload_n dX3_readTrail_2 rfl ?_
  refine A_getR dX3_readTrail_3 fl_RX3_12 (by assumption) (by rfl) ?_
  refine A_getI (ki := 0) dX3_readTrail_6 fl_RX3_113 (by assumption) (by rfl) rfl ?_
  rw [h0]
  refine A_iconst dX3_readTrail_9 (by decide) ?_
  refine A_isub dX3_readTrail_10 ⟨by omega, by omega⟩ ?_
  refine A_vI2 (mj := mX3_readNumber) dX3_readTrail_11 hR.rm (by decide) ok_X3_readNumber mv_X3_readNumber ml_RX3_105 (by assumption) rfl rfl rfl (c_readNumber hO hn2 hby hx hp hp2 (by decide)) (fun z11 M11 g11 k11 q11 => ?_)
  obtain ⟨r1, r2⟩ := q11
  rw [← r1] at rr1
  refine A_istore_n dX3_readTrail_14 (by decide) rfl ?_
  refine A_iload_n dX3_readTrail_15 rfl ?_
  refine A_iconst dX3_readTrail_16 (by decide) ?_
  refine A_icmp_ne (tgt := 24) dX3_readTrail_17 (by decide) (fun h17 => ?_) (fun h17 => ?_)
  · skip
    refine A_aload_n dX3_readTrail_24 rfl ?_
    refine A_iload_n dX3_readTrail_25 rfl ?_
    refine A_vI1 (mj := mX3_readDeskUnlike) dX3_readTrail_26 hR.rm (by decide) ok_X3_readDeskUnlike mv_X3_readDeskUnlike ml_RX3_120 (by assumption) rfl rfl rfl (c_unlike (T := T) (p := tkB x n p) hO hn2 hby (tX_f hx (fun y hy => r2.1.1 y (by omega))) r2.2.1.1 (by omega) (by rw [r2.1.1 12 (by omega)]; exact h0) hw.1 (by omega)) (fun z26 M26 g26 k26 q26 => ?_)
    obtain ⟨u1, u2⟩ := q26
    have F2 := fr11_t r2.1 u2.1
    have rr2 := rdN_r x n (tkB x n p) (lo := 0) (hi := (oD T : Int) - 1) (by decide)
    refine A_istore_n dX3_readTrail_29 (by decide) rfl ?_
    refine A_iload_n dX3_readTrail_30 rfl ?_
    refine A_iconst dX3_readTrail_31 (by decide) ?_
    refine A_icmp_ne (tgt := 39) dX3_readTrail_32 (by decide) (fun h32 => ?_) (fun h32 => ?_)
    · skip
      have nc : ¬ (rdN x n (tkB x n p) 0 ((oD T : Int) - 1) = -1 ∨ rdN x n (tkB x n p) 0 ((oD T : Int) - 1) = rdN x n p 0 ((oD T : Int) - 1)) := by
        rw [← r1]
        intro q
        rw [if_pos q] at u1
        omega
      have u1 : z26 = rdN x n (tkB x n p) 0 ((oD T : Int) - 1) := by rw [← r1] at nc; rw [if_neg nc] at u1; exact u1
      refine A_aload_n dX3_readTrail_39 rfl ?_
      refine A_iconst dX3_readTrail_40 (by decide) ?_
      refine A_bipush dX3_readTrail_41 bp_99 (by decide) ?_
      refine A_vI2 (mj := mX3_readNumber) dX3_readTrail_43 hR.rm (by decide) ok_X3_readNumber mv_X3_readNumber ml_RX3_105 (by assumption) rfl rfl rfl (c_readNumber (p := tkB x n (tkB x n p)) hO hn2 hby (tX_f hx (fun y hy => F2.1 y (by omega))) u2.2.1.1 (by omega) (by decide)) (fun z43 M43 g43 k43 q43 => ?_)
      obtain ⟨v1, v2⟩ := q43
      have F3 := fr11_t F2 v2.1
      have hT3 := rT_11 hT F3
      obtain ⟨⟨s0, s1, s2, s3, s4⟩, s5, s6, s7⟩ := id hT3
      have m3 : M43 12 1 = oT T := s1
      refine A_istore_n dX3_readTrail_46 (by decide) rfl ?_
      refine A_iload_n dX3_readTrail_47 rfl ?_
      refine A_iconst dX3_readTrail_48 (by decide) ?_
      refine A_icmp_ne (tgt := 54) dX3_readTrail_49 (by decide) (fun h49 => ?_) (fun h49 => ?_)
      · skip
        refine A_aload_n dX3_readTrail_54 rfl ?_
        refine A_getR dX3_readTrail_55 fl_RX3_12 (by assumption) (by rfl) ?_
        refine A_iload_n dX3_readTrail_58 rfl ?_
        refine A_iload_n dX3_readTrail_59 rfl ?_
        refine A_iload_n dX3_readTrail_60 rfl ?_
        refine A_vV3 (mj := mX6_addTrail) dX3_readTrail_61 hR.rm (by decide) ok_X6_addTrail mv_X6_addTrail ml_RX3_123 (by assumption) rfl rfl rfl (c_addTrail rd (by omega) (by omega)) (fun M61 k61 q61 => ?_)
        skip
        refine A_iconst dX3_readTrail_64 (by decide) ?_
        exact A_zret hR dX3_readTrail_65 rfl (by first | exact Or.inl rfl | exact Or.inr rfl | omega) ⟨_, rfl, rt_1 (M1 := M43) (q := tkB x n (tkB x n (tkB x n p))) (v1 := z11) (v2 := z26) (v3 := z43) (by unfold rsR; rw [if_pos (by decide), if_neg (by omega), if_neg nc, show (if (5 : Int) = 5 then (99 : Int) else 9) = 99 from rfl, if_neg (by omega), ← r1, ← u1, ← v1]) F3 (by rw [v2.2.2.2 (by omega), u2.2.2.2 (by omega)]; exact r2.2.2.2 (by omega)) v2.2.1.1 (fun y hy => by rw [q61, upm_c (by omega), upm_c (by omega), upm_c (by omega), upm_c (by omega)]) (by
          have e0 : ∀ k : Int, k ≠ 1 → M61 12 k = M43 12 k := fun k hk => by rw [q61, upm_k hk, upm_c (by omega), upm_c (by omega), upm_c (by omega)]
          have b61 : ∀ y, y ≠ 12 → y ≠ 12 + 2 → y ≠ 12 + 3 → y ≠ 12 + 4 → M61 y = M43 y := fun y ya yb yc yd => by rw [q61, upm_c ya, upm_c yd, upm_c yc, upm_c yb]
          refine ⟨⟨by rw [e0 0 (by omega)]; exact s0, by rw [q61, upm_s, m3]; rfl, by rw [e0 2 (by omega)]; exact s2, by rw [e0 3 (by omega)]; exact s3, by rw [e0 4 (by omega)]; exact s4⟩, by rw [b61 (12 + 1) (by omega) (by omega) (by omega) (by omega)]; exact s5, fun k a b => ?_, by rw [b61 (12 + 5) (by omega) (by omega) (by omega) (by omega), b61 (12 + 6) (by omega) (by omega) (by omega) (by omega), b61 (12 + 7) (by omega) (by omega) (by omega) (by omega)]; exact s7⟩
          have b : k < ((oT T + 1 : Nat) : Int) := b
          refine ⟨by
            show M61 (12 + 2) k = if k = oT T then z11 else oA T k
            rw [q61, upm_c (by omega), upm_c (by omega), upm_c (by omega), upm_x, m3]
            by_cases q : k = oT T
            · rw [if_pos ⟨rfl, q⟩, if_pos q]
            · rw [if_neg (fun z => q z.2), if_neg q]; exact (s6 k a (by omega)).1, by
            show M61 (12 + 3) k = if k = oT T then z26 else oB T k
            rw [q61, upm_c (by omega), upm_c (by omega), upm_x, m3]
            by_cases q : k = oT T
            · rw [if_pos ⟨rfl, q⟩, if_pos q]
            · rw [if_neg (fun z => q z.2), if_neg q, upm_c (by omega)]; exact (s6 k a (by omega)).2.1, by
            show M61 (12 + 4) k = if k = oT T then z43 else oS T k
            rw [q61, upm_c (by omega), upm_x, m3]
            by_cases q : k = oT T
            · rw [if_pos ⟨rfl, q⟩, if_pos q]
            · rw [if_neg (fun z => q z.2), if_neg q, upm_c (by omega), upm_c (by omega)]; exact (s6 k a (by omega)).2.2⟩)⟩
      · skip
        refine A_iconst dX3_readTrail_52 (by decide) ?_
        exact A_zret hR dX3_readTrail_53 rfl (by first | exact Or.inl rfl | exact Or.inr rfl | omega) ⟨_, rfl, rt_0 (f := tkA x n (tkB x n (tkB x n p))) (by unfold rsR; rw [if_pos (by decide), if_neg (by omega), if_neg nc, show (if (5 : Int) = 5 then (99 : Int) else 9) = 99 from rfl, if_pos (by omega)]) F3 (v2.2.2.1 (by omega))⟩
    · skip
      have cc : rdN x n (tkB x n p) 0 ((oD T : Int) - 1) = -1 ∨ rdN x n (tkB x n p) 0 ((oD T : Int) - 1) = rdN x n p 0 ((oD T : Int) - 1) := by
        rw [← r1]
        by_cases q : rdN x n (tkB x n p) 0 ((oD T : Int) - 1) = -1 ∨ rdN x n (tkB x n p) 0 ((oD T : Int) - 1) = z11
        · exact q
        · rw [if_neg q] at u1; omega
      refine A_iconst dX3_readTrail_35 (by decide) ?_
      refine A_goto (tgt := 46) dX3_readTrail_36 (by decide) ?_
      refine A_istore_n dX3_readTrail_46 (by decide) rfl ?_
      refine A_iload_n dX3_readTrail_47 rfl ?_
      refine A_iconst dX3_readTrail_48 (by decide) ?_
      refine A_icmp_ne (tgt := 54) dX3_readTrail_49 (by decide) (fun h => absurd rfl h) (fun _ => ?_)
      refine A_iconst dX3_readTrail_52 (by decide) ?_
      exact A_zret hR dX3_readTrail_53 rfl (Or.inl rfl) ⟨_, rfl, rt_0 (f := tkA x n (tkB x n p)) (by unfold rsR; rw [if_pos (by decide), if_neg (by omega), if_pos cc]) F2 (u2.2.2.1 (by omega))⟩
  · skip
    refine A_iconst dX3_readTrail_20 (by decide) ?_
    refine A_goto (tgt := 29) dX3_readTrail_21 (by decide) ?_
    refine A_istore_n dX3_readTrail_29 (by decide) rfl ?_
    refine A_iload_n dX3_readTrail_30 rfl ?_
    refine A_iconst dX3_readTrail_31 (by decide) ?_
    refine A_icmp_ne (tgt := 39) dX3_readTrail_32 (by decide) (fun h => absurd rfl h) (fun _ => ?_)
    refine A_iconst dX3_readTrail_35 (by decide) ?_
    refine A_goto (tgt := 46) dX3_readTrail_36 (by decide) ?_
    refine A_istore_n dX3_readTrail_46 (by decide) rfl ?_
    refine A_iload_n dX3_readTrail_47 rfl ?_
    refine A_iconst dX3_readTrail_48 (by decide) ?_
    refine A_icmp_ne (tgt := 54) dX3_readTrail_49 (by decide) (fun h => absurd rfl h) (fun _ => ?_)
    refine A_iconst dX3_readTrail_52 (by decide) ?_
    exact A_zret hR dX3_readTrail_53 rfl (Or.inl rfl) ⟨_, rfl, rt_0 (f := tkA x n p) (by unfold rsR; rw [if_pos (by decide), if_pos (by omega)]) r2.1 (r2.2.2.1 (by omega))⟩

set_option maxRecDepth 100000 in
set_option maxHeartbeats 4000000 in
theorem c_readFile {E : EN} {l : Launch} {M : Mem} {n p : Nat} {x : Fn} {T : TD} (hO : isRdr E) (hn2 : n ≤ 200) (hby : ∀ k : Int, 0 ≤ k → k < n → 0 ≤ x k ∧ x k ≤ 255) (hx : tX M n x) (hp : M 11 5 = p) (hp2 : p ≤ n) (hT : rT M 12 T) (hw : wN3 T) (hc : oF T ≠ 6) : Cn E l mX3_readFile 4 [vR 11] M (fun r M1 => ∃ z, r = vI z ∧ rrP M M1 x n p 6 T z) := by
  refine Cn.of (by decide) rfl (Nat.le_of_ble_eq_true rfl) 3 rfl (fun oka okm G hR => ?_)
  obtain ⟨rt, rd, ra⟩ := id hO
  obtain ⟨ta, tb⟩ := id rt
  obtain ⟨b0, b1, b2, b3, b4, b5, b6, b7⟩ := id rd
  obtain ⟨⟨h0, -⟩, -⟩ := id hT
  have t1 := tk_r (x := x) hp2
  have t2 := tk_r (x := x) (show tkB x n p ≤ n by omega)
  have rr1 := rdN_r x n p (lo := 0) (hi := (oD T : Int) - 1) (by decide)
  have w3 := hw.2
  have w2 := hw.1
  refine A_aload_n dX3_readFile_0 rfl ?_
  refine A_iconst dX3_readFile_1 (by decide) ?_
  refine A_aload_n dX3_readFile_2 rfl ?_
  refine A_getR dX3_readFile_3 fl_RX3_12 (by assumption) (by rfl) ?_
  refine A_getI (ki := 0) dX3_readFile_6 fl_RX3_113 (by assumption) (by rfl) rfl ?_
  rw [h0]
  refine A_iconst dX3_readFile_9 (by decide) ?_
  refine A_isub dX3_readFile_10 ⟨by omega, by omega⟩ ?_
  refine A_vI2 (mj := mX3_readNumber) dX3_readFile_11 hR.rm (by decide) ok_X3_readNumber mv_X3_readNumber ml_RX3_105 (by assumption) rfl rfl rfl (c_readNumber hO hn2 hby hx hp hp2 (by decide)) (fun z11 M11 g11 k11 q11 => ?_)
  obtain ⟨r1, r2⟩ := q11
  rw [← r1] at rr1
  refine A_istore_n dX3_readFile_14 (by decide) rfl ?_
  refine A_iload_n dX3_readFile_15 rfl ?_
  refine A_iconst dX3_readFile_16 (by decide) ?_
  refine A_icmp_ne (tgt := 24) dX3_readFile_17 (by decide) (fun h17 => ?_) (fun h17 => ?_)
  · skip
    refine A_aload_n dX3_readFile_24 rfl ?_
    refine A_iload_n dX3_readFile_25 rfl ?_
    refine A_vI1 (mj := mX3_readDeskUnlike) dX3_readFile_26 hR.rm (by decide) ok_X3_readDeskUnlike mv_X3_readDeskUnlike ml_RX3_120 (by assumption) rfl rfl rfl (c_unlike (T := T) (p := tkB x n p) hO hn2 hby (tX_f hx (fun y hy => r2.1.1 y (by omega))) r2.2.1.1 (by omega) (by rw [r2.1.1 12 (by omega)]; exact h0) hw.1 (by omega)) (fun z26 M26 g26 k26 q26 => ?_)
    obtain ⟨u1, u2⟩ := q26
    have F2 := fr11_t r2.1 u2.1
    have rr2 := rdN_r x n (tkB x n p) (lo := 0) (hi := (oD T : Int) - 1) (by decide)
    refine A_istore_n dX3_readFile_29 (by decide) rfl ?_
    refine A_iload_n dX3_readFile_30 rfl ?_
    refine A_iconst dX3_readFile_31 (by decide) ?_
    refine A_icmp_ne (tgt := 39) dX3_readFile_32 (by decide) (fun h32 => ?_) (fun h32 => ?_)
    · skip
      have nc : ¬ (rdN x n (tkB x n p) 0 ((oD T : Int) - 1) = -1 ∨ rdN x n (tkB x n p) 0 ((oD T : Int) - 1) = rdN x n p 0 ((oD T : Int) - 1)) := by
        rw [← r1]
        intro q
        rw [if_pos q] at u1
        omega
      have u1 : z26 = rdN x n (tkB x n p) 0 ((oD T : Int) - 1) := by rw [← r1] at nc; rw [if_neg nc] at u1; exact u1
      refine A_aload_n dX3_readFile_39 rfl ?_
      refine A_iconst dX3_readFile_40 (by decide) ?_
      refine A_bipush dX3_readFile_41 bp_9 (by decide) ?_
      refine A_vI2 (mj := mX3_readNumber) dX3_readFile_43 hR.rm (by decide) ok_X3_readNumber mv_X3_readNumber ml_RX3_105 (by assumption) rfl rfl rfl (c_readNumber (p := tkB x n (tkB x n p)) hO hn2 hby (tX_f hx (fun y hy => F2.1 y (by omega))) u2.2.1.1 (by omega) (by decide)) (fun z43 M43 g43 k43 q43 => ?_)
      obtain ⟨v1, v2⟩ := q43
      have F3 := fr11_t F2 v2.1
      have hT3 := rT_11 hT F3
      obtain ⟨⟨s0, s1, s2, s3, s4⟩, s5, s6, s7⟩ := id hT3
      have m3 : M43 12 2 = oF T := s2
      refine A_istore_n dX3_readFile_46 (by decide) rfl ?_
      refine A_iload_n dX3_readFile_47 rfl ?_
      refine A_iconst dX3_readFile_48 (by decide) ?_
      refine A_icmp_ne (tgt := 54) dX3_readFile_49 (by decide) (fun h49 => ?_) (fun h49 => ?_)
      · skip
        refine A_aload_n dX3_readFile_54 rfl ?_
        refine A_getR dX3_readFile_55 fl_RX3_12 (by assumption) (by rfl) ?_
        refine A_iload_n dX3_readFile_58 rfl ?_
        refine A_iload_n dX3_readFile_59 rfl ?_
        refine A_iload_n dX3_readFile_60 rfl ?_
        refine A_vV3 (mj := mX6_addFile) dX3_readFile_61 hR.rm (by decide) ok_X6_addFile mv_X6_addFile ml_RX3_127 (by assumption) rfl rfl rfl (c_addFile rd (by omega) (by omega)) (fun M61 k61 q61 => ?_)
        skip
        refine A_iconst dX3_readFile_64 (by decide) ?_
        exact A_zret hR dX3_readFile_65 rfl (by first | exact Or.inl rfl | exact Or.inr rfl | omega) ⟨_, rfl, rt_1 (M1 := M43) (q := tkB x n (tkB x n (tkB x n p))) (v1 := z11) (v2 := z26) (v3 := z43) (by unfold rsR; rw [if_pos (by decide), if_neg (by omega), if_neg nc, show (if (6 : Int) = 5 then (99 : Int) else 9) = 9 from rfl, if_neg (by omega), ← r1, ← u1, ← v1]) F3 (by rw [v2.2.2.2 (by omega), u2.2.2.2 (by omega)]; exact r2.2.2.2 (by omega)) v2.2.1.1 (fun y hy => by rw [q61, upm_c (by omega), upm_c (by omega), upm_c (by omega), upm_c (by omega)]) (by
          have e0 : ∀ k : Int, k ≠ 2 → M61 12 k = M43 12 k := fun k hk => by rw [q61, upm_k hk, upm_c (by omega), upm_c (by omega), upm_c (by omega)]
          have b61 : ∀ y, y ≠ 12 → y ≠ 12 + 5 → y ≠ 12 + 6 → y ≠ 12 + 7 → M61 y = M43 y := fun y ya yb yc yd => by rw [q61, upm_c ya, upm_c yd, upm_c yc, upm_c yb]
          refine ⟨⟨by rw [e0 0 (by omega)]; exact s0, by rw [e0 1 (by omega)]; exact s1, by rw [q61, upm_s, m3]; rfl, by rw [e0 3 (by omega)]; exact s3, by rw [e0 4 (by omega)]; exact s4⟩, by rw [b61 (12 + 1) (by omega) (by omega) (by omega) (by omega)]; exact s5, by rw [b61 (12 + 2) (by omega) (by omega) (by omega) (by omega), b61 (12 + 3) (by omega) (by omega) (by omega) (by omega), b61 (12 + 4) (by omega) (by omega) (by omega) (by omega)]; exact s6, fun k a b => ?_⟩
          have b : k < ((oF T + 1 : Nat) : Int) := b
          refine ⟨by
            show M61 (12 + 5) k = if k = oF T then z11 else oSt T k
            rw [q61, upm_c (by omega), upm_c (by omega), upm_c (by omega), upm_x, m3]
            by_cases q : k = oF T
            · rw [if_pos ⟨rfl, q⟩, if_pos q]
            · rw [if_neg (fun z => q z.2), if_neg q]; exact (s7 k a (by omega)).1, by
            show M61 (12 + 6) k = if k = oF T then z26 else oE T k
            rw [q61, upm_c (by omega), upm_c (by omega), upm_x, m3]
            by_cases q : k = oF T
            · rw [if_pos ⟨rfl, q⟩, if_pos q]
            · rw [if_neg (fun z => q z.2), if_neg q, upm_c (by omega)]; exact (s7 k a (by omega)).2.1, by
            show M61 (12 + 7) k = if k = oF T then z43 else oSw T k
            rw [q61, upm_c (by omega), upm_x, m3]
            by_cases q : k = oF T
            · rw [if_pos ⟨rfl, q⟩, if_pos q]
            · rw [if_neg (fun z => q z.2), if_neg q, upm_c (by omega), upm_c (by omega)]; exact (s7 k a (by omega)).2.2⟩)⟩
      · skip
        refine A_iconst dX3_readFile_52 (by decide) ?_
        exact A_zret hR dX3_readFile_53 rfl (by first | exact Or.inl rfl | exact Or.inr rfl | omega) ⟨_, rfl, rt_0 (f := tkA x n (tkB x n (tkB x n p))) (by unfold rsR; rw [if_pos (by decide), if_neg (by omega), if_neg nc, show (if (6 : Int) = 5 then (99 : Int) else 9) = 9 from rfl, if_pos (by omega)]) F3 (v2.2.2.1 (by omega))⟩
    · skip
      have cc : rdN x n (tkB x n p) 0 ((oD T : Int) - 1) = -1 ∨ rdN x n (tkB x n p) 0 ((oD T : Int) - 1) = rdN x n p 0 ((oD T : Int) - 1) := by
        rw [← r1]
        by_cases q : rdN x n (tkB x n p) 0 ((oD T : Int) - 1) = -1 ∨ rdN x n (tkB x n p) 0 ((oD T : Int) - 1) = z11
        · exact q
        · rw [if_neg q] at u1; omega
      refine A_iconst dX3_readFile_35 (by decide) ?_
      refine A_goto (tgt := 46) dX3_readFile_36 (by decide) ?_
      refine A_istore_n dX3_readFile_46 (by decide) rfl ?_
      refine A_iload_n dX3_readFile_47 rfl ?_
      refine A_iconst dX3_readFile_48 (by decide) ?_
      refine A_icmp_ne (tgt := 54) dX3_readFile_49 (by decide) (fun h => absurd rfl h) (fun _ => ?_)
      refine A_iconst dX3_readFile_52 (by decide) ?_
      exact A_zret hR dX3_readFile_53 rfl (Or.inl rfl) ⟨_, rfl, rt_0 (f := tkA x n (tkB x n p)) (by unfold rsR; rw [if_pos (by decide), if_neg (by omega), if_pos cc]) F2 (u2.2.2.1 (by omega))⟩
  · skip
    refine A_iconst dX3_readFile_20 (by decide) ?_
    refine A_goto (tgt := 29) dX3_readFile_21 (by decide) ?_
    refine A_istore_n dX3_readFile_29 (by decide) rfl ?_
    refine A_iload_n dX3_readFile_30 rfl ?_
    refine A_iconst dX3_readFile_31 (by decide) ?_
    refine A_icmp_ne (tgt := 39) dX3_readFile_32 (by decide) (fun h => absurd rfl h) (fun _ => ?_)
    refine A_iconst dX3_readFile_35 (by decide) ?_
    refine A_goto (tgt := 46) dX3_readFile_36 (by decide) ?_
    refine A_istore_n dX3_readFile_46 (by decide) rfl ?_
    refine A_iload_n dX3_readFile_47 rfl ?_
    refine A_iconst dX3_readFile_48 (by decide) ?_
    refine A_icmp_ne (tgt := 54) dX3_readFile_49 (by decide) (fun h => absurd rfl h) (fun _ => ?_)
    refine A_iconst dX3_readFile_52 (by decide) ?_
    exact A_zret hR dX3_readFile_53 rfl (Or.inl rfl) ⟨_, rfl, rt_0 (f := tkA x n p) (by unfold rsR; rw [if_pos (by decide), if_pos (by omega)]) r2.1 (r2.2.2.1 (by omega))⟩

