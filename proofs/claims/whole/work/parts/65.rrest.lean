/-! THE READER: the rest of a line -/
def frD (M M1 : Mem) : Prop := (∀ y, y < 11 ∨ 20 ≤ y → M1 y = M y) ∧ M1 11 3 = M 11 3
def rrP (M M1 : Mem) (x : Fn) (n p : Nat) (w : Int) (T : TD) (z : Int) : Prop := frD M M1 ∧ ((rsR x n p w (oD T)).1 ≠ -1 → z = 0 ∧ M1 11 2 = (rsR x n p w (oD T)).1) ∧ ((rsR x n p w (oD T)).1 = -1 → z = 1 ∧ M1 11 2 = M 11 2 ∧ M1 11 5 = (rsR x n p w (oD T)).2.1 ∧ rT M1 12 (apL w (rsR x n p w (oD T)).2.2.1 (rsR x n p w (oD T)).2.2.2.1 (rsR x n p w (oD T)).2.2.2.2 T))
theorem rT_11 {M M1 : Mem} {T : TD} (h : rT M 12 T) (f : fr11 M M1) : rT M1 12 T := rT_fr (c := 11) (n := 1) h (fun y hy => f.1 y (by omega)) (Or.inr (by omega))
theorem rs_e {x : Fn} {n q D : Nat} {w lo hi : Int} (hw : ¬ (w = 5 ∨ w = 6)) (hlo : lo = if w = 0 then 2 else 0) (hhi : hi = if w = 0 then 8 else if w = 7 then 9 else if w = 8 then 99 else (D : Int) - 1) : rsR x n q w D = if rdN x n q lo hi = -1 then (((tkA x n q : Nat) : Int), (0 : Nat), (0 : Int), (0 : Int), (0 : Int)) else (-1, tkB x n q, rdN x n q lo hi, 0, 0) := by
  unfold rsR
  rw [if_neg hw, ← hlo, ← hhi]
/-- refused -/
theorem rr_0 {M M1 : Mem} {x : Fn} {n p : Nat} {w lo hi z : Int} {T : TD} (hw : ¬ (w = 5 ∨ w = 6)) (hlo : lo = if w = 0 then 2 else 0) (hhi : hi = if w = 0 then 8 else if w = 7 then 9 else if w = 8 then 99 else (oD T : Int) - 1) (h : nmP M M1 x n p z) (hz : z = rdN x n p lo hi) (h1 : z = -1) : rrP M M1 x n p w T 0 := by
  have e := rs_e (x := x) (n := n) (q := p) hw hlo hhi
  rw [if_pos (by rw [← hz]; exact h1)] at e
  obtain ⟨f1, f2, f3, f4⟩ := h
  unfold rrP
  rw [e]
  exact ⟨⟨fun y hy => f1.1 y (by omega), f1.2 3 (by omega) (by omega) (by omega)⟩, fun _ => ⟨rfl, f3 h1⟩, fun q => by have q : ((tkA x n p : Nat) : Int) = -1 := q; omega⟩
/-- read -/
theorem rr_1 {M M1 M2 : Mem} {x : Fn} {n p : Nat} {w lo hi z : Int} {T : TD} (hw : ¬ (w = 5 ∨ w = 6)) (hlo : lo = if w = 0 then 2 else 0) (hhi : hi = if w = 0 then 8 else if w = 7 then 9 else if w = 8 then 99 else (oD T : Int) - 1) (h : nmP M M1 x n p z) (hz : z = rdN x n p lo hi) (h1 : z ≠ -1) (f : ∀ y, y < 12 ∨ 20 ≤ y → M2 y = M1 y) (hT : rT M2 12 (apL w z 0 0 T)) : rrP M M2 x n p w T 1 := by
  have e := rs_e (x := x) (n := n) (q := p) hw hlo hhi
  rw [if_neg (by rw [← hz]; exact h1), ← hz] at e
  obtain ⟨f1, f2, f3, f4⟩ := h
  unfold rrP
  rw [e]
  exact ⟨⟨fun y hy => by rw [f y (by omega)]; exact f1.1 y (by omega), by rw [f 11 (by omega)]; exact f1.2 3 (by omega) (by omega) (by omega)⟩, fun q => absurd rfl q, fun _ => ⟨rfl, by rw [f 11 (by omega)]; exact f4 h1, by rw [f 11 (by omega)]; exact f2.1, hT⟩⟩
set_option maxRecDepth 100000 in
set_option maxHeartbeats 4000000 in
theorem c_readFade {E : EN} {l : Launch} {M : Mem} {n p : Nat} {x : Fn} {T : TD} (hO : isRdr E) (hn2 : n ≤ 200) (hby : ∀ k : Int, 0 ≤ k → k < n → 0 ≤ x k ∧ x k ≤ 255) (hx : tX M n x) (hp : M 11 5 = p) (hp2 : p ≤ n) (hT : rT M 12 T) : Cn E l mX3_readFade 3 [vR 11] M (fun r M1 => ∃ z, r = vI z ∧ rrP M M1 x n p 7 T z) := by
  refine Cn.of (by decide) rfl (Nat.le_of_ble_eq_true rfl) 1 rfl (fun oka okm G hR => ?_)
  obtain ⟨rt, rd, ra⟩ := id hO
  obtain ⟨ta, tb⟩ := id rt
  obtain ⟨b0, b1, b2, b3, b4, b5, b6, b7⟩ := id rd
  refine A_aload_n dX3_readFade_0 rfl ?_
  refine A_iconst dX3_readFade_1 (by decide) ?_
  refine A_bipush dX3_readFade_2 bp_9 (by decide) ?_
  refine A_vI2 (mj := mX3_readNumber) dX3_readFade_4 hR.rm (by decide) ok_X3_readNumber mv_X3_readNumber ml_RX3_105 (by assumption) rfl rfl rfl (c_readNumber hO hn2 hby hx hp hp2 (by decide)) (fun z4 M4 g4 k4 q4 => ?_)
  obtain ⟨r1, r2⟩ := q4
  have rr := rdN_r x n p (lo := 0) (hi := 9) (by decide)
  rw [← r1] at rr
  have hT1 := rT_11 hT r2.1
  obtain ⟨⟨s0, s1, s2, s3, s4⟩, s5, s6, s7⟩ := id hT1
  refine A_istore_n dX3_readFade_7 (by decide) rfl ?_
  refine A_iload_n dX3_readFade_8 rfl ?_
  refine A_iconst dX3_readFade_9 (by decide) ?_
  refine A_icmp_ne (tgt := 15) dX3_readFade_10 (by decide) (fun h10 => ?_) (fun h10 => ?_)
  · skip
    refine A_aload_n dX3_readFade_15 rfl ?_
    refine A_getR dX3_readFade_16 fl_RX3_12 (by assumption) (by rfl) ?_
    refine A_iload_n dX3_readFade_19 rfl ?_
    refine A_putI (ki := 3) dX3_readFade_20 fl_RX3_130 fi6_3 (by assumption) (by rfl) rfl (fun M20 e20 k20 => ?_)
    refine A_iconst dX3_readFade_23 (by decide) ?_
    exact A_zret hR dX3_readFade_24 rfl (by first | exact Or.inl rfl | exact Or.inr rfl | omega) ⟨_, rfl, rr_1 (M2 := M20) (by decide) (by decide) (by repeat (first | rw [if_pos (by decide)] | rw [if_neg (by decide)])) r2 r1 (by omega) (fun y hy => by rw [e20, upm_c (by omega)]) ⟨⟨by rw [e20, upm_k (by omega)]; exact s0, by rw [e20, upm_k (by omega)]; exact s1, by rw [e20, upm_k (by omega)]; exact s2, by rw [e20, upm_s]; rfl, by rw [e20, upm_k (by omega)]; exact s4⟩, by rw [e20, upm_c (by omega)]; exact s5, by rw [e20, upm_c (by omega), upm_c (by omega), upm_c (by omega)]; exact s6, by rw [e20, upm_c (by omega), upm_c (by omega), upm_c (by omega)]; exact s7⟩⟩
  · skip
    refine A_iconst dX3_readFade_13 (by decide) ?_
    exact A_zret hR dX3_readFade_14 rfl (by first | exact Or.inl rfl | exact Or.inr rfl | omega) ⟨_, rfl, rr_0 (by decide) (by decide) (by repeat (first | rw [if_pos (by decide)] | rw [if_neg (by decide)])) r2 r1 (by omega)⟩

set_option maxRecDepth 100000 in
set_option maxHeartbeats 4000000 in
theorem c_readWinter {E : EN} {l : Launch} {M : Mem} {n p : Nat} {x : Fn} {T : TD} (hO : isRdr E) (hn2 : n ≤ 200) (hby : ∀ k : Int, 0 ≤ k → k < n → 0 ≤ x k ∧ x k ≤ 255) (hx : tX M n x) (hp : M 11 5 = p) (hp2 : p ≤ n) (hT : rT M 12 T) : Cn E l mX3_readWinter 3 [vR 11] M (fun r M1 => ∃ z, r = vI z ∧ rrP M M1 x n p 8 T z) := by
  refine Cn.of (by decide) rfl (Nat.le_of_ble_eq_true rfl) 1 rfl (fun oka okm G hR => ?_)
  obtain ⟨rt, rd, ra⟩ := id hO
  obtain ⟨ta, tb⟩ := id rt
  obtain ⟨b0, b1, b2, b3, b4, b5, b6, b7⟩ := id rd
  refine A_aload_n dX3_readWinter_0 rfl ?_
  refine A_iconst dX3_readWinter_1 (by decide) ?_
  refine A_bipush dX3_readWinter_2 bp_99 (by decide) ?_
  refine A_vI2 (mj := mX3_readNumber) dX3_readWinter_4 hR.rm (by decide) ok_X3_readNumber mv_X3_readNumber ml_RX3_105 (by assumption) rfl rfl rfl (c_readNumber hO hn2 hby hx hp hp2 (by decide)) (fun z4 M4 g4 k4 q4 => ?_)
  obtain ⟨r1, r2⟩ := q4
  have rr := rdN_r x n p (lo := 0) (hi := 99) (by decide)
  rw [← r1] at rr
  have hT1 := rT_11 hT r2.1
  obtain ⟨⟨s0, s1, s2, s3, s4⟩, s5, s6, s7⟩ := id hT1
  refine A_istore_n dX3_readWinter_7 (by decide) rfl ?_
  refine A_iload_n dX3_readWinter_8 rfl ?_
  refine A_iconst dX3_readWinter_9 (by decide) ?_
  refine A_icmp_ne (tgt := 15) dX3_readWinter_10 (by decide) (fun h10 => ?_) (fun h10 => ?_)
  · skip
    refine A_aload_n dX3_readWinter_15 rfl ?_
    refine A_getR dX3_readWinter_16 fl_RX3_12 (by assumption) (by rfl) ?_
    refine A_iload_n dX3_readWinter_19 rfl ?_
    refine A_putI (ki := 4) dX3_readWinter_20 fl_RX3_132 fi6_4 (by assumption) (by rfl) rfl (fun M20 e20 k20 => ?_)
    refine A_iconst dX3_readWinter_23 (by decide) ?_
    exact A_zret hR dX3_readWinter_24 rfl (by first | exact Or.inl rfl | exact Or.inr rfl | omega) ⟨_, rfl, rr_1 (M2 := M20) (by decide) (by decide) (by repeat (first | rw [if_pos (by decide)] | rw [if_neg (by decide)])) r2 r1 (by omega) (fun y hy => by rw [e20, upm_c (by omega)]) ⟨⟨by rw [e20, upm_k (by omega)]; exact s0, by rw [e20, upm_k (by omega)]; exact s1, by rw [e20, upm_k (by omega)]; exact s2, by rw [e20, upm_k (by omega)]; exact s3, by rw [e20, upm_s]; rfl⟩, by rw [e20, upm_c (by omega)]; exact s5, by rw [e20, upm_c (by omega), upm_c (by omega), upm_c (by omega)]; exact s6, by rw [e20, upm_c (by omega), upm_c (by omega), upm_c (by omega)]; exact s7⟩⟩
  · skip
    refine A_iconst dX3_readWinter_13 (by decide) ?_
    exact A_zret hR dX3_readWinter_14 rfl (by first | exact Or.inl rfl | exact Or.inr rfl | omega) ⟨_, rfl, rr_0 (by decide) (by decide) (by repeat (first | rw [if_pos (by decide)] | rw [if_neg (by decide)])) r2 r1 (by omega)⟩

set_option maxRecDepth 100000 in
set_option maxHeartbeats 4000000 in
theorem c_readKind {E : EN} {l : Launch} {M : Mem} {n p : Nat} {x : Fn} {T : TD} (hO : isRdr E) (hn2 : n ≤ 200) (hby : ∀ k : Int, 0 ≤ k → k < n → 0 ≤ x k ∧ x k ≤ 255) (hx : tX M n x) (hp : M 11 5 = p) (hp2 : p ≤ n) (hT : rT M 12 T) {kd : Int} (hk : 0 ≤ kd ∧ kd ≤ 3) (hD2 : 2 ≤ oD T ∧ oD T ≤ 8) : Cn E l mX3_readKind 3 [vR 11, vI kd] M (fun r M1 => ∃ z, r = vI z ∧ rrP M M1 x n p (kd + 1) T z) := by
  refine Cn.of (by decide) rfl (Nat.le_of_ble_eq_true rfl) 1 rfl (fun oka okm G hR => ?_)
  obtain ⟨rt, rd, ra⟩ := id hO
  obtain ⟨ta, tb⟩ := id rt
  obtain ⟨b0, b1, b2, b3, b4, b5, b6, b7⟩ := id rd
  obtain ⟨⟨h0, -⟩, -⟩ := id hT
  refine A_aload_n dX3_readKind_0 rfl ?_
  refine A_iconst dX3_readKind_1 (by decide) ?_
  refine A_aload_n dX3_readKind_2 rfl ?_
  refine A_getR dX3_readKind_3 fl_RX3_12 (by assumption) (by rfl) ?_
  refine A_getI (ki := 0) dX3_readKind_6 fl_RX3_113 (by assumption) (by rfl) rfl ?_
  rw [h0]
  refine A_iconst dX3_readKind_9 (by decide) ?_
  refine A_isub dX3_readKind_10 ⟨by omega, by omega⟩ ?_
  refine A_vI2 (mj := mX3_readNumber) dX3_readKind_11 hR.rm (by decide) ok_X3_readNumber mv_X3_readNumber ml_RX3_105 (by assumption) rfl rfl rfl (c_readNumber hO hn2 hby hx hp hp2 (by decide)) (fun z11 M11 g11 k11 q11 => ?_)
  obtain ⟨r1, r2⟩ := q11
  have rr := rdN_r x n p (lo := 0) (hi := (oD T : Int) - 1) (by decide)
  rw [← r1] at rr
  have hT1 := rT_11 hT r2.1
  obtain ⟨⟨s0, s1, s2, s3, s4⟩, s5, s6, s7⟩ := id hT1
  refine A_istore_n dX3_readKind_14 (by decide) rfl ?_
  refine A_iload_n dX3_readKind_15 rfl ?_
  refine A_iconst dX3_readKind_16 (by decide) ?_
  refine A_icmp_ne (tgt := 22) dX3_readKind_17 (by decide) (fun h17 => ?_) (fun h17 => ?_)
  · skip
    refine A_aload_n dX3_readKind_22 rfl ?_
    refine A_getR dX3_readKind_23 fl_RX3_12 (by assumption) (by rfl) ?_
    refine A_getR dX3_readKind_26 fl_RX3_116 (by assumption) (by rfl) ?_
    refine A_iload_n dX3_readKind_29 rfl ?_
    refine A_iload_n dX3_readKind_30 rfl ?_
    refine A_iast dX3_readKind_31 (by assumption) (by omega) (by omega) (fun M31 e31 k31 => ?_)
    refine A_iconst dX3_readKind_32 (by decide) ?_
    exact A_zret hR dX3_readKind_33 rfl (by first | exact Or.inl rfl | exact Or.inr rfl | omega) ⟨_, rfl, rr_1 (M2 := M31) (by omega) (by rw [if_neg (by omega)]) (by rw [if_neg (by omega), if_neg (by omega), if_neg (by omega)]) r2 r1 (by omega) (fun y hy => by rw [e31, upm_c (by omega)]) (by
        unfold apL
        rw [if_neg (by omega), if_neg (by omega), if_neg (by omega), if_neg (by omega), if_neg (by omega)]
        refine ⟨by rw [e31, upm_c (by omega)]; exact ⟨s0, s1, s2, s3, s4⟩, fun k a b => ?_, by rw [e31, upm_c (by omega), upm_c (by omega), upm_c (by omega)]; exact s6, by rw [e31, upm_c (by omega), upm_c (by omega), upm_c (by omega)]; exact s7⟩
        show _ = if k = z11 then kd + 1 - 1 else oK T k
        rw [e31, upm_x]
        by_cases e : k = z11
        · rw [if_pos ⟨rfl, e⟩, if_pos e]; omega
        · rw [if_neg (fun z => e z.2), if_neg e]; exact s5 k a b)⟩
  · skip
    refine A_iconst dX3_readKind_20 (by decide) ?_
    exact A_zret hR dX3_readKind_21 rfl (by first | exact Or.inl rfl | exact Or.inr rfl | omega) ⟨_, rfl, rr_0 (by omega) (by rw [if_neg (by omega)]) (by rw [if_neg (by omega), if_neg (by omega), if_neg (by omega)]) r2 r1 (by omega)⟩

set_option maxRecDepth 100000 in
set_option maxHeartbeats 4000000 in
theorem c_readOffice {E : EN} {l : Launch} {M : Mem} {n p : Nat} {x : Fn} {T : TD} (hO : isRdr E) (hn2 : n ≤ 200) (hby : ∀ k : Int, 0 ≤ k → k < n → 0 ≤ x k ∧ x k ≤ 255) (hx : tX M n x) (hp : M 11 5 = p) (hp2 : p ≤ n) (hT : rT M 12 T) : Cn E l mX3_readOffice 3 [vR 11] M (fun r M1 => ∃ z, r = vI z ∧ rrP M M1 x n p 0 T z) := by
  refine Cn.of (by decide) rfl (Nat.le_of_ble_eq_true rfl) 1 rfl (fun oka okm G hR => ?_)
  obtain ⟨rt, rd, ra⟩ := id hO
  obtain ⟨ta, tb⟩ := id rt
  obtain ⟨b0, b1, b2, b3, b4, b5, b6, b7⟩ := id rd
  refine A_aload_n dX3_readOffice_0 rfl ?_
  refine A_iconst dX3_readOffice_1 (by decide) ?_
  refine A_bipush dX3_readOffice_2 bp_8 (by decide) ?_
  refine A_vI2 (mj := mX3_readNumber) dX3_readOffice_4 hR.rm (by decide) ok_X3_readNumber mv_X3_readNumber ml_RX3_105 (by assumption) rfl rfl rfl (c_readNumber hO hn2 hby hx hp hp2 (by decide)) (fun z4 M4 g4 k4 q4 => ?_)
  obtain ⟨r1, r2⟩ := q4
  have rr := rdN_r x n p (lo := 2) (hi := 8) (by decide)
  rw [← r1] at rr
  have hT1 := rT_11 hT r2.1
  obtain ⟨⟨s0, s1, s2, s3, s4⟩, s5, s6, s7⟩ := id hT1
  refine A_istore_n dX3_readOffice_7 (by decide) rfl ?_
  refine A_iload_n dX3_readOffice_8 rfl ?_
  refine A_iconst dX3_readOffice_9 (by decide) ?_
  refine A_icmp_ne (tgt := 15) dX3_readOffice_10 (by decide) (fun h10 => ?_) (fun h10 => ?_)
  · skip
    refine A_aload_n dX3_readOffice_15 rfl ?_
    refine A_getR dX3_readOffice_16 fl_RX3_12 (by assumption) (by rfl) ?_
    refine A_iload_n dX3_readOffice_19 rfl ?_
    refine A_vV1 (mj := mX6_becomeNew) dX3_readOffice_20 hR.rm (by decide) ok_X6_becomeNew mv_X6_becomeNew ml_RX3_109 (by assumption) rfl rfl rfl (c_becomeNew rd) (fun M20 k20 q20 => ?_)
    skip
    refine A_iconst dX3_readOffice_23 (by decide) ?_
    exact A_zret hR dX3_readOffice_24 rfl (by first | exact Or.inl rfl | exact Or.inr rfl | omega) ⟨_, rfl, rr_1 (M2 := M20) (by decide) (by decide) (by repeat (first | rw [if_pos (by decide)] | rw [if_neg (by decide)])) r2 r1 (by omega) (fun y hy => by rw [q20, flm_o (by omega), upm_c (by omega), upm_c (by omega), upm_c (by omega), upm_c (by omega), upm_c (by omega)]) (by
        have e0 : ∀ k : Int, M20 12 k = upm (upm (upm (upm (upm M4 12 0 z4) 12 1 0) 12 2 0) 12 3 1) 12 4 0 12 k := fun k => by rw [q20, flm_o (by omega)]
        refine ⟨⟨?_, ?_, ?_, ?_, ?_⟩, fun k a b => ?_, fun k a b => ?_, fun k a b => ?_⟩
        · rw [e0, upm_k (by omega), upm_k (by omega), upm_k (by omega), upm_k (by omega), upm_s]
          show z4 = ((z4.toNat : Nat) : Int)
          omega
        · rw [e0, upm_k (by omega), upm_k (by omega), upm_k (by omega), upm_s]; rfl
        · rw [e0, upm_k (by omega), upm_k (by omega), upm_s]; rfl
        · rw [e0, upm_k (by omega), upm_s]; rfl
        · rw [e0, upm_s]; rfl
        · rw [q20, flm_i (by omega) (by omega)]; rfl
        · have b : k < ((0 : Nat) : Int) := b
          omega
        · have b : k < ((0 : Nat) : Int) := b
          omega)⟩
  · skip
    refine A_iconst dX3_readOffice_13 (by decide) ?_
    exact A_zret hR dX3_readOffice_14 rfl (by first | exact Or.inl rfl | exact Or.inr rfl | omega) ⟨_, rfl, rr_0 (by decide) (by decide) (by repeat (first | rw [if_pos (by decide)] | rw [if_neg (by decide)])) r2 r1 (by omega)⟩

