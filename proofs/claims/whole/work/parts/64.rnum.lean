/-! THE READER: numbers -/
/-- the Reader's own cell alone, but for its lines -/
def fr11 (M M1 : Mem) : Prop := (∀ y, y ≠ 11 → M1 y = M y) ∧ ∀ k : Int, k ≠ 2 → k ≠ 4 → k ≠ 5 → M1 11 k = M 11 k
/-- a number was read from a place, or refused -/
def nmP (M M1 : Mem) (x : Fn) (n p : Nat) (z : Int) : Prop := fr11 M M1 ∧ (M1 11 5 = tkB x n p ∧ M1 11 4 = tkA x n p) ∧ (z = -1 → M1 11 2 = tkA x n p) ∧ (z ≠ -1 → M1 11 2 = M 11 2)
set_option maxRecDepth 100000 in
set_option maxHeartbeats 4000000 in
theorem c_readNumber {E : EN} {l : Launch} {M : Mem} {n p : Nat} {x : Fn} (hO : isRdr E) (hn2 : n ≤ 200) (hby : ∀ k : Int, 0 ≤ k → k < n → 0 ≤ x k ∧ x k ≤ 255) (hx : tX M n x) (hp : M 11 5 = p) (hp2 : p ≤ n) {lo hi : Int} (hlo : 0 ≤ lo) : Cn E l mX3_readNumber 2 [vR 11, vI lo, vI hi] M (fun r M1 => ∃ z, r = vI z ∧ (z = rdN x n p lo hi ∧ nmP M M1 x n p z)) := by
  refine Cn.of (by decide) rfl (Nat.le_of_ble_eq_true rfl) 2 rfl (fun oka okm G hR => ?_)
  obtain ⟨rt, rd, ra⟩ := id hO
  obtain ⟨ta, tb⟩ := id rt
  obtain ⟨b0, b1, b2, b3, b4, b5, b6, b7⟩ := id rd
  have tr := tk_r (x := x) hp2
  obtain ⟨a, ha⟩ : ∃ a, a = tkA x n p := ⟨_, rfl⟩
  obtain ⟨b, hb⟩ : ∃ b, b = tkB x n p := ⟨_, rfl⟩
  have rdv : rdN x n p lo hi = if a < n ∧ srt (x a) = 2 ∧ b ≤ a + 2 ∧ lo ≤ vlN x a b ∧ vlN x a b ≤ hi then vlN x a b else -1 := by rw [ha, hb]; rfl
  refine A_aload_n dX3_readNumber_0 rfl ?_
  refine A_vV0 (mj := mX3_takeToken) dX3_readNumber_1 hR.rm (by decide) ok_X3_takeToken mv_X3_takeToken ml_RX3_40 (by assumption) rfl rfl rfl (c_takeToken hO hn2 hx hp hp2) (fun M1 k1 q1 => ?_)
  obtain ⟨y1, y2, y3, y4⟩ := q1
  rw [← ha] at y3 tr
  rw [← hb] at y4 tr
  have xs : tX M1 n x := tX_f hx (fun y hy => y1 y (by omega))
  have j96 : ∀ v4 : AV, rdN x n p lo hi = -1 → AW E mX3_readNumber G 0 0 96 [vR 11, vI lo, vI hi, vI ((b : Int) - a), v4] [] M1 := by
    intro v4 hr
    refine A_aload_n dX3_readNumber_96 rfl ?_
    refine A_vI0 (mj := mX3_refuseToken) dX3_readNumber_97 hR.rm (by decide) ok_X3_refuseToken mv_X3_refuseToken ml_RX3_55 (by assumption) rfl rfl rfl (c_refuse (a := a) hO y3) (fun z97 M97 g97 k97 q97 => ?_)
    obtain ⟨r1, r2⟩ := q97
    refine A_pop dX3_readNumber_100 rfl ?_
    refine A_iconst dX3_readNumber_101 (by decide) ?_
    exact A_iret hR dX3_readNumber_102 rfl ⟨_, rfl, hr.symm, ⟨fun y hy => by rw [r2, upm_c hy]; exact y1 y hy, fun k ka kb kc => by rw [r2, upm_k ka]; exact y2 k kb kc⟩, ⟨by rw [r2, upm_k (by omega), y4, hb], by rw [r2, upm_k (by omega), y3, ha]⟩, fun _ => by rw [r2, upm_s, ha], fun z => absurd rfl z⟩
  refine A_aload_n dX3_readNumber_4 rfl ?_
  refine A_getI (ki := 5) dX3_readNumber_5 fl_RX3_30 (by assumption) (by rfl) rfl ?_
  rw [y4]
  refine A_aload_n dX3_readNumber_8 rfl ?_
  refine A_getI (ki := 4) dX3_readNumber_9 fl_RX3_43 (by assumption) (by rfl) rfl ?_
  rw [y3]
  refine A_isub dX3_readNumber_12 ⟨by omega, by omega⟩ ?_
  refine A_istore_n dX3_readNumber_13 (by decide) rfl ?_
  refine A_aload_n dX3_readNumber_14 rfl ?_
  refine A_getR dX3_readNumber_15 fl_RX3_18 (by assumption) (by rfl) ?_
  refine A_aload_n dX3_readNumber_18 rfl ?_
  refine A_getI (ki := 4) dX3_readNumber_19 fl_RX3_43 (by assumption) (by rfl) rfl ?_
  rw [y3]
  refine A_vI1 (mj := mX5_at) dX3_readNumber_22 hR.rm (by decide) ok_X5_at mv_X5_at ml_RX3_51 (by assumption) rfl rfl rfl (c_txtAt rt (i := (a : Int)) (by have := xs.1; omega)) (fun z22 M22 g22 k22 q22 => ?_)
  obtain ⟨e22, q22⟩ := q22
  subst M22
  rw [xs.1] at q22
  refine A_sI1 (mj := mX3_isDigit) dX3_readNumber_25 hR.rm (by decide) ok_X3_isDigit st_X3_isDigit ml_RX3_134 rfl (c_isDigit (v := z22)) (fun z25 M25 g25 k25 q25 => ?_)
  obtain ⟨e25, z25r, q25⟩ := q25
  subst M25
  refine A_if_eq (tgt := 96) dX3_readNumber_28 (by decide) (fun h28 => ?_) (fun h28 => ?_)
  · skip
    first
    | exact j96 _ (by rw [rdv, if_neg (fun q => by
        rw [if_pos ⟨by omega, by omega⟩, show M1 (1 + 1) a = x a from xs.2 _ (by omega) (by omega)] at q22
        have := q25.mpr (by rw [q22]; exact q.2.1)
        omega)])
    | exact j96 _ (by rw [rdv, if_neg (by omega)])
  · skip
    have an : a < n := by
      by_cases z : a < n
      · exact z
      · rw [if_neg (by omega)] at q22
        have := q25.mp (by omega)
        rw [q22] at this
        exact absurd this (by decide)
    have ad : srt (x a) = 2 := by
      rw [if_pos ⟨by omega, by omega⟩, show M1 (1 + 1) a = x a from xs.2 _ (by omega) (by omega)] at q22
      rw [← q22]
      exact q25.mp (by omega)
    refine A_iload_n dX3_readNumber_31 rfl ?_
    refine A_iconst dX3_readNumber_32 (by decide) ?_
    refine A_icmp_gt (tgt := 96) dX3_readNumber_33 (by decide) (fun h33 => ?_) (fun h33 => ?_)
    · skip
      first
      | exact j96 _ (by rw [rdv, if_neg (fun q => by
          rw [if_pos ⟨by omega, by omega⟩, show M1 (1 + 1) a = x a from xs.2 _ (by omega) (by omega)] at q22
          have := q25.mpr (by rw [q22]; exact q.2.1)
          omega)])
      | exact j96 _ (by rw [rdv, if_neg (by omega)])
    · skip
      refine A_aload_n dX3_readNumber_36 rfl ?_
      refine A_getR dX3_readNumber_37 fl_RX3_18 (by assumption) (by rfl) ?_
      refine A_aload_n dX3_readNumber_40 rfl ?_
      refine A_getI (ki := 4) dX3_readNumber_41 fl_RX3_43 (by assumption) (by rfl) rfl ?_
      rw [y3]
      refine A_vI1 (mj := mX5_at) dX3_readNumber_44 hR.rm (by decide) ok_X5_at mv_X5_at ml_RX3_51 (by assumption) rfl rfl rfl (c_txtAt rt (i := (a : Int)) (by have := xs.1; omega)) (fun z44 M44 g44 k44 q44 => ?_)
      obtain ⟨e44, q44⟩ := q44
      subst M44
      rw [xs.1, if_pos ⟨by omega, by omega⟩, show M1 (1 + 1) a = x a from xs.2 _ (by omega) (by omega)] at q44
      subst z44
      have xa := hby a (by omega) (by omega)
      refine A_bipush dX3_readNumber_47 bp_48 (by decide) ?_
      refine A_isub dX3_readNumber_49 ⟨by omega, by omega⟩ ?_
      have j81 : ∀ v : Int, (v = vlN x a b) → AW E mX3_readNumber G 0 0 81 [vR 11, vI lo, vI hi, vI ((b : Int) - a), vI v] [] M1 := by
        intro v hv
        have rd2 : rdN x n p lo hi = if lo ≤ v ∧ v ≤ hi then v else -1 := by
          rw [rdv, ← hv]
          by_cases e : lo ≤ v ∧ v ≤ hi
          · rw [if_pos e, if_pos ⟨by omega, by omega, by omega, e⟩]
          · rw [if_neg e, if_neg (fun q => e q.2.2.2)]
        refine A_iload dX3_readNumber_81 rfl ?_
        refine A_iload_n dX3_readNumber_83 rfl ?_
        refine A_icmp_lt (tgt := 96) dX3_readNumber_84 (by decide) (fun h84 => ?_) (fun h84 => ?_)
        · skip
          first
          | exact j96 _ (by rw [rdv, if_neg (fun q => by
              rw [if_pos ⟨by omega, by omega⟩, show M1 (1 + 1) a = x a from xs.2 _ (by omega) (by omega)] at q22
              have := q25.mpr (by rw [q22]; exact q.2.1)
              omega)])
          | exact j96 _ (by rw [rdv, if_neg (by omega)])
        · skip
          refine A_iload dX3_readNumber_87 rfl ?_
          refine A_iload_n dX3_readNumber_89 rfl ?_
          refine A_icmp_gt (tgt := 96) dX3_readNumber_90 (by decide) (fun h90 => ?_) (fun h90 => ?_)
          · skip
            first
            | exact j96 _ (by rw [rdv, if_neg (fun q => by
                rw [if_pos ⟨by omega, by omega⟩, show M1 (1 + 1) a = x a from xs.2 _ (by omega) (by omega)] at q22
                have := q25.mpr (by rw [q22]; exact q.2.1)
                omega)])
            | exact j96 _ (by rw [rdv, if_neg (by omega)])
          · skip
            refine A_iload dX3_readNumber_93 rfl ?_
            exact A_iret hR dX3_readNumber_95 rfl ⟨_, rfl, by rw [rd2, if_pos (by omega)], ⟨y1, fun k _ kb kc => y2 k kb kc⟩, ⟨by rw [y4, hb], by rw [y3, ha]⟩, fun z => by omega, fun _ => y2 2 (by omega) (by omega)⟩
      refine A_istore dX3_readNumber_50 (by decide) rfl ?_
      refine A_iload_n dX3_readNumber_52 rfl ?_
      refine A_iconst dX3_readNumber_53 (by decide) ?_
      refine A_icmp_ne (tgt := 81) dX3_readNumber_54 (by decide) (fun h54 => ?_) (fun h54 => ?_)
      · skip
        first | exact j81 _ (by unfold vlN; rw [if_pos (by omega)]) | exact j81 _ (by unfold vlN; rw [if_neg (by omega)])
      · skip
        refine A_bipush dX3_readNumber_57 bp_10 (by decide) ?_
        refine A_iload dX3_readNumber_59 rfl ?_
        refine A_imul dX3_readNumber_61 ⟨by omega, by omega⟩ ?_
        refine A_aload_n dX3_readNumber_62 rfl ?_
        refine A_getR dX3_readNumber_63 fl_RX3_18 (by assumption) (by rfl) ?_
        refine A_aload_n dX3_readNumber_66 rfl ?_
        refine A_getI (ki := 4) dX3_readNumber_67 fl_RX3_43 (by assumption) (by rfl) rfl ?_
        rw [y3]
        refine A_iconst dX3_readNumber_70 (by decide) ?_
        refine A_iadd dX3_readNumber_71 ⟨by omega, by omega⟩ ?_
        refine A_vI1 (mj := mX5_at) dX3_readNumber_72 hR.rm (by decide) ok_X5_at mv_X5_at ml_RX3_51 (by assumption) rfl rfl rfl (c_txtAt rt (i := (a : Int) + 1) (by have := xs.1; omega)) (fun z72 M72 g72 k72 q72 => ?_)
        obtain ⟨e72, q72⟩ := q72
        subst M72
        rw [xs.1, if_pos ⟨by omega, by omega⟩, show M1 (1 + 1) ((a : Int) + 1) = x ((a : Int) + 1) from xs.2 _ (by omega) (by omega)] at q72
        subst z72
        have xb := hby ((a : Int) + 1) (by omega) (by omega)
        refine A_iadd dX3_readNumber_75 ⟨by omega, by omega⟩ ?_
        refine A_bipush dX3_readNumber_76 bp_48 (by decide) ?_
        refine A_isub dX3_readNumber_78 ⟨by omega, by omega⟩ ?_
        refine A_istore dX3_readNumber_79 (by decide) rfl ?_
        first | exact j81 _ (by unfold vlN; rw [if_pos (by omega)]) | exact j81 _ (by unfold vlN; rw [if_neg (by omega)])

set_option maxRecDepth 100000 in
set_option maxHeartbeats 4000000 in
theorem c_unlike {E : EN} {l : Launch} {M : Mem} {n p : Nat} {x : Fn} (hO : isRdr E) (hn2 : n ≤ 200) (hby : ∀ k : Int, 0 ≤ k → k < n → 0 ≤ x k ∧ x k ≤ 255) (hx : tX M n x) (hp : M 11 5 = p) (hp2 : p ≤ n) {T : TD} {o : Int} (hD : M 12 0 = oD T) (hD2 : 2 ≤ oD T ∧ oD T ≤ 8) (ho : 0 ≤ o) : Cn E l mX3_readDeskUnlike 3 [vR 11, vI o] M (fun r M1 => ∃ z, r = vI z ∧ (z = (if rdN x n p 0 ((oD T : Int) - 1) = -1 ∨ rdN x n p 0 ((oD T : Int) - 1) = o then -1 else rdN x n p 0 ((oD T : Int) - 1)) ∧ nmP M M1 x n p z)) := by
  refine Cn.of (by decide) rfl (Nat.le_of_ble_eq_true rfl) 1 rfl (fun oka okm G hR => ?_)
  obtain ⟨rt, rd, ra⟩ := id hO
  obtain ⟨ta, tb⟩ := id rt
  obtain ⟨b0, b1, b2, b3, b4, b5, b6, b7⟩ := id rd
  have rr := rdN_r x n p (lo := 0) (hi := (oD T : Int) - 1) (by decide)
  refine A_aload_n dX3_readDeskUnlike_0 rfl ?_
  refine A_iconst dX3_readDeskUnlike_1 (by decide) ?_
  refine A_aload_n dX3_readDeskUnlike_2 rfl ?_
  refine A_getR dX3_readDeskUnlike_3 fl_RX3_12 (by assumption) (by rfl) ?_
  refine A_getI (ki := 0) dX3_readDeskUnlike_6 fl_RX3_113 (by assumption) (by rfl) rfl ?_
  rw [hD]
  refine A_iconst dX3_readDeskUnlike_9 (by decide) ?_
  refine A_isub dX3_readDeskUnlike_10 ⟨by omega, by omega⟩ ?_
  refine A_vI2 (mj := mX3_readNumber) dX3_readDeskUnlike_11 hR.rm (by decide) ok_X3_readNumber mv_X3_readNumber ml_RX3_105 (by assumption) rfl rfl rfl (c_readNumber hO hn2 hby hx hp hp2 (by decide)) (fun z11 M11 g11 k11 q11 => ?_)
  obtain ⟨r1, f1, f2, f3, f4⟩ := q11
  rw [← r1] at rr
  refine A_istore_n dX3_readDeskUnlike_14 (by decide) rfl ?_
  refine A_iload_n dX3_readDeskUnlike_15 rfl ?_
  refine A_iload_n dX3_readDeskUnlike_16 rfl ?_
  refine A_icmp_eq (tgt := 22) dX3_readDeskUnlike_17 (by decide) (fun h17 => ?_) (fun h17 => ?_)
  · skip
    refine A_aload_n dX3_readDeskUnlike_22 rfl ?_
    refine A_vI0 (mj := mX3_refuseToken) dX3_readDeskUnlike_23 hR.rm (by decide) ok_X3_refuseToken mv_X3_refuseToken ml_RX3_55 (by assumption) rfl rfl rfl (c_refuse (a := tkA x n p) hO f2.2) (fun z23 M23 g23 k23 q23 => ?_)
    obtain ⟨r3, r4⟩ := q23
    refine A_pop dX3_readDeskUnlike_26 rfl ?_
    refine A_iconst dX3_readDeskUnlike_27 (by decide) ?_
    exact A_iret hR dX3_readDeskUnlike_28 rfl ⟨_, rfl, by rw [← r1, if_pos (Or.inr (by omega))], ⟨fun y hy => by rw [r4, upm_c hy]; exact f1.1 y hy, fun k ka kb kc => by rw [r4, upm_k ka]; exact f1.2 k ka kb kc⟩, ⟨by rw [r4, upm_k (by omega)]; exact f2.1, by rw [r4, upm_k (by omega)]; exact f2.2⟩, fun _ => by rw [r4, upm_s], fun z => absurd rfl z⟩
  · skip
    refine A_iload_n dX3_readDeskUnlike_20 rfl ?_
    exact A_iret hR dX3_readDeskUnlike_21 rfl ⟨_, rfl, by rw [← r1]; split <;> omega, f1, f2, f3, f4⟩

