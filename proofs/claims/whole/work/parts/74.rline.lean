/-! THE READER: a line -/
set_option maxRecDepth 100000 in
set_option maxHeartbeats 4000000 in
theorem c_readLine {E : EN} {l : Launch} {M : Mem} {n p : Nat} {x : Fn} {T : TD} (hO : isRdr E) (hn2 : n ≤ 200) (hby : ∀ k : Int, 0 ≤ k → k < n → 0 ≤ x k ∧ x k ≤ 255) (hx : tX M n x) (hp : M 11 5 = p) (hp2 : p ≤ n) (hT : rT M 12 T) (hw : wN3 T) : Cn E l mX3_readLine 5 [vR 11] M (fun r M1 => ∃ z, r = vI z ∧ lnX M M1 x n p T z) := by
  refine Cn.of (by decide) rfl (Nat.le_of_ble_eq_true rfl) 0 rfl (fun oka okm G hR => ?_)
  obtain ⟨rt, rd, ra⟩ := id hO
  obtain ⟨ta, tb⟩ := id rt
  obtain ⟨b0, b1, b2, b3, b4, b5, b6, b7⟩ := id rd
  refine A_aload_n dX3_readLine_0 rfl ?_
  refine A_vV0 (mj := mX3_takeToken) dX3_readLine_1 hR.rm (by decide) ok_X3_takeToken mv_X3_takeToken ml_RX3_40 (by assumption) rfl rfl rfl (c_takeToken hO hn2 hx hp hp2) (fun M1 k1 q1 => ?_)
  obtain ⟨y1, y2, y3, y4⟩ := q1
  have xs : tX M1 n x := tX_f hx (fun y hy => y1 y (by omega))
  have tr := tk_r (x := x) hp2
  have hT1 : rT M1 12 T := rT_fr (c := 11) (n := 1) hT (fun y hy => y1 y (by omega)) (Or.inr (by omega))
  have ff : (∀ y, y ≠ 11 → M1 y = M y) ∧ M1 11 3 = M 11 3 := ⟨y1, y2 3 (by omega) (by omega)⟩
  have f2 : M1 11 2 = M 11 2 := y2 2 (by omega) (by omega)
  have j130 : (¬ isW x (tkA x n p) (tkB x n p) W0 ∧ ¬ isW x (tkA x n p) (tkB x n p) W1 ∧ ¬ isW x (tkA x n p) (tkB x n p) W2 ∧ ¬ isW x (tkA x n p) (tkB x n p) W3 ∧ ¬ isW x (tkA x n p) (tkB x n p) W4 ∧ ¬ isW x (tkA x n p) (tkB x n p) W5 ∧ ¬ isW x (tkA x n p) (tkB x n p) W6) ∨ (wdN x (tkA x n p) (tkB x n p) = 5 ∧ oT T = 12) ∨ (wdN x (tkA x n p) (tkB x n p) = 6 ∧ oF T = 6) → AW E mX3_readLine G 0 0 130 [vR 11] [] M1 := by
    intro h130
    refine A_aload_n dX3_readLine_130 rfl ?_
    refine A_ldcS (i := 7) dX3_readLine_131 rfl (by decide) rfl ?_
    refine A_vI1 (mj := mX3_tokenIs) dX3_readLine_133 hR.rm (by decide) ok_X3_tokenIs mv_X3_tokenIs ml_RX3_60 (by assumption) rfl rfl rfl (c_tokenIs (i := 7) hO hn2 xs y3 y4 tr.2.1 tr.2.2.1 (by decide)) (fun z133 M133 g133 k133 q133 => ?_)
    obtain ⟨e133, z133r, q133⟩ := q133
    subst M133
    refine A_if_eq (tgt := 144) dX3_readLine_136 (by decide) (fun h136 => ?_) (fun h136 => ?_)
    · skip
      have n7 : ¬ isW x (tkA x n p) (tkB x n p) W7 := fun z => by have := q133.mpr z; omega
      refine A_aload_n dX3_readLine_144 rfl ?_
      refine A_ldcS (i := 8) dX3_readLine_145 rfl (by decide) rfl ?_
      refine A_vI1 (mj := mX3_tokenIs) dX3_readLine_147 hR.rm (by decide) ok_X3_tokenIs mv_X3_tokenIs ml_RX3_60 (by assumption) rfl rfl rfl (c_tokenIs (i := 8) hO hn2 xs y3 y4 tr.2.1 tr.2.2.1 (by decide)) (fun z147 M147 g147 k147 q147 => ?_)
      obtain ⟨e147, z147r, q147⟩ := q147
      subst M147
      refine A_if_eq (tgt := 158) dX3_readLine_150 (by decide) (fun h150 => ?_) (fun h150 => ?_)
      · skip
        have n8 : ¬ isW x (tkA x n p) (tkB x n p) W8 := fun z => by have := q147.mpr z; omega
        refine A_aload_n dX3_readLine_158 rfl ?_
        refine A_vI0 (mj := mX3_refuseToken) dX3_readLine_159 hR.rm (by decide) ok_X3_refuseToken mv_X3_refuseToken ml_RX3_55 (by assumption) rfl rfl rfl (c_refuse hO y3) (fun z159 M159 g159 k159 q159 => ?_)
        obtain ⟨g1, g2⟩ := q159
        subst z159
        exact A_zret hR dX3_readLine_162 rfl (by first | exact Or.inl rfl | exact Or.inr rfl | omega) ⟨_, rfl, lnX_ref (by first | (rcases h130 with ⟨n0, n1, n2, n3, n4, n5, n6⟩ | z | z <;> first | exact Or.inl (wd_n n0 n1 n2 n3 n4 n5 n6 n7 n8) | exact Or.inr (Or.inl z) | exact Or.inr (Or.inr z))) ff g2⟩
      · skip
        refine A_aload_n dX3_readLine_153 rfl ?_
        refine A_vI0 (mj := mX3_readWinter) dX3_readLine_154 hR.rm (by decide) ok_X3_readWinter mv_X3_readWinter ml_RX3_102 (by assumption) rfl rfl rfl (c_readWinter hO hn2 hby xs y4 tr.2.2.1 hT1) (fun z154 M154 g154 k154 q154 => ?_)
        have r154 := rr_z q154
        exact A_zret hR dX3_readLine_157 rfl (by first | exact Or.inl rfl | exact Or.inr rfl | omega) ⟨_, rfl, lnX_of (wd_8 (q147.mp (by omega))) (by omega) ff f2 q154⟩
    · skip
      refine A_aload_n dX3_readLine_139 rfl ?_
      refine A_vI0 (mj := mX3_readFade) dX3_readLine_140 hR.rm (by decide) ok_X3_readFade mv_X3_readFade ml_RX3_97 (by assumption) rfl rfl rfl (c_readFade hO hn2 hby xs y4 tr.2.2.1 hT1) (fun z140 M140 g140 k140 q140 => ?_)
      have r140 := rr_z q140
      exact A_zret hR dX3_readLine_143 rfl (by first | exact Or.inl rfl | exact Or.inr rfl | omega) ⟨_, rfl, lnX_of (wd_7 (q133.mp (by omega))) (by omega) ff f2 q140⟩
  have j104 : (¬ isW x (tkA x n p) (tkB x n p) W0 ∧ ¬ isW x (tkA x n p) (tkB x n p) W1 ∧ ¬ isW x (tkA x n p) (tkB x n p) W2 ∧ ¬ isW x (tkA x n p) (tkB x n p) W3 ∧ ¬ isW x (tkA x n p) (tkB x n p) W4 ∧ ¬ isW x (tkA x n p) (tkB x n p) W5) ∨ (wdN x (tkA x n p) (tkB x n p) = 5 ∧ oT T = 12) → AW E mX3_readLine G 0 0 104 [vR 11] [] M1 := by
    intro h104
    refine A_aload_n dX3_readLine_104 rfl ?_
    refine A_ldcS (i := 6) dX3_readLine_105 rfl (by decide) rfl ?_
    refine A_vI1 (mj := mX3_tokenIs) dX3_readLine_107 hR.rm (by decide) ok_X3_tokenIs mv_X3_tokenIs ml_RX3_60 (by assumption) rfl rfl rfl (c_tokenIs (i := 6) hO hn2 xs y3 y4 tr.2.1 tr.2.2.1 (by decide)) (fun z107 M107 g107 k107 q107 => ?_)
    obtain ⟨e107, z107r, q107⟩ := q107
    subst M107
    refine A_if_eq (tgt := 130) dX3_readLine_110 (by decide) (fun h110 => ?_) (fun h110 => ?_)
    · skip
      have n6 : ¬ isW x (tkA x n p) (tkB x n p) W6 := fun z => by have := q107.mpr z; omega
      exact j130 (by
        rcases h104 with ⟨n0, n1, n2, n3, n4, n5⟩ | z
        · exact Or.inl ⟨n0, n1, n2, n3, n4, n5, n6⟩
        · exact Or.inr (Or.inl z))
    · skip
      refine A_aload_n dX3_readLine_113 rfl ?_
      refine A_getR dX3_readLine_114 fl_RX3_12 (by assumption) (by rfl) ?_
      refine A_getI (ki := 2) dX3_readLine_117 fl_RX3_89 (by assumption) (by rfl) rfl ?_
      rw [hT1.1.2.2.1]
      refine A_bipush dX3_readLine_120 bp_6 (by decide) ?_
      refine A_icmp_ge (tgt := 130) dX3_readLine_122 (by decide) (fun h122 => ?_) (fun h122 => ?_)
      · skip
        exact j130 (Or.inr (Or.inr ⟨wd_6 (q107.mp (by omega)), by have := hw.2.2; omega⟩))
      · skip
        refine A_aload_n dX3_readLine_125 rfl ?_
        refine A_vI0 (mj := mX3_readFile) dX3_readLine_126 hR.rm (by decide) ok_X3_readFile mv_X3_readFile ml_RX3_92 (by assumption) rfl rfl rfl (c_readFile hO hn2 hby xs y4 tr.2.2.1 hT1 hw (by omega)) (fun z126 M126 g126 k126 q126 => ?_)
        have r126 := rr_z q126
        exact A_zret hR dX3_readLine_129 rfl (by first | exact Or.inl rfl | exact Or.inr rfl | omega) ⟨_, rfl, lnX_of (wd_6 (q107.mp (by omega))) (by omega) ff f2 q126⟩
  refine A_aload_n dX3_readLine_4 rfl ?_
  refine A_ldcS (i := 0) dX3_readLine_5 rfl (by decide) rfl ?_
  refine A_vI1 (mj := mX3_tokenIs) dX3_readLine_7 hR.rm (by decide) ok_X3_tokenIs mv_X3_tokenIs ml_RX3_60 (by assumption) rfl rfl rfl (c_tokenIs (i := 0) hO hn2 xs y3 y4 tr.2.1 tr.2.2.1 (by decide)) (fun z7 M7 g7 k7 q7 => ?_)
  obtain ⟨e7, z7r, q7⟩ := q7
  subst M7
  refine A_if_eq (tgt := 18) dX3_readLine_10 (by decide) (fun h10 => ?_) (fun h10 => ?_)
  · skip
    have n0 : ¬ isW x (tkA x n p) (tkB x n p) W0 := fun z => by have := q7.mpr z; omega
    refine A_aload_n dX3_readLine_18 rfl ?_
    refine A_ldcS (i := 1) dX3_readLine_19 rfl (by decide) rfl ?_
    refine A_vI1 (mj := mX3_tokenIs) dX3_readLine_21 hR.rm (by decide) ok_X3_tokenIs mv_X3_tokenIs ml_RX3_60 (by assumption) rfl rfl rfl (c_tokenIs (i := 1) hO hn2 xs y3 y4 tr.2.1 tr.2.2.1 (by decide)) (fun z21 M21 g21 k21 q21 => ?_)
    obtain ⟨e21, z21r, q21⟩ := q21
    subst M21
    refine A_if_eq (tgt := 33) dX3_readLine_24 (by decide) (fun h24 => ?_) (fun h24 => ?_)
    · skip
      have n1 : ¬ isW x (tkA x n p) (tkB x n p) W1 := fun z => by have := q21.mpr z; omega
      refine A_aload_n dX3_readLine_33 rfl ?_
      refine A_ldcS (i := 2) dX3_readLine_34 rfl (by decide) rfl ?_
      refine A_vI1 (mj := mX3_tokenIs) dX3_readLine_36 hR.rm (by decide) ok_X3_tokenIs mv_X3_tokenIs ml_RX3_60 (by assumption) rfl rfl rfl (c_tokenIs (i := 2) hO hn2 xs y3 y4 tr.2.1 tr.2.2.1 (by decide)) (fun z36 M36 g36 k36 q36 => ?_)
      obtain ⟨e36, z36r, q36⟩ := q36
      subst M36
      refine A_if_eq (tgt := 48) dX3_readLine_39 (by decide) (fun h39 => ?_) (fun h39 => ?_)
      · skip
        have n2 : ¬ isW x (tkA x n p) (tkB x n p) W2 := fun z => by have := q36.mpr z; omega
        refine A_aload_n dX3_readLine_48 rfl ?_
        refine A_ldcS (i := 3) dX3_readLine_49 rfl (by decide) rfl ?_
        refine A_vI1 (mj := mX3_tokenIs) dX3_readLine_51 hR.rm (by decide) ok_X3_tokenIs mv_X3_tokenIs ml_RX3_60 (by assumption) rfl rfl rfl (c_tokenIs (i := 3) hO hn2 xs y3 y4 tr.2.1 tr.2.2.1 (by decide)) (fun z51 M51 g51 k51 q51 => ?_)
        obtain ⟨e51, z51r, q51⟩ := q51
        subst M51
        refine A_if_eq (tgt := 63) dX3_readLine_54 (by decide) (fun h54 => ?_) (fun h54 => ?_)
        · skip
          have n3 : ¬ isW x (tkA x n p) (tkB x n p) W3 := fun z => by have := q51.mpr z; omega
          refine A_aload_n dX3_readLine_63 rfl ?_
          refine A_ldcS (i := 4) dX3_readLine_64 rfl (by decide) rfl ?_
          refine A_vI1 (mj := mX3_tokenIs) dX3_readLine_66 hR.rm (by decide) ok_X3_tokenIs mv_X3_tokenIs ml_RX3_60 (by assumption) rfl rfl rfl (c_tokenIs (i := 4) hO hn2 xs y3 y4 tr.2.1 tr.2.2.1 (by decide)) (fun z66 M66 g66 k66 q66 => ?_)
          obtain ⟨e66, z66r, q66⟩ := q66
          subst M66
          refine A_if_eq (tgt := 78) dX3_readLine_69 (by decide) (fun h69 => ?_) (fun h69 => ?_)
          · skip
            have n4 : ¬ isW x (tkA x n p) (tkB x n p) W4 := fun z => by have := q66.mpr z; omega
            refine A_aload_n dX3_readLine_78 rfl ?_
            refine A_ldcS (i := 5) dX3_readLine_79 rfl (by decide) rfl ?_
            refine A_vI1 (mj := mX3_tokenIs) dX3_readLine_81 hR.rm (by decide) ok_X3_tokenIs mv_X3_tokenIs ml_RX3_60 (by assumption) rfl rfl rfl (c_tokenIs (i := 5) hO hn2 xs y3 y4 tr.2.1 tr.2.2.1 (by decide)) (fun z81 M81 g81 k81 q81 => ?_)
            obtain ⟨e81, z81r, q81⟩ := q81
            subst M81
            refine A_if_eq (tgt := 104) dX3_readLine_84 (by decide) (fun h84 => ?_) (fun h84 => ?_)
            · skip
              have n5 : ¬ isW x (tkA x n p) (tkB x n p) W5 := fun z => by have := q81.mpr z; omega
              exact j104 (Or.inl ⟨n0, n1, n2, n3, n4, n5⟩)
            · skip
              refine A_aload_n dX3_readLine_87 rfl ?_
              refine A_getR dX3_readLine_88 fl_RX3_12 (by assumption) (by rfl) ?_
              refine A_getI (ki := 1) dX3_readLine_91 fl_RX3_81 (by assumption) (by rfl) rfl ?_
              rw [hT1.1.2.1]
              refine A_bipush dX3_readLine_94 bp_12 (by decide) ?_
              refine A_icmp_ge (tgt := 104) dX3_readLine_96 (by decide) (fun h96 => ?_) (fun h96 => ?_)
              · skip
                exact j104 (Or.inr ⟨wd_5 (q81.mp (by omega)), by have := hw.2.1; omega⟩)
              · skip
                refine A_aload_n dX3_readLine_99 rfl ?_
                refine A_vI0 (mj := mX3_readTrail) dX3_readLine_100 hR.rm (by decide) ok_X3_readTrail mv_X3_readTrail ml_RX3_84 (by assumption) rfl rfl rfl (c_readTrail hO hn2 hby xs y4 tr.2.2.1 hT1 hw (by omega)) (fun z100 M100 g100 k100 q100 => ?_)
                have r100 := rr_z q100
                exact A_zret hR dX3_readLine_103 rfl (by first | exact Or.inl rfl | exact Or.inr rfl | omega) ⟨_, rfl, lnX_of (wd_5 (q81.mp (by omega))) (by omega) ff f2 q100⟩
          · skip
            refine A_aload_n dX3_readLine_72 rfl ?_
            refine A_iconst dX3_readLine_73 (by decide) ?_
            refine A_vI1 (mj := mX3_readKind) dX3_readLine_74 hR.rm (by decide) ok_X3_readKind mv_X3_readKind ml_RX3_69 (by assumption) rfl rfl rfl (c_readKind hO hn2 hby xs y4 tr.2.2.1 hT1 (kd := 3) (by decide) hw.1) (fun z74 M74 g74 k74 q74 => ?_)
            have r74 := rr_z q74
            exact A_zret hR dX3_readLine_77 rfl (by first | exact Or.inl rfl | exact Or.inr rfl | omega) ⟨_, rfl, lnX_of (wd_4 (q66.mp (by omega))) (by omega) ff f2 q74⟩
        · skip
          refine A_aload_n dX3_readLine_57 rfl ?_
          refine A_iconst dX3_readLine_58 (by decide) ?_
          refine A_vI1 (mj := mX3_readKind) dX3_readLine_59 hR.rm (by decide) ok_X3_readKind mv_X3_readKind ml_RX3_69 (by assumption) rfl rfl rfl (c_readKind hO hn2 hby xs y4 tr.2.2.1 hT1 (kd := 2) (by decide) hw.1) (fun z59 M59 g59 k59 q59 => ?_)
          have r59 := rr_z q59
          exact A_zret hR dX3_readLine_62 rfl (by first | exact Or.inl rfl | exact Or.inr rfl | omega) ⟨_, rfl, lnX_of (wd_3 (q51.mp (by omega))) (by omega) ff f2 q59⟩
      · skip
        refine A_aload_n dX3_readLine_42 rfl ?_
        refine A_iconst dX3_readLine_43 (by decide) ?_
        refine A_vI1 (mj := mX3_readKind) dX3_readLine_44 hR.rm (by decide) ok_X3_readKind mv_X3_readKind ml_RX3_69 (by assumption) rfl rfl rfl (c_readKind hO hn2 hby xs y4 tr.2.2.1 hT1 (kd := 1) (by decide) hw.1) (fun z44 M44 g44 k44 q44 => ?_)
        have r44 := rr_z q44
        exact A_zret hR dX3_readLine_47 rfl (by first | exact Or.inl rfl | exact Or.inr rfl | omega) ⟨_, rfl, lnX_of (wd_2 (q36.mp (by omega))) (by omega) ff f2 q44⟩
    · skip
      refine A_aload_n dX3_readLine_27 rfl ?_
      refine A_iconst dX3_readLine_28 (by decide) ?_
      refine A_vI1 (mj := mX3_readKind) dX3_readLine_29 hR.rm (by decide) ok_X3_readKind mv_X3_readKind ml_RX3_69 (by assumption) rfl rfl rfl (c_readKind hO hn2 hby xs y4 tr.2.2.1 hT1 (kd := 0) (by decide) hw.1) (fun z29 M29 g29 k29 q29 => ?_)
      have r29 := rr_z q29
      exact A_zret hR dX3_readLine_32 rfl (by first | exact Or.inl rfl | exact Or.inr rfl | omega) ⟨_, rfl, lnX_of (wd_1 (q21.mp (by omega))) (by omega) ff f2 q29⟩
  · skip
    refine A_aload_n dX3_readLine_13 rfl ?_
    refine A_vI0 (mj := mX3_readOffice) dX3_readLine_14 hR.rm (by decide) ok_X3_readOffice mv_X3_readOffice ml_RX3_64 (by assumption) rfl rfl rfl (c_readOffice hO hn2 hby xs y4 tr.2.2.1 hT1) (fun z14 M14 g14 k14 q14 => ?_)
    have r14 := rr_z q14
    exact A_zret hR dX3_readLine_17 rfl (by first | exact Or.inl rfl | exact Or.inr rfl | omega) ⟨_, rfl, lnX_of (wd_0 (q7.mp (by omega))) (by omega) ff f2 q14⟩

