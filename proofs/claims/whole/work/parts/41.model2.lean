/-! THE MODEL: a minute, the set of files that are filed, tries -/
theorem rM_w {M M1 : Mem} {m b : Nat} {T : TD} {C : CS} (h : rM M m b T C) (hf : M1 (m + 1) = M (m + 1)) : rM M1 m b T C := by
  unfold rM
  rw [hf]
  exact h
set_option maxRecDepth 100000 in
set_option maxHeartbeats 4000000 in
theorem m_lay {E : EN} {l : Launch} {M : Mem} {m b : Nat} {T : TD} {C : CS}(hO : isMod E m) (hrI : rI M m T) (hrM : rM M m b T C) (hwT : wT T) (hwC : wC T C) (hb : b ≤ 156) : Cn E l mX8_layCarried 2 [vR m, vI b] M (fun r M1 => r = vU ∧ ((∀ y, y ≠ m + 9 → M1 y = M y) ∧ ∀ k : Int, 0 ≤ k → k < oF T → M1 (m + 9) k = crd T C k)) := by
  refine Cn.of (by decide) rfl (Nat.le_of_ble_eq_true rfl) 2 rfl (fun oka okm G hR => ?_)
  obtain ⟨a0, a1, a2, a3, a4, a5, a6, a7, a8, a9, a10, a11, a12⟩ := id hO
  obtain ⟨⟨i0, i1, i2, i3⟩, ik, it, ie⟩ := id hrI
  obtain ⟨⟨c0, c1, c2⟩, cs, cf⟩ := id hrM
  obtain ⟨wt0, wtk, wtt, wtf⟩ := id hwT
  obtain ⟨wc0, wcs, wcf⟩ := id hwC
  refine A_iconst dX8_layCarried_0 (by decide) ?_
  refine A_istore_n dX8_layCarried_1 (by decide) rfl ?_
  have lp : ∀ (k : Nat) (i : Nat) (M1 : Mem), 6 - i = k → (i ≤ 6) → (∀ y, y ≠ m + 9 → M1 y = M y) → (∀ k : Int, 0 ≤ k → k < i → M1 (m + 9) k = -1) → AW E mX8_layCarried G 0 0 2 [vR m, vI b, vI i, vU] [] M1 := by
    intro k
    induction k using Nat.strongRecOn with
    | ind k ih =>
      intro i M1 hk h0 hf hx
      refine A_iload_n dX8_layCarried_2 rfl ?_
      refine A_bipush dX8_layCarried_3 bp_6 (by decide) ?_
      refine A_icmp_ge (tgt := 21) dX8_layCarried_5 (by decide) (fun h5 => ?_) (fun h5 => ?_)
      · skip
        refine A_iconst dX8_layCarried_21 (by decide) ?_
        refine A_istore_n dX8_layCarried_22 (by decide) rfl ?_
        have lq : ∀ (k : Nat) (d : Nat) (M2 : Mem) (x3 : AV), oD T - d = k → (d ≤ oD T) → (∀ y, y ≠ m + 9 → M2 y = M y) → (∀ k : Int, 0 ≤ k → k < oF T → M2 (m + 9) k = if csA C k < d then crd T C k else -1) → AW E mX8_layCarried G 0 0 23 [vR m, vI b, vI d, x3] [] M2 := by
          intro k
          induction k using Nat.strongRecOn with
          | ind k2 ih2 =>
            intro d M2 x3 hk hd hf2 hc
            have rI1 : rI M2 m T := rI_fr hrI (fun y hy => hf2 y (by omega))
            have rM1 : rM M2 m b T C := rM_w hrM (hf2 _ (by omega))
            refine A_iload_n dX8_layCarried_23 rfl ?_
            refine A_aload_n dX8_layCarried_24 rfl ?_
            refine A_getI (ki := 6) dX8_layCarried_25 fl_RX8_23 (by assumption) (by rfl) rfl ?_
            rw [rI1.1.1]
            refine A_icmp_ge (tgt := 109) dX8_layCarried_28 (by decide) (fun h28 => ?_) (fun h28 => ?_)
            · skip
              exact A_vret hR dX8_layCarried_109 rfl (by
      first
      | (have e : d = oD T := by omega
         exact ⟨rfl, hf2, fun k x y => by rw [hc k x y, if_pos (by have := wcf k x y; omega)]⟩)
      | exact ⟨rfl, hf2, fun k x y => by
          have e : crd T C k = -1 := by unfold crd; rw [if_pos (by omega)]
          rw [hc k x y, e]
          split <;> rfl⟩)
            · skip
              refine A_aload_n dX8_layCarried_31 rfl ?_
              refine A_getR dX8_layCarried_32 fl_RX8_7 (by assumption) (by rfl) ?_
              refine A_iload_n dX8_layCarried_35 rfl ?_
              refine A_iconst dX8_layCarried_36 (by decide) ?_
              refine A_iadd dX8_layCarried_37 ⟨by omega, by omega⟩ ?_
              refine A_iald dX8_layCarried_38 (by assumption) (by omega) (by omega) ?_
              rw [rM1.1.2.1]
              refine A_if_ne (tgt := 109) dX8_layCarried_39 (by decide) (fun h39 => ?_) (fun h39 => ?_)
              · skip
                exact A_vret hR dX8_layCarried_109 rfl (by
      first
      | (have e : d = oD T := by omega
         exact ⟨rfl, hf2, fun k x y => by rw [hc k x y, if_pos (by have := wcf k x y; omega)]⟩)
      | exact ⟨rfl, hf2, fun k x y => by
          have e : crd T C k = -1 := by unfold crd; rw [if_pos (by omega)]
          rw [hc k x y, e]
          split <;> rfl⟩)
              · skip
                have j74 : ∀ x : Int, (oK T d = 3 ∨ csQ C = d → x = -1) → (¬ (oK T d = 3 ∨ csQ C = d) → x = swN C d (oF T)) → AW E mX8_layCarried G 0 0 74 [vR m, vI b, vI d, x3] [vI x] M2 := by
                  intro x x1 x2
                  have sr := swN_r C d (oF T)
                  have gx : rng x := by
                    by_cases q : oK T d = 3 ∨ csQ C = d
                    · have := x1 q; exact ⟨by omega, by omega⟩
                    · have := x2 q; exact ⟨by omega, by omega⟩
                  refine A_istore_n dX8_layCarried_74 (by decide) rfl ?_
                  refine A_iload_n dX8_layCarried_75 rfl ?_
                  refine A_iconst dX8_layCarried_76 (by decide) ?_
                  refine A_icmp_eq (tgt := 103) dX8_layCarried_77 (by decide) (fun h77 => ?_) (fun h77 => ?_)
                  · skip
                    refine A_iinc dX8_layCarried_103 (by decide) rfl rfl ⟨by omega, by omega⟩ ?_
                    refine A_goto (tgt := 23) dX8_layCarried_106 (by decide) ?_
                    refine ih2 _ (by omega) (d + 1) M2 _ rfl (by omega) hf2 (fun k x y => ?_)
                    rw [hc k x y]
                    by_cases e : csA C k < d
                    · rw [if_pos e, if_pos (by omega)]
                    · rw [if_neg e]
                      by_cases e2 : csA C k = d
                      · rw [if_pos (by omega)]
                        unfold crd
                        rw [e2]
                        by_cases q : oK T d = 3 ∨ csQ C = d
                        · rw [if_pos (by omega)]
                        · have := x2 q; rw [if_pos (by omega)]
                      · rw [if_neg (by omega)]
                  · skip
                    have nq : ¬ (oK T d = 3 ∨ csQ C = d) := fun q => h77 (x1 q)
                    have xe := x2 nq
                    have sp := swN_p C d (oF T)
                    rw [← xe] at sp sr
                    have sp := sp h77
                    have f1 := cf x (by omega) (by omega)
                    have f2 := wcf x (by omega) (by omega)
                    refine A_aload_n dX8_layCarried_80 rfl ?_
                    refine A_getR dX8_layCarried_81 fl_RX8_42 (by assumption) (by rfl) ?_
                    refine A_iload_n dX8_layCarried_84 rfl ?_
                    refine A_aload_n dX8_layCarried_85 rfl ?_
                    refine A_iload_n dX8_layCarried_86 rfl ?_
                    refine A_iload_n dX8_layCarried_87 rfl ?_
                    refine A_aload_n dX8_layCarried_88 rfl ?_
                    refine A_getR dX8_layCarried_89 fl_RX8_7 (by assumption) (by rfl) ?_
                    refine A_iload_n dX8_layCarried_92 rfl ?_
                    refine A_bipush dX8_layCarried_93 bp_27 (by decide) ?_
                    refine A_iadd dX8_layCarried_95 ⟨by omega, by omega⟩ ?_
                    refine A_iload_n dX8_layCarried_96 rfl ?_
                    refine A_iadd dX8_layCarried_97 ⟨by omega, by omega⟩ ?_
                    refine A_iald dX8_layCarried_98 (by assumption) (by omega) (by omega) ?_
                    rw [show M2 (m + 1) (b + 27 + x) = csC C x from (rM1.2.2 x (by omega) (by omega)).2.2.1]
                    refine A_vI3 (mj := mX8_strongest) dX8_layCarried_99 hR.rm (by decide) ok_X8_strongest mv_X8_strongest ml_RX8_172 (by assumption) rfl rfl rfl (m_strongest hO rI1 rM1 hwT hwC hb (by omega) (by omega) (fun q => by have := f2.2.2.2.2.2.2.1 q; rw [sp.1] at this; exact this)) (fun z99 M99 g99 k99 q99 => ?_)
                    obtain ⟨e99, q99a⟩ := q99
                    subst M99
                    subst z99
                    refine A_iast dX8_layCarried_102 (by assumption) (by omega) (by omega) (fun M102 e102 k102 => ?_)
                    refine A_iinc dX8_layCarried_103 (by decide) rfl rfl ⟨by omega, by omega⟩ ?_
                    refine A_goto (tgt := 23) dX8_layCarried_106 (by decide) ?_
                    refine ih2 _ (by omega) (d + 1) M102 _ rfl (by omega) (fun y hy => by rw [e102, upm_c hy]; exact hf2 y hy) (fun k a c => ?_)
                    rw [e102, upm_x]
                    by_cases e3 : k = x
                    · rw [if_pos ⟨rfl, e3⟩, e3, sp.1, if_pos (by omega)]
                      unfold crd
                      rw [sp.1, if_neg (by omega)]
                    · rw [if_neg (fun z => e3 z.2), hc k a c]
                      by_cases e : csA C k < d
                      · rw [if_pos e, if_pos (by omega)]
                      · rw [if_neg e]
                        by_cases e2 : csA C k = d
                        · rw [if_pos (by omega)]
                          unfold crd
                          rw [e2, if_pos (by omega)]
                        · rw [if_neg (by omega)]
                refine A_aload_n dX8_layCarried_42 rfl ?_
                refine A_getR dX8_layCarried_43 fl_RX8_27 (by assumption) (by rfl) ?_
                refine A_iload_n dX8_layCarried_46 rfl ?_
                refine A_iald dX8_layCarried_47 (by assumption) (by omega) (by omega) ?_
                rw [rI1.2.1 d (by omega) (by omega)]
                refine A_iconst dX8_layCarried_48 (by decide) ?_
                refine A_icmp_eq (tgt := 64) dX8_layCarried_49 (by decide) (fun h49 => ?_) (fun h49 => ?_)
                · skip
                  refine A_iconst dX8_layCarried_64 (by decide) ?_
                  refine A_goto (tgt := 74) dX8_layCarried_65 (by decide) ?_
                  first | exact j74 (-1) (fun _ => rfl) (fun q => absurd (by omega) q) | exact j74 _ (fun q => by omega) (fun _ => q71a)
                · skip
                  refine A_aload_n dX8_layCarried_52 rfl ?_
                  refine A_getR dX8_layCarried_53 fl_RX8_7 (by assumption) (by rfl) ?_
                  refine A_iload_n dX8_layCarried_56 rfl ?_
                  refine A_iconst dX8_layCarried_57 (by decide) ?_
                  refine A_iadd dX8_layCarried_58 ⟨by omega, by omega⟩ ?_
                  refine A_iald dX8_layCarried_59 (by assumption) (by omega) (by omega) ?_
                  rw [rM1.1.2.2]
                  refine A_iload_n dX8_layCarried_60 rfl ?_
                  refine A_icmp_ne (tgt := 68) dX8_layCarried_61 (by decide) (fun h61 => ?_) (fun h61 => ?_)
                  · skip
                    refine A_aload_n dX8_layCarried_68 rfl ?_
                    refine A_iload_n dX8_layCarried_69 rfl ?_
                    refine A_iload_n dX8_layCarried_70 rfl ?_
                    refine A_vI2 (mj := mX8_sweetest) dX8_layCarried_71 hR.rm (by decide) ok_X8_sweetest mv_X8_sweetest ml_RX8_169 (by assumption) rfl rfl rfl (m_sweetest hO rI1 rM1 hwT hwC hb) (fun z71 M71 g71 k71 q71 => ?_)
                    obtain ⟨e71, q71a⟩ := q71
                    subst M71
                    first | exact j74 (-1) (fun _ => rfl) (fun q => absurd (by omega) q) | exact j74 _ (fun q => by omega) (fun _ => q71a)
                  · skip
                    refine A_iconst dX8_layCarried_64 (by decide) ?_
                    refine A_goto (tgt := 74) dX8_layCarried_65 (by decide) ?_
                    first | exact j74 (-1) (fun _ => rfl) (fun q => absurd (by omega) q) | exact j74 _ (fun q => by omega) (fun _ => q71a)
        exact lq _ 0 M1 vU rfl (by omega) hf (fun k x y => by rw [if_neg (by have := wcf k x y; omega)]; exact hx k x (by omega))
      · skip
        refine A_aload_n dX8_layCarried_8 rfl ?_
        refine A_getR dX8_layCarried_9 fl_RX8_42 (by assumption) (by rfl) ?_
        refine A_iload_n dX8_layCarried_12 rfl ?_
        refine A_iconst dX8_layCarried_13 (by decide) ?_
        refine A_iast dX8_layCarried_14 (by assumption) (by omega) (by omega) (fun M14 e14 k14 => ?_)
        refine A_iinc dX8_layCarried_15 (by decide) rfl rfl ⟨by omega, by omega⟩ ?_
        refine A_goto (tgt := 2) dX8_layCarried_18 (by decide) ?_
        refine ih _ (by omega) (i + 1) M14 rfl (by omega) (fun y hy => by rw [e14, upm_c hy]; exact hf y hy) (fun k x y => ?_)
        rw [e14, upm_x]
        by_cases e : k = i
        · rw [if_pos ⟨rfl, e⟩]
        · rw [if_neg (fun z => e z.2)]; exact hx k x (by omega)
  exact lp _ 0 M rfl (by omega) (fun _ _ => rfl) (fun k x y => by omega)

/-- a file's coming, in a row -/
def arM (M : Mem) (m : Nat) (b f t d s g : Int) : Mem := upm (upm (upm (upm M (m + 1) (b + 15 + f) d) (m + 1) (b + 27 + f) t) (m + 1) (b + 21 + f) s) (m + 1) (b + 33 + f) g
set_option maxRecDepth 100000 in
set_option maxHeartbeats 4000000 in
theorem m_arrive {E : EN} {l : Launch} {M : Mem} {m b : Nat} {T : TD} {f t d s g : Int} (hO : isMod E m) (hrI : rI M m T) (hwT : wT T) (hb : b ≤ 156) (h0 : 0 ≤ f) (h1 : f < oF T) (ht0 : 0 ≤ t) (ht1 : t < oT T) (hd : M (m + 1) (b + 15 + f) = d) (hs : M (m + 1) (b + 21 + f) = s) (hs0 : 0 ≤ s ∧ s ≤ 9) (hg : M (m + 1) b = g) (ha : 0 ≤ acr T t d ∧ acr T t d < oD T) : Cn E l mX8_arrive 1 [vR m, vI b, vI f, vI t] M (fun r M1 => r = vU ∧ M1 = arM M m b f t (acr T t d) (swb (oK T (acr T t d)) s) (if acr T t d = oE T f then g else -1)) := by
  refine Cn.of (by decide) rfl (Nat.le_of_ble_eq_true rfl) 1 rfl (fun oka okm G hR => ?_)
  obtain ⟨a0, a1, a2, a3, a4, a5, a6, a7, a8, a9, a10, a11, a12⟩ := id hO
  obtain ⟨⟨i0, i1, i2, i3⟩, ik, it, ie⟩ := id hrI
  obtain ⟨wt0, wtk, wtt, wtf⟩ := id hwT
  have g1 := it t (by omega) (by omega)
  have j35 : AW E mX8_arrive G 0 0 35 [vR m, vI b, vI f, vI t, vU] [vI (acr T t d)] M := by
    skip
    refine A_istore dX8_arrive_35 (by decide) rfl ?_
    refine A_aload_n dX8_arrive_37 rfl ?_
    refine A_getR dX8_arrive_38 fl_RX8_7 (by assumption) (by rfl) ?_
    refine A_iload_n dX8_arrive_41 rfl ?_
    refine A_bipush dX8_arrive_42 bp_15 (by decide) ?_
    refine A_iadd dX8_arrive_44 ⟨by omega, by omega⟩ ?_
    refine A_iload_n dX8_arrive_45 rfl ?_
    refine A_iadd dX8_arrive_46 ⟨by omega, by omega⟩ ?_
    refine A_iload dX8_arrive_47 rfl ?_
    refine A_iast dX8_arrive_49 (by assumption) (by omega) (by omega) (fun M49 e49 k49 => ?_)
    refine A_aload_n dX8_arrive_50 rfl ?_
    refine A_getR dX8_arrive_51 fl_RX8_7 (by assumption) (by rfl) ?_
    refine A_iload_n dX8_arrive_54 rfl ?_
    refine A_bipush dX8_arrive_55 bp_27 (by decide) ?_
    refine A_iadd dX8_arrive_57 ⟨by omega, by omega⟩ ?_
    refine A_iload_n dX8_arrive_58 rfl ?_
    refine A_iadd dX8_arrive_59 ⟨by omega, by omega⟩ ?_
    refine A_iload_n dX8_arrive_60 rfl ?_
    refine A_iast dX8_arrive_61 (by assumption) (by omega) (by omega) (fun M61 e61 k61 => ?_)
    refine A_aload_n dX8_arrive_62 rfl ?_
    refine A_getR dX8_arrive_63 fl_RX8_7 (by assumption) (by rfl) ?_
    refine A_iload_n dX8_arrive_66 rfl ?_
    refine A_bipush dX8_arrive_67 bp_21 (by decide) ?_
    refine A_iadd dX8_arrive_69 ⟨by omega, by omega⟩ ?_
    refine A_iload_n dX8_arrive_70 rfl ?_
    refine A_iadd dX8_arrive_71 ⟨by omega, by omega⟩ ?_
    refine A_aload_n dX8_arrive_72 rfl ?_
    refine A_iload dX8_arrive_73 rfl ?_
    refine A_aload_n dX8_arrive_75 rfl ?_
    refine A_getR dX8_arrive_76 fl_RX8_7 (by assumption) (by rfl) ?_
    refine A_iload_n dX8_arrive_79 rfl ?_
    refine A_bipush dX8_arrive_80 bp_21 (by decide) ?_
    refine A_iadd dX8_arrive_82 ⟨by omega, by omega⟩ ?_
    refine A_iload_n dX8_arrive_83 rfl ?_
    refine A_iadd dX8_arrive_84 ⟨by omega, by omega⟩ ?_
    refine A_iald dX8_arrive_85 (by assumption) (by omega) (by omega) ?_
    rw [show M61 (m + 1) (b + 21 + f) = s by rw [e61, upm_k (by omega), e49, upm_k (by omega)]; exact hs]
    refine A_vI2 (mj := mX8_sweetAt) dX8_arrive_86 hR.rm (by decide) ok_X8_sweetAt mv_X8_sweetAt ml_RX8_165 (by assumption) rfl rfl rfl (m_sweetAt hO (by omega) (by omega) (by omega) (by omega)) (fun z86 M86 g86 k86 q86 => ?_)
    obtain ⟨e86, q86a⟩ := q86
    subst M86
    rw [show M61 (m + 5) (acr T t d) = oK T (acr T t d) by rw [e61, upm_c (by omega), e49, upm_c (by omega)]; exact ik _ (by omega) (by omega)] at q86a
    subst z86
    refine A_iast dX8_arrive_89 (by assumption) (by omega) (by omega) (fun M89 e89 k89 => ?_)
    refine A_aload_n dX8_arrive_90 rfl ?_
    refine A_getR dX8_arrive_91 fl_RX8_7 (by assumption) (by rfl) ?_
    refine A_iload_n dX8_arrive_94 rfl ?_
    refine A_bipush dX8_arrive_95 bp_33 (by decide) ?_
    refine A_iadd dX8_arrive_97 ⟨by omega, by omega⟩ ?_
    refine A_iload_n dX8_arrive_98 rfl ?_
    refine A_iadd dX8_arrive_99 ⟨by omega, by omega⟩ ?_
    refine A_iload dX8_arrive_100 rfl ?_
    refine A_aload_n dX8_arrive_102 rfl ?_
    refine A_getR dX8_arrive_103 fl_RX8_36 (by assumption) (by rfl) ?_
    refine A_iload_n dX8_arrive_106 rfl ?_
    refine A_iald dX8_arrive_107 (by assumption) (by omega) (by omega) ?_
    rw [show M89 (m + 8) f = oE T f by rw [e89, upm_c (by omega), e61, upm_c (by omega), e49, upm_c (by omega)]; exact ie f (by omega) (by omega)]
    refine A_icmp_ne (tgt := 122) dX8_arrive_108 (by decide) (fun h108 => ?_) (fun h108 => ?_)
    · skip
      refine A_iconst dX8_arrive_122 (by decide) ?_
      refine A_iast dX8_arrive_123 (by assumption) (by omega) (by omega) (fun M123 e123 k123 => ?_)
      refine A_vret hR dX8_arrive_124 rfl ⟨rfl, ?_⟩
      unfold arM
      first
      | (rw [if_pos (by assumption), e123, e89, e61, e49])
      | (rw [if_neg (by assumption), e123, e89, e61, e49])
    · skip
      refine A_aload_n dX8_arrive_111 rfl ?_
      refine A_getR dX8_arrive_112 fl_RX8_7 (by assumption) (by rfl) ?_
      refine A_iload_n dX8_arrive_115 rfl ?_
      refine A_iconst dX8_arrive_116 (by decide) ?_
      refine A_iadd dX8_arrive_117 ⟨by omega, by omega⟩ ?_
      rw [Int.add_zero]
      refine A_iald dX8_arrive_118 (by assumption) (by omega) (by omega) ?_
      rw [show M89 (m + 1) b = g by rw [e89, upm_k (by omega), e61, upm_k (by omega), e49, upm_k (by omega)]; exact hg]
      refine A_goto (tgt := 123) dX8_arrive_119 (by decide) ?_
      refine A_iast dX8_arrive_123 (by assumption) (by omega) (by omega) (fun M123 e123 k123 => ?_)
      refine A_vret hR dX8_arrive_124 rfl ⟨rfl, ?_⟩
      unfold arM
      first
      | (rw [if_pos (by assumption), e123, e89, e61, e49])
      | (rw [if_neg (by assumption), e123, e89, e61, e49])
  refine A_aload_n dX8_arrive_0 rfl ?_
  refine A_getR dX8_arrive_1 fl_RX8_30 (by assumption) (by rfl) ?_
  refine A_iload_n dX8_arrive_4 rfl ?_
  refine A_iald dX8_arrive_5 (by assumption) (by omega) (by omega) ?_
  rw [g1.1]
  refine A_aload_n dX8_arrive_6 rfl ?_
  refine A_getR dX8_arrive_7 fl_RX8_7 (by assumption) (by rfl) ?_
  refine A_iload_n dX8_arrive_10 rfl ?_
  refine A_bipush dX8_arrive_11 bp_15 (by decide) ?_
  refine A_iadd dX8_arrive_13 ⟨by omega, by omega⟩ ?_
  refine A_iload_n dX8_arrive_14 rfl ?_
  refine A_iadd dX8_arrive_15 ⟨by omega, by omega⟩ ?_
  refine A_iald dX8_arrive_16 (by assumption) (by omega) (by omega) ?_
  rw [hd]
  refine A_icmp_ne (tgt := 29) dX8_arrive_17 (by decide) (fun h17 => ?_) (fun h17 => ?_)
  · skip
    refine A_aload_n dX8_arrive_29 rfl ?_
    refine A_getR dX8_arrive_30 fl_RX8_30 (by assumption) (by rfl) ?_
    refine A_iload_n dX8_arrive_33 rfl ?_
    refine A_iald dX8_arrive_34 (by assumption) (by omega) (by omega) ?_
    first
    | (have e : acr T t d = oB T t := by unfold acr; rw [if_pos (by omega)]
       rw [← e]; exact j35)
    | (have e : acr T t d = oA T t := by unfold acr; rw [if_neg (by omega)]
       rw [g1.1, ← e]; exact j35)
  · skip
    refine A_aload_n dX8_arrive_20 rfl ?_
    refine A_getR dX8_arrive_21 fl_RX8_33 (by assumption) (by rfl) ?_
    refine A_iload_n dX8_arrive_24 rfl ?_
    refine A_iald dX8_arrive_25 (by assumption) (by omega) (by omega) ?_
    rw [g1.2]
    refine A_goto (tgt := 35) dX8_arrive_26 (by decide) ?_
    first
    | (have e : acr T t d = oB T t := by unfold acr; rw [if_pos (by omega)]
       rw [← e]; exact j35)
    | (have e : acr T t d = oA T t := by unfold acr; rw [if_neg (by omega)]
       rw [g1.1, ← e]; exact j35)

/-- a trail's scent with what the first files leave, not cut -/
def plN (C : CS) (cr : Fn) (j : Int) : Nat → Int
  | 0 => csS C j
  | n + 1 => if cr n = j then plN C cr j n + csSw C n else plN C cr j n
theorem plN_r {C : CS} {cr : Fn} {j : Int} (h0 : 0 ≤ csS C j) (h1 : csS C j ≤ 99) : ∀ n : Nat, (∀ k : Int, 0 ≤ k → k < n → 0 ≤ csSw C k ∧ csSw C k ≤ 9) → 0 ≤ plN C cr j n ∧ plN C cr j n ≤ 99 + 9 * n ∧ scN C cr j n = min 99 (plN C cr j n)
  | 0, _ => ⟨h0, by unfold plN; omega, by unfold plN scN; omega⟩
  | n + 1, h => by
    obtain ⟨a, b, c⟩ := plN_r (cr := cr) h0 h1 n (fun k x y => h k x (by omega))
    have q := h n (by omega) (by omega)
    unfold plN scN
    split <;> omega
theorem mn_A (T : TD) (C : CS) (f : Int) : csA (mnC T C) f = if crd T C f = -1 then csA C f else acr T (crd T C f) (csA C f) := rfl
theorem mn_Sw (T : TD) (C : CS) (f : Int) : csSw (mnC T C) f = if crd T C f = -1 then csSw C f else swb (oK T (csA (mnC T C) f)) (csSw C f) := rfl
theorem mn_C (T : TD) (C : CS) (f : Int) : csC (mnC T C) f = if crd T C f = -1 then csC C f else crd T C f := rfl
theorem mn_F (T : TD) (C : CS) (f : Int) : csF (mnC T C) f = if crd T C f ≠ -1 ∧ csA (mnC T C) f = oE T f then csG C else csF C f := rfl
theorem mn_W (T : TD) (C : CS) : csW (mnC T C) = if 0 < csW C then csW C - 1 else csW C := rfl
theorem mn_S (T : TD) (C : CS) (j : Int) : csS (mnC T C) j = max 0 (scN C (crd T C) j (oF T) - oFa T) := rfl
set_option maxRecDepth 100000 in
set_option maxHeartbeats 8000000 in
theorem m_minute {E : EN} {l : Launch} {M : Mem} {m b : Nat} {T : TD} {C : CS}(hO : isMod E m) (hrI : rI M m T) (hrM : rM M m b T C) (hwT : wT T) (hwC : wC T C) (hb : b ≤ 156)(hG : csG C < 1000000) : Cn E l mX8_minute 3 [vR m, vI b] M (fun r M1 => r = vU ∧ (frM M M1 m b ∧ rM M1 m b T (mnC T C))) := by
  refine Cn.of (by decide) rfl (Nat.le_of_ble_eq_true rfl) 2 rfl (fun oka okm G hR => ?_)
  obtain ⟨a0, a1, a2, a3, a4, a5, a6, a7, a8, a9, a10, a11, a12⟩ := id hO
  obtain ⟨⟨i0, i1, i2, i3⟩, ik, it, ie⟩ := id hrI
  obtain ⟨⟨c0, c1, c2⟩, cs, cf⟩ := id hrM
  obtain ⟨wt0, wtk, wtt, wtf⟩ := id hwT
  obtain ⟨wc0, wcs, wcf⟩ := id hwC
  refine A_aload_n dX8_minute_0 rfl ?_
  refine A_iload_n dX8_minute_1 rfl ?_
  refine A_vV1 (mj := mX8_layCarried) dX8_minute_2 hR.rm (by decide) ok_X8_layCarried mv_X8_layCarried ml_RX8_176 (by assumption) rfl rfl rfl (m_lay hO hrI hrM hwT hwC hb) (fun M2 k2 q2 => ?_)
  obtain ⟨f2, q9⟩ := q2
  have w1 : M2 (m + 1) = M (m + 1) := f2 _ (by omega)
  have cp : ∀ k : Int, 0 ≤ k → k < oF T → M2 (m + 9) k = crd T C k ∧ -1 ≤ crd T C k ∧ crd T C k < oT T ∧ (crd T C k ≠ -1 → onT T (crd T C k) (csA C k) ∧ csF C k = -1) := fun k x y => ⟨q9 k x y, (crd_p hwC x y).1, (crd_p hwC x y).2.1, fun h => ⟨(crd_p hwC x y).2.2 h, (crd_u x h).1⟩⟩
  have j32 : ∀ M3 : Mem, (∀ y, y ≠ m + 1 → M3 y = M2 y) → (∀ k : Int, k ≠ b + 1 → M3 (m + 1) k = M (m + 1) k) → M3 (m + 1) (b + 1) = csW (mnC T C) → AW E mX8_minute G 0 0 32 [vR m, vI b, vU, vU] [] M3 := by
    intro M3 a1 a2 a3
    refine A_iconst dX8_minute_32 (by decide) ?_
    refine A_istore_n dX8_minute_33 (by decide) rfl ?_
    have lp : ∀ (k : Nat) (i : Nat) (M4 : Mem), oF T - i = k → (i ≤ oF T) → (∀ y, y ≠ m + 1 → M4 y = M2 y) → (∀ k : Int, ¬ ((b : Int) + 3 ≤ k ∧ k < b + 15) → M4 (m + 1) k = M3 (m + 1) k) → (∀ j : Int, 0 ≤ j → j < oT T → M4 (m + 1) (b + 3 + j) = plN C (crd T C) j i) → AW E mX8_minute G 0 0 34 [vR m, vI b, vI i, vU] [] M4 := by
      intro k
      induction k using Nat.strongRecOn with
      | ind k ih =>
        intro i M4 hk h0 hf hg hx
        have rI4 : rI M4 m T := rI_fr hrI (fun y hy => by rw [hf y (by omega), f2 y (by omega)])
        refine A_iload_n dX8_minute_34 rfl ?_
        refine A_aload_n dX8_minute_35 rfl ?_
        refine A_getI (ki := 12) dX8_minute_36 fl_RX8_64 (by assumption) (by rfl) rfl ?_
        rw [rI4.1.2.2.1]
        refine A_icmp_ge (tgt := 87) dX8_minute_39 (by decide) (fun h39 => ?_) (fun h39 => ?_)
        · skip
          have hi : i = oF T := by omega
          subst hi
          refine A_iconst dX8_minute_87 (by decide) ?_
          refine A_istore_n dX8_minute_88 (by decide) rfl ?_
          have lq : ∀ (k : Nat) (i : Nat) (M5 : Mem) (x3 : AV), oT T - i = k → (i ≤ oT T) → (∀ y, y ≠ m + 1 → M5 y = M2 y) → (∀ k : Int, ¬ ((b : Int) + 3 ≤ k ∧ k < b + 15) → M5 (m + 1) k = M3 (m + 1) k) → (∀ j : Int, 0 ≤ j → j < oT T → M5 (m + 1) (b + 3 + j) = if j < i then csS (mnC T C) j else plN C (crd T C) j (oF T)) → AW E mX8_minute G 0 0 89 [vR m, vI b, vI i, x3] [] M5 := by
            intro k
            induction k using Nat.strongRecOn with
            | ind k2 ih2 =>
              intro i M5 x3 hk h0 hf5 hg5 hx5
              have rI4 : rI M5 m T := rI_fr hrI (fun y hy => by rw [hf5 y (by omega), f2 y (by omega)])
              refine A_iload_n dX8_minute_89 rfl ?_
              refine A_aload_n dX8_minute_90 rfl ?_
              refine A_getI (ki := 10) dX8_minute_91 fl_RX8_61 (by assumption) (by rfl) rfl ?_
              rw [rI4.1.2.1]
              refine A_icmp_ge (tgt := 162) dX8_minute_94 (by decide) (fun h94 => ?_) (fun h94 => ?_)
              · skip
                have hi : i = oT T := by omega
                subst hi
                refine A_iconst dX8_minute_162 (by decide) ?_
                refine A_istore_n dX8_minute_163 (by decide) rfl ?_
                have lr : ∀ (k : Nat) (i : Nat) (M6 : Mem), oF T - i = k → (i ≤ oF T) → (∀ y, y ≠ m + 1 → M6 y = M2 y) → (∀ k : Int, k < b + 15 ∨ (b : Int) + 39 ≤ k → M6 (m + 1) k = M5 (m + 1) k) → (∀ k : Int, 0 ≤ k → k < oF T → M6 (m + 1) (b + 15 + k) = (if k < i then csA (mnC T C) k else csA C k) ∧ M6 (m + 1) (b + 21 + k) = (if k < i then csSw (mnC T C) k else csSw C k) ∧ M6 (m + 1) (b + 27 + k) = (if k < i then csC (mnC T C) k else csC C k) ∧ M6 (m + 1) (b + 33 + k) = (if k < i then csF (mnC T C) k else csF C k)) → AW E mX8_minute G 0 0 164 [vR m, vI b, vI i, x3] [] M6 := by
                  intro k
                  induction k using Nat.strongRecOn with
                  | ind k3 ih3 =>
                    intro i M6 hk h0 hf6 hg6 hc
                    have rI4 : rI M6 m T := rI_fr hrI (fun y hy => by rw [hf6 y (by omega), f2 y (by omega)])
                    have hg4 : M6 (m + 1) b = csG C := by rw [hg6 _ (by omega), hg5 _ (by omega), a2 _ (by omega)]; exact c0
                    refine A_iload_n dX8_minute_164 rfl ?_
                    refine A_aload_n dX8_minute_165 rfl ?_
                    refine A_getI (ki := 12) dX8_minute_166 fl_RX8_64 (by assumption) (by rfl) rfl ?_
                    rw [rI4.1.2.2.1]
                    refine A_icmp_ge (tgt := 200) dX8_minute_169 (by decide) (fun h169 => ?_) (fun h169 => ?_)
                    · skip
                      have hi : i = oF T := by omega
                      subst hi
                      refine A_aload_n dX8_minute_200 rfl ?_
                      refine A_getR dX8_minute_201 fl_RX8_7 (by assumption) (by rfl) ?_
                      refine A_iload_n dX8_minute_204 rfl ?_
                      refine A_iconst dX8_minute_205 (by decide) ?_
                      refine A_iadd dX8_minute_206 ⟨by omega, by omega⟩ ?_
                      rw [Int.add_zero]
                      refine A_dup2 dX8_minute_207 rfl rfl ?_
                      refine A_iald dX8_minute_208 (by assumption) (by omega) (by omega) ?_
                      rw [hg4]
                      refine A_iconst dX8_minute_209 (by decide) ?_
                      refine A_iadd dX8_minute_210 ⟨by omega, by omega⟩ ?_
                      refine A_iast dX8_minute_211 (by assumption) (by omega) (by omega) (fun M211 e211 k211 => ?_)
                      exact A_vret hR dX8_minute_212 rfl (by
      refine ⟨rfl, ⟨fun y y1 y2 => by rw [e211, upm_c y1, hf6 y y1, f2 y y2], fun k hk => by rw [e211, upm_k (by omega), hg6 _ (by omega), hg5 _ (by omega), a2 _ (by omega)]⟩, ⟨by rw [e211, upm_s]; rfl, by rw [e211, upm_k (by omega), hg6 _ (by omega), hg5 _ (by omega)]; exact a3, by rw [e211, upm_k (by omega), hg6 _ (by omega), hg5 _ (by omega), a2 _ (by omega)]; exact c2⟩, fun j x y => ?_, fun k x y => ?_⟩
      · rw [e211, upm_k (by omega), hg6 _ (by omega), hx5 j x y, if_pos y]
      · have q0 := hc k x y
        rw [if_pos y, if_pos y, if_pos y, if_pos y] at q0
        rw [e211, upm_k (by omega), upm_k (by omega), upm_k (by omega), upm_k (by omega)]
        exact q0)
                    · skip
                      have c9 := cp i (by omega) (by omega)
                      have w9 : M6 (m + 9) i = crd T C i := by rw [hf6 _ (by omega)]; exact c9.1
                      refine A_aload_n dX8_minute_172 rfl ?_
                      refine A_getR dX8_minute_173 fl_RX8_42 (by assumption) (by rfl) ?_
                      refine A_iload_n dX8_minute_176 rfl ?_
                      refine A_iald dX8_minute_177 (by assumption) (by omega) (by omega) ?_
                      rw [w9]
                      refine A_iconst dX8_minute_178 (by decide) ?_
                      refine A_icmp_eq (tgt := 194) dX8_minute_179 (by decide) (fun h179 => ?_) (fun h179 => ?_)
                      · skip
                        refine A_iinc dX8_minute_194 (by decide) rfl rfl ⟨by omega, by omega⟩ ?_
                        refine A_goto (tgt := 164) dX8_minute_197 (by decide) ?_
                        refine ih3 _ (by omega) (i + 1) M6 rfl (by omega) hf6 hg6 (fun k x y => ?_)
                        have hn : crd T C i = -1 := by omega
                        have q0 := hc k x y
                        by_cases q : k < i
                        · rw [if_pos q, if_pos q, if_pos q, if_pos q] at q0
                          rw [if_pos (by omega), if_pos (by omega), if_pos (by omega), if_pos (by omega)]
                          exact q0
                        · rw [if_neg q, if_neg q, if_neg q, if_neg q] at q0
                          by_cases q2 : k = i
                          · subst q2
                            rw [if_pos (by omega), if_pos (by omega), if_pos (by omega), if_pos (by omega), mn_A, mn_Sw, mn_C, mn_F, if_pos hn, if_pos hn, if_pos hn, if_neg (fun z => z.1 hn)]
                            exact q0
                          · rw [if_neg (by omega), if_neg (by omega), if_neg (by omega), if_neg (by omega)]
                            exact q0
                      · skip
                        have hn : crd T C i ≠ -1 := h179
                        have ar := acr_r hwT (by omega) c9.2.2.1 (c9.2.2.2 hn).1
                        have f3 := wcf i (by omega) (by omega)
                        refine A_aload_n dX8_minute_182 rfl ?_
                        refine A_iload_n dX8_minute_183 rfl ?_
                        refine A_iload_n dX8_minute_184 rfl ?_
                        refine A_aload_n dX8_minute_185 rfl ?_
                        refine A_getR dX8_minute_186 fl_RX8_42 (by assumption) (by rfl) ?_
                        refine A_iload_n dX8_minute_189 rfl ?_
                        refine A_iald dX8_minute_190 (by assumption) (by omega) (by omega) ?_
                        rw [w9]
                        refine A_vV3 (mj := mX8_arrive) dX8_minute_191 hR.rm (by decide) ok_X8_arrive mv_X8_arrive ml_RX8_179 (by assumption) rfl rfl rfl (m_arrive (f := (i : Int)) (t := crd T C i) (d := csA C i) (s := csSw C i) (g := csG C) hO rI4 hwT hb (by omega) (by omega) (by omega) c9.2.2.1 (by have := (hc i (by omega) (by omega)).1; rw [if_neg (by omega)] at this; exact this) (by have := (hc i (by omega) (by omega)).2.1; rw [if_neg (by omega)] at this; exact this) (by omega) hg4 ⟨ar.1, ar.2.1⟩) (fun M191 k191 q191 => ?_)
                        skip
                        refine A_iinc dX8_minute_194 (by decide) rfl rfl ⟨by omega, by omega⟩ ?_
                        refine A_goto (tgt := 164) dX8_minute_197 (by decide) ?_
                        unfold arM at q191
                        refine ih3 _ (by omega) (i + 1) M191 rfl (by omega) (fun y hy => by rw [q191, upm_c hy, upm_c hy, upm_c hy, upm_c hy]; exact hf6 y hy) (fun k hk => by rw [q191, upm_k (by omega), upm_k (by omega), upm_k (by omega), upm_k (by omega)]; exact hg6 k hk) (fun k x y => ?_)
                        have q0 := hc k x y
                        by_cases q2 : k = i
                        · subst q2
                          rw [if_pos (by omega), if_pos (by omega), if_pos (by omega), if_pos (by omega), mn_F, mn_Sw, mn_C, mn_A, if_neg hn, if_neg hn, if_neg hn]
                          rw [q191]
                          refine ⟨?_, ?_, ?_, ?_⟩
                          · rw [upm_k (by omega), upm_k (by omega), upm_k (by omega), upm_s]
                          · rw [upm_k (by omega), upm_s]
                          · rw [upm_k (by omega), upm_k (by omega), upm_s]
                          · rw [upm_s]
                            by_cases z : acr T (crd T C i) (csA C i) = oE T i
                            · rw [if_pos z, if_pos ⟨hn, z⟩]
                            · rw [if_neg z, if_neg (fun w => z w.2)]; exact (c9.2.2.2 hn).2.symm
                        · have u : ∀ o : Int, o = 15 ∨ o = 21 ∨ o = 27 ∨ o = 33 → M191 (m + 1) (b + o + k) = M6 (m + 1) (b + o + k) := fun o ho => by
                            rw [q191, upm_k (by omega), upm_k (by omega), upm_k (by omega), upm_k (by omega)]
                          rw [u 15 (by omega), u 21 (by omega), u 27 (by omega), u 33 (by omega)]
                          by_cases q : k < i
                          · rw [if_pos q, if_pos q, if_pos q, if_pos q] at q0
                            rw [if_pos (by omega), if_pos (by omega), if_pos (by omega), if_pos (by omega)]
                            exact q0
                          · rw [if_neg q, if_neg q, if_neg q, if_neg q] at q0
                            rw [if_neg (by omega), if_neg (by omega), if_neg (by omega), if_neg (by omega)]
                            exact q0
                exact lr _ 0 M5 rfl (by omega) hf5 (fun _ _ => rfl) (fun k x y => by rw [if_neg (by omega), if_neg (by omega), if_neg (by omega), if_neg (by omega), hg5 _ (by omega), hg5 _ (by omega), hg5 _ (by omega), hg5 _ (by omega), a2 _ (by omega), a2 _ (by omega), a2 _ (by omega), a2 _ (by omega)]; exact cf k x y)
              · skip
                have pr := plN_r (cr := crd T C) (wcs i (by omega) (by omega)).1 (wcs i (by omega) (by omega)).2 (oF T) (fun k x y => ⟨(wcf k x y).2.2.1, (wcf k x y).2.2.2.1⟩)
                have v5 : M5 (m + 1) (b + 3 + i) = plN C (crd T C) i (oF T) := by rw [hx5 i (by omega) (by omega), if_neg (by omega)]
                have j127 : ∀ v : Int, v = min 99 (plN C (crd T C) i (oF T)) → AW E mX8_minute G 0 0 127 [vR m, vI b, vI i, x3] [vI v] M5 := by
                  intro v hv
                  skip
                  refine A_istore_n dX8_minute_127 (by decide) rfl ?_
                  refine A_aload_n dX8_minute_128 rfl ?_
                  refine A_getR dX8_minute_129 fl_RX8_7 (by assumption) (by rfl) ?_
                  refine A_iload_n dX8_minute_132 rfl ?_
                  refine A_iconst dX8_minute_133 (by decide) ?_
                  refine A_iadd dX8_minute_134 ⟨by omega, by omega⟩ ?_
                  refine A_iload_n dX8_minute_135 rfl ?_
                  refine A_iadd dX8_minute_136 ⟨by omega, by omega⟩ ?_
                  refine A_iload_n dX8_minute_137 rfl ?_
                  refine A_aload_n dX8_minute_138 rfl ?_
                  refine A_getI (ki := 13) dX8_minute_139 fl_RX8_39 (by assumption) (by rfl) rfl ?_
                  rw [rI4.1.2.2.2]
                  refine A_icmp_le (tgt := 154) dX8_minute_142 (by decide) (fun h142 => ?_) (fun h142 => ?_)
                  · skip
                    refine A_iconst dX8_minute_154 (by decide) ?_
                    refine A_iast dX8_minute_155 (by assumption) (by omega) (by omega) (fun M155 e155 k155 => ?_)
                    refine A_iinc dX8_minute_156 (by decide) rfl rfl ⟨by omega, by omega⟩ ?_
                    refine A_goto (tgt := 89) dX8_minute_159 (by decide) ?_
                    refine ih2 _ (by omega) (i + 1) M155 _ rfl (by omega) (fun y hy => by rw [e155, upm_c hy]; exact hf5 y hy) (fun k hk => by rw [e155, upm_k (by omega)]; exact hg5 k hk) (fun j x y => ?_)
                    rw [e155, upm_x]
                    by_cases e : j = i
                    · rw [if_pos ⟨rfl, by omega⟩, if_pos (by omega), e, mn_S, pr.2.2]
                      omega
                    · rw [if_neg (fun z => e (by omega)), hx5 j x y]
                      by_cases q : j < i
                      · rw [if_pos q, if_pos (by omega)]
                      · rw [if_neg q, if_neg (by omega)]
                  · skip
                    refine A_iload_n dX8_minute_145 rfl ?_
                    refine A_aload_n dX8_minute_146 rfl ?_
                    refine A_getI (ki := 13) dX8_minute_147 fl_RX8_39 (by assumption) (by rfl) rfl ?_
                    rw [rI4.1.2.2.2]
                    refine A_isub dX8_minute_150 ⟨by omega, by omega⟩ ?_
                    refine A_goto (tgt := 155) dX8_minute_151 (by decide) ?_
                    refine A_iast dX8_minute_155 (by assumption) (by omega) (by omega) (fun M155 e155 k155 => ?_)
                    refine A_iinc dX8_minute_156 (by decide) rfl rfl ⟨by omega, by omega⟩ ?_
                    refine A_goto (tgt := 89) dX8_minute_159 (by decide) ?_
                    refine ih2 _ (by omega) (i + 1) M155 _ rfl (by omega) (fun y hy => by rw [e155, upm_c hy]; exact hf5 y hy) (fun k hk => by rw [e155, upm_k (by omega)]; exact hg5 k hk) (fun j x y => ?_)
                    rw [e155, upm_x]
                    by_cases e : j = i
                    · rw [if_pos ⟨rfl, by omega⟩, if_pos (by omega), e, mn_S, pr.2.2]
                      omega
                    · rw [if_neg (fun z => e (by omega)), hx5 j x y]
                      by_cases q : j < i
                      · rw [if_pos q, if_pos (by omega)]
                      · rw [if_neg q, if_neg (by omega)]
                refine A_aload_n dX8_minute_97 rfl ?_
                refine A_getR dX8_minute_98 fl_RX8_7 (by assumption) (by rfl) ?_
                refine A_iload_n dX8_minute_101 rfl ?_
                refine A_iconst dX8_minute_102 (by decide) ?_
                refine A_iadd dX8_minute_103 ⟨by omega, by omega⟩ ?_
                refine A_iload_n dX8_minute_104 rfl ?_
                refine A_iadd dX8_minute_105 ⟨by omega, by omega⟩ ?_
                refine A_iald dX8_minute_106 (by assumption) (by omega) (by omega) ?_
                rw [v5]
                refine A_bipush dX8_minute_107 bp_99 (by decide) ?_
                refine A_icmp_le (tgt := 117) dX8_minute_109 (by decide) (fun h109 => ?_) (fun h109 => ?_)
                · skip
                  refine A_aload_n dX8_minute_117 rfl ?_
                  refine A_getR dX8_minute_118 fl_RX8_7 (by assumption) (by rfl) ?_
                  refine A_iload_n dX8_minute_121 rfl ?_
                  refine A_iconst dX8_minute_122 (by decide) ?_
                  refine A_iadd dX8_minute_123 ⟨by omega, by omega⟩ ?_
                  refine A_iload_n dX8_minute_124 rfl ?_
                  refine A_iadd dX8_minute_125 ⟨by omega, by omega⟩ ?_
                  refine A_iald dX8_minute_126 (by assumption) (by omega) (by omega) ?_
                  first | exact j127 99 (by omega) | (rw [v5]; exact j127 (plN C (crd T C) i (oF T)) (by omega))
                · skip
                  refine A_bipush dX8_minute_112 bp_99 (by decide) ?_
                  refine A_goto (tgt := 127) dX8_minute_114 (by decide) ?_
                  first | exact j127 99 (by omega) | (rw [v5]; exact j127 (plN C (crd T C) i (oF T)) (by omega))
          exact lq _ 0 M4 vU rfl (by omega) hf hg (fun j x y => by rw [if_neg (by omega)]; exact hx j x y)
        · skip
          have c9 := cp i (by omega) (by omega)
          have w9 : M4 (m + 9) i = crd T C i := by rw [hf _ (by omega)]; exact c9.1
          refine A_aload_n dX8_minute_42 rfl ?_
          refine A_getR dX8_minute_43 fl_RX8_42 (by assumption) (by rfl) ?_
          refine A_iload_n dX8_minute_46 rfl ?_
          refine A_iald dX8_minute_47 (by assumption) (by omega) (by omega) ?_
          rw [w9]
          refine A_iconst dX8_minute_48 (by decide) ?_
          refine A_icmp_eq (tgt := 81) dX8_minute_49 (by decide) (fun h49 => ?_) (fun h49 => ?_)
          · skip
            refine A_iinc dX8_minute_81 (by decide) rfl rfl ⟨by omega, by omega⟩ ?_
            refine A_goto (tgt := 34) dX8_minute_84 (by decide) ?_
            refine ih _ (by omega) (i + 1) M4 rfl (by omega) hf hg (fun j x y => ?_)
            rw [plN, if_neg (by omega)]; exact hx j x y
          · skip
            refine A_aload_n dX8_minute_52 rfl ?_
            refine A_getR dX8_minute_53 fl_RX8_7 (by assumption) (by rfl) ?_
            refine A_iload_n dX8_minute_56 rfl ?_
            refine A_iconst dX8_minute_57 (by decide) ?_
            refine A_iadd dX8_minute_58 ⟨by omega, by omega⟩ ?_
            refine A_aload_n dX8_minute_59 rfl ?_
            refine A_getR dX8_minute_60 fl_RX8_42 (by assumption) (by rfl) ?_
            refine A_iload_n dX8_minute_63 rfl ?_
            refine A_iald dX8_minute_64 (by assumption) (by omega) (by omega) ?_
            rw [w9]
            refine A_iadd dX8_minute_65 ⟨by omega, by omega⟩ ?_
            refine A_dup2 dX8_minute_66 rfl rfl ?_
            refine A_iald dX8_minute_67 (by assumption) (by omega) (by omega) ?_
            rw [hx (crd T C i) (by omega) c9.2.2.1]
            have pr := plN_r (cr := crd T C) (wcs (crd T C i) (by omega) c9.2.2.1).1 (wcs (crd T C i) (by omega) c9.2.2.1).2 i (fun k x y => ⟨(wcf k x (by omega)).2.2.1, (wcf k x (by omega)).2.2.2.1⟩)
            have f3 := wcf i (by omega) (by omega)
            refine A_aload_n dX8_minute_68 rfl ?_
            refine A_getR dX8_minute_69 fl_RX8_7 (by assumption) (by rfl) ?_
            refine A_iload_n dX8_minute_72 rfl ?_
            refine A_bipush dX8_minute_73 bp_21 (by decide) ?_
            refine A_iadd dX8_minute_75 ⟨by omega, by omega⟩ ?_
            refine A_iload_n dX8_minute_76 rfl ?_
            refine A_iadd dX8_minute_77 ⟨by omega, by omega⟩ ?_
            refine A_iald dX8_minute_78 (by assumption) (by omega) (by omega) ?_
            rw [show M4 (m + 1) (b + 21 + i) = csSw C i by rw [hg _ (by omega), a2 _ (by omega)]; exact (cf i (by omega) (by omega)).2.1]
            refine A_iadd dX8_minute_79 ⟨by omega, by omega⟩ ?_
            refine A_iast dX8_minute_80 (by assumption) (by omega) (by omega) (fun M80 e80 k80 => ?_)
            refine A_iinc dX8_minute_81 (by decide) rfl rfl ⟨by omega, by omega⟩ ?_
            refine A_goto (tgt := 34) dX8_minute_84 (by decide) ?_
            refine ih _ (by omega) (i + 1) M80 rfl (by omega) (fun y hy => by rw [e80, upm_c hy]; exact hf y hy) (fun k hk => by rw [e80, upm_k (by omega)]; exact hg k hk) (fun j x y => ?_)
            rw [e80, upm_x, plN]
            by_cases e : crd T C i = j
            · rw [if_pos ⟨rfl, by omega⟩, if_pos e, e]
            · rw [if_neg (fun z => e (by omega)), if_neg e]; exact hx j x y
    exact lp _ 0 M3 rfl (by omega) a1 (fun _ _ => rfl) (fun j x y => by rw [a2 _ (by omega)]; exact cs j x y)
  refine A_aload_n dX8_minute_5 rfl ?_
  refine A_getR dX8_minute_6 fl_RX8_7 (by assumption) (by rfl) ?_
  refine A_iload_n dX8_minute_9 rfl ?_
  refine A_iconst dX8_minute_10 (by decide) ?_
  refine A_iadd dX8_minute_11 ⟨by omega, by omega⟩ ?_
  refine A_dup2 dX8_minute_12 rfl rfl ?_
  refine A_iald dX8_minute_13 (by assumption) (by omega) (by omega) ?_
  rw [w1, c1]
  refine A_aload_n dX8_minute_14 rfl ?_
  refine A_getR dX8_minute_15 fl_RX8_7 (by assumption) (by rfl) ?_
  refine A_iload_n dX8_minute_18 rfl ?_
  refine A_iconst dX8_minute_19 (by decide) ?_
  refine A_iadd dX8_minute_20 ⟨by omega, by omega⟩ ?_
  refine A_iald dX8_minute_21 (by assumption) (by omega) (by omega) ?_
  rw [w1, c1]
  refine A_if_le (tgt := 29) dX8_minute_22 (by decide) (fun h22 => ?_) (fun h22 => ?_)
  · skip
    refine A_iconst dX8_minute_29 (by decide) ?_
    refine A_isub dX8_minute_30 ⟨by omega, by omega⟩ ?_
    refine A_iast dX8_minute_31 (by assumption) (by omega) (by omega) (fun M31 e31 k31 => ?_)
    exact j32 M31 (fun y hy => by rw [e31, upm_c hy]) (fun k hk => by rw [e31, upm_k hk, w1]) (by rw [e31, upm_s, mn_W, if_neg (by omega)]; omega)
  · skip
    refine A_iconst dX8_minute_25 (by decide) ?_
    refine A_goto (tgt := 30) dX8_minute_26 (by decide) ?_
    refine A_isub dX8_minute_30 ⟨by omega, by omega⟩ ?_
    refine A_iast dX8_minute_31 (by assumption) (by omega) (by omega) (fun M31 e31 k31 => ?_)
    exact j32 M31 (fun y hy => by rw [e31, upm_c hy]) (fun k hk => by rw [e31, upm_k hk, w1]) (by rw [e31, upm_s, mn_W, if_pos (by omega)])

