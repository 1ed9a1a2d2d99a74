/-! constants, and the library members that are used -/
theorem bp_m5 : (Int8.ofInt (-5)).toInt32 = i32 (-5) := by decide +kernel
theorem bp_m4 : (Int8.ofInt (-4)).toInt32 = i32 (-4) := by decide +kernel
theorem bp_m3 : (Int8.ofInt (-3)).toInt32 = i32 (-3) := by decide +kernel
theorem bp_m2 : (Int8.ofInt (-2)).toInt32 = i32 (-2) := by decide +kernel
theorem bp_6 : (Int8.ofInt 6).toInt32 = i32 6 := by decide +kernel
theorem bp_7 : (Int8.ofInt 7).toInt32 = i32 7 := by decide +kernel
theorem bp_8 : (Int8.ofInt 8).toInt32 = i32 8 := by decide +kernel
theorem bp_9 : (Int8.ofInt 9).toInt32 = i32 9 := by decide +kernel
theorem bp_10 : (Int8.ofInt 10).toInt32 = i32 10 := by decide +kernel
theorem bp_12 : (Int8.ofInt 12).toInt32 = i32 12 := by decide +kernel
theorem bp_15 : (Int8.ofInt 15).toInt32 = i32 15 := by decide +kernel
theorem bp_18 : (Int8.ofInt 18).toInt32 = i32 18 := by decide +kernel
theorem bp_21 : (Int8.ofInt 21).toInt32 = i32 21 := by decide +kernel
theorem bp_27 : (Int8.ofInt 27).toInt32 = i32 27 := by decide +kernel
theorem bp_31 : (Int8.ofInt 31).toInt32 = i32 31 := by decide +kernel
theorem bp_32 : (Int8.ofInt 32).toInt32 = i32 32 := by decide +kernel
theorem bp_33 : (Int8.ofInt 33).toInt32 = i32 33 := by decide +kernel
theorem bp_39 : (Int8.ofInt 39).toInt32 = i32 39 := by decide +kernel
theorem bp_48 : (Int8.ofInt 48).toInt32 = i32 48 := by decide +kernel
theorem bp_57 : (Int8.ofInt 57).toInt32 = i32 57 := by decide +kernel
theorem bp_59 : (Int8.ofInt 59).toInt32 = i32 59 := by decide +kernel
theorem bp_60 : (Int8.ofInt 60).toInt32 = i32 60 := by decide +kernel
theorem bp_96 : (Int8.ofInt 96).toInt32 = i32 96 := by decide +kernel
theorem bp_97 : (Int8.ofInt 97).toInt32 = i32 97 := by decide +kernel
theorem bp_99 : (Int8.ofInt 99).toInt32 = i32 99 := by decide +kernel
theorem bp_100 : (Int8.ofInt 100).toInt32 = i32 100 := by decide +kernel
theorem bp_117 : (Int8.ofInt 117).toInt32 = i32 117 := by decide +kernel
theorem bp_119 : (Int8.ofInt 119).toInt32 = i32 119 := by decide +kernel
theorem bp_120 : (Int8.ofInt 120).toInt32 = i32 120 := by decide +kernel
theorem bp_122 : (Int8.ofInt 122).toInt32 = i32 122 := by decide +kernel
theorem sp_156 : (Int16.ofInt 156).toInt32 = i32 156 := by decide +kernel
theorem sp_157 : (Int16.ofInt 157).toInt32 = i32 157 := by decide +kernel
theorem sp_195 : (Int16.ofInt 195).toInt32 = i32 195 := by decide +kernel
theorem sp_200 : (Int16.ofInt 200).toInt32 = i32 200 := by decide +kernel
theorem sp_255 : (Int16.ofInt 255).toInt32 = i32 255 := by decide +kernel
theorem sp_9999 : (Int16.ofInt 9999).toInt32 = i32 9999 := by decide +kernel
theorem kc_RX7_78 : Cond.constantLong RX7 78 (i64 255) ∈ TB := tb_t 315 (by decide +kernel) (by decide +kernel)
theorem kc_RJ6_265 : Cond.constant RJ6 265 (i32 1431655765) ∈ TB := tb_t 653 (by decide +kernel) (by decide +kernel)
theorem kc_RJ6_266 : Cond.constant RJ6 266 (i32 858993459) ∈ TB := tb_t 654 (by decide +kernel) (by decide +kernel)
theorem kc_RJ6_267 : Cond.constant RJ6 267 (i32 252645135) ∈ TB := tb_t 655 (by decide +kernel) (by decide +kernel)
theorem kc_RX8_71 : Cond.constantLong RX8 71 (i64 8) ∈ TB := tb_t 871 (by decide +kernel) (by decide +kernel)
theorem kc_RX8_80 : Cond.constantLong RX8 80 (i64 255) ∈ TB := tb_t 875 (by decide +kernel) (by decide +kernel)
theorem kc_RX8_95 : Cond.constant RX8 95 (i32 14976400) ∈ TB := tb_t 903 (by decide +kernel) (by decide +kernel)
theorem kc_RX8_100 : Cond.constant RX8 100 (i32 20286764) ∈ TB := tb_t 908 (by decide +kernel) (by decide +kernel)
theorem kc_RX8_101 : Cond.constant RX8 101 (i32 654739091) ∈ TB := tb_t 909 (by decide +kernel) (by decide +kernel)
theorem kc_RX8_102 : Cond.constant RX8 102 (i32 605434019) ∈ TB := tb_t 910 (by decide +kernel) (by decide +kernel)
theorem kc_RX8_107 : Cond.constant RX8 107 (i32 171219151) ∈ TB := tb_t 911 (by decide +kernel) (by decide +kernel)
theorem kc_RX8_108 : Cond.constant RX8 108 (i32 12879444) ∈ TB := tb_t 912 (by decide +kernel) (by decide +kernel)
theorem kc_RX8_109 : Cond.constant RX8 109 (i32 176422) ∈ TB := tb_t 913 (by decide +kernel) (by decide +kernel)
theorem kc_RX8_110 : Cond.constant RX8 110 (i32 167974) ∈ TB := tb_t 914 (by decide +kernel) (by decide +kernel)
theorem kc_RX8_111 : Cond.constant RX8 111 (i32 609892663) ∈ TB := tb_t 915 (by decide +kernel) (by decide +kernel)
theorem kc_RX8_163 : Cond.constantLong RX8 163 (i64 4) ∈ TB := tb_t 965 (by decide +kernel) (by decide +kernel)
theorem kc_RX8_183 : Cond.constantLong RX8 183 (i64 99) ∈ TB := tb_t 974 (by decide +kernel) (by decide +kernel)
theorem kc_RX8_188 : Cond.constantLong RX8 188 (i64 9) ∈ TB := tb_t 1007 (by decide +kernel) (by decide +kernel)
theorem kc_RX8_190 : Cond.constantLong RX8 190 (i64 2) ∈ TB := tb_t 1028 (by decide +kernel) (by decide +kernel)
theorem kc_RX8_210 : Cond.constantLong RX8 210 (i64 60) ∈ TB := tb_t 1049 (by decide +kernel) (by decide +kernel)
theorem kc_RX8_215 : Cond.constant RX8 215 (i32 268435456) ∈ TB := tb_t 1071 (by decide +kernel) (by decide +kernel)
theorem kc_RL_13 : Cond.constantLong RL 13 (i64 4294967295) ∈ TB := tb_t 1120 (by decide +kernel) (by decide +kernel)
theorem mx_s_max : Cond.static Lib.Math.max.name ∈ TB := tb_t 529 (by decide +kernel) (by decide +kernel)
theorem mx_c_max : Cond.code Lib.Math.max.name Lib.Math.max.code 2 (some .int) ∈ TB := tb_t 530 (by decide +kernel) (by decide +kernel)
theorem mx_s_min : Cond.static Lib.Math.min.name ∈ TB := tb_t 532 (by decide +kernel) (by decide +kernel)
theorem mx_c_min : Cond.code Lib.Math.min.name Lib.Math.min.code 2 (some .int) ∈ TB := tb_t 533 (by decide +kernel) (by decide +kernel)
theorem mx_i : Cond.initialized "java/lang/Math" ∈ TB := tb_t 16 (by decide +kernel) (by decide +kernel)
theorem ac_n : Cond.native arraycopyName ∈ TB := tb_t 216 (by decide +kernel) (by decide +kernel)
theorem ac_s : Cond.static arraycopyName ∈ TB := tb_t 215 (by decide +kernel) (by decide +kernel)
theorem ac_i : Cond.initialized "java/lang/System" ∈ TB := tb_t 7 (by decide +kernel) (by decide +kernel)
theorem ml_RX0_50 : Cond.methodLink RX0 50 arraycopyName ∈ TB := tb_t 214 (by decide +kernel) (by decide +kernel)
theorem ml_RX6_59 : Cond.methodLink RX6 59 arraycopyName ∈ TB := tb_t 340 (by decide +kernel) (by decide +kernel)
section ROWS3
variable {E : EN} {mi : MI} {G : CX} {kc ns pc : Nat} {L st : List AV} {M : Mem}
theorem A_mmax {x y : Int} {idx d : Nat} (hd : decode mi.2.1 pc = .ok (.invokestatic idx, 3)) (hR : Rm G d kc ns) (h1 : 1 ≤ d) (hlink : Cond.methodLink mi.1.cls idx Lib.Math.max.name ∈ TB) (hw : Nat.ble (wts st) 8 = true) (kk : AW E mi G kc ns (pc + 3) L (vI (max x y) :: st) M) : AW E mi G kc ns pc L (vI y :: vI x :: st) M := by
  intro C hs hL hst hM H locs ls hP hS hl
  have hy : rng y := okhd hst
  have hx : rng x := okhd (oktl hst)
  have hr : rng (max x y) := ⟨by have := hy.1; have := hx.1; omega, by have := hy.2; have := hx.2; omega⟩
  have w := kk C hs hL (okc1 hr (oktl (oktl hst))) hM H locs ls hP hS hl
  refine va_mmax (x := i32 x) (y := i32 y) (own := mi.1.cls) C.1 C.2.1 (C.2.2.1.trans hl.1.symm) C.2.2.2.2.1 (C.2.2.2.2.2.1 _ hlink) (C.2.2.2.2.2.1 _ mx_s_max) (C.2.2.2.2.2.1 _ mx_i) (C.2.2.2.2.2.1 _ mx_c_max) (Nat.le_trans h1 hR.1) ?_ hR.2.2.1 hR.2.2.2 hd ?_
  · rw [wts_eq]; have := Nat.le_of_ble_eq_true hw; have := hR.2.1; omega
  · have e : (if i32 x < i32 y then i32 y else i32 x) = i32 (max x y) := by
      split
      · rename_i h
        rw [i32_lt hx hy] at h
        congr 1; omega
      · rename_i h
        rw [i32_lt hx hy] at h
        congr 1; omega
    rw [e]
    exact w
theorem A_mmin {x y : Int} {idx d : Nat} (hd : decode mi.2.1 pc = .ok (.invokestatic idx, 3)) (hR : Rm G d kc ns) (h1 : 1 ≤ d) (hlink : Cond.methodLink mi.1.cls idx Lib.Math.min.name ∈ TB) (hw : Nat.ble (wts st) 8 = true) (kk : AW E mi G kc ns (pc + 3) L (vI (min x y) :: st) M) : AW E mi G kc ns pc L (vI y :: vI x :: st) M := by
  intro C hs hL hst hM H locs ls hP hS hl
  have hy : rng y := okhd hst
  have hx : rng x := okhd (oktl hst)
  have hr : rng (min x y) := ⟨by have := hy.1; have := hx.1; omega, by have := hy.2; have := hx.2; omega⟩
  have w := kk C hs hL (okc1 hr (oktl (oktl hst))) hM H locs ls hP hS hl
  refine va_mmin (x := i32 x) (y := i32 y) (own := mi.1.cls) C.1 C.2.1 (C.2.2.1.trans hl.1.symm) C.2.2.2.2.1 (C.2.2.2.2.2.1 _ hlink) (C.2.2.2.2.2.1 _ mx_s_min) (C.2.2.2.2.2.1 _ mx_i) (C.2.2.2.2.2.1 _ mx_c_min) (Nat.le_trans h1 hR.1) ?_ hR.2.2.1 hR.2.2.2 hd ?_
  · rw [wts_eq]; have := Nat.le_of_ble_eq_true hw; have := hR.2.1; omega
  · have e : (if i32 y < i32 x then i32 y else i32 x) = i32 (min x y) := by
      split
      · rename_i h
        rw [i32_lt hy hx] at h
        congr 1; omega
      · rename_i h
        rw [i32_lt hy hx] at h
        congr 1; omega
    rw [e]
    exact w
theorem WS_set' {E : EN} {M M1 : Mem} {c : Nat} {x : va_E} (hc : c < eN E) (hx : x = ccell E M1 c) (ho : ∀ i, i ≠ c → M1 i = M i) : (WS E M).set c (eAd E c, x) = WS E M1 := by
  subst hx
  apply List.ext_getElem?
  intro i
  by_cases hi : i < eN E
  · rw [WS_at hi, List.getElem?_set]
    by_cases hci : c = i
    · subst hci
      simp [WS, hc]
    · rw [if_neg hci, WS_at hi]
      have : ccell E M1 i = ccell E M i := by
        unfold ccell fval
        rw [ho i (fun h => hci h.symm)]
      rw [this]
  · rw [List.getElem?_eq_none (by simp [WS]; omega), List.getElem?_eq_none (by simp [WS]; omega)]
/-- n places of a row from another one -/
def cpm (M : Mem) (s t : Nat) (n : Int) : Mem := fun c k => if c = t ∧ 0 ≤ k ∧ k < n then M s k else M c k
theorem A_acopy {s t n1 n2 idx d : Nat} {n : Int} {g1 g2 : Nat → Option Nat} (hd : decode mi.2.1 pc = .ok (.invokestatic idx, 3)) (hR : Rm G d kc ns) (h1 : 1 ≤ d) (hlink : Cond.methodLink mi.1.cls idx arraycopyName ∈ TB) (hw : Nat.ble (wts st) 8 = true) (ha : At E s (aI n1 g1)) (hb : At E t (aI n2 g2)) (h0 : 0 ≤ n) (hn1 : n ≤ n1) (hn2 : n ≤ n2) (kk : ∀ M1 : Mem, M1 = cpm M s t n → okM M1 → AW E mi G kc ns (pc + 3) L st M1) : AW E mi G kc ns pc L (vI n :: vI 0 :: vR t :: vI 0 :: vR s :: st) M := by
  intro C hs hL hst hM H locs ls hP hS hl
  have hr : rng n := okhd hst
  have hM1 : okM (cpm M s t n) := fun c k => by
    unfold cpm
    split <;> exact hM _ _
  have z0 : (i32 0).toNatClampNeg = 0 := i32_clamp (by omega) ⟨by omega, by omega⟩
  have zn : (i32 n).toNatClampNeg = n.toNat := i32_clamp h0 hr
  have hnew : (Sum.inl ((eCs E).1, n2, Sum.inl (va_cpy (fun k : Nat => i32 (M s k)) (fun k : Nat => i32 (M t k)) 0 0 n.toNat)) : va_E) = ccell E (cpm M s t n) t := by
    unfold ccell; rw [hb.2]
    refine congrArg _ (congrArg _ (congrArg _ (congrArg _ ?_)))
    funext k
    unfold va_cpy cpm
    by_cases hk : k < n.toNat
    · rw [if_pos ⟨by omega, by omega⟩, if_pos ⟨rfl, by omega, by omega⟩]
      rw [show 0 + (k - 0) = k by omega]
    · rw [if_neg (by omega), if_neg (by omega)]
  refine va_copyi (sp := i32 0) (dp := i32 0) (n := i32 n) (own := mi.1.cls) C.1 C.2.1 (C.2.2.1.trans hl.1.symm) C.2.2.2.2.1 (C.2.2.2.2.2.1 _ hlink) (C.2.2.2.2.2.1 _ ac_n) (C.2.2.2.2.2.1 _ ac_s) (C.2.2.2.2.2.1 _ ac_i) hs.1 hP (hs.2.1.D M) hS s t 0 0 ha.ai hb.ai rfl rfl rfl (i32_nn (by omega) ⟨by omega, by omega⟩) (i32_nn (by omega) ⟨by omega, by omega⟩) (i32_nn h0 hr) (by rw [z0, zn]; omega) (by rw [z0, zn]; omega) (fun i hi => rfl) (Nat.le_trans h1 hR.1) ?_ hd (fun H1 locs1 hP1 hD1 hS1 => ?_)
  · rw [wts_eq]
    have := Nat.le_of_ble_eq_true hw; have := hR.2.1
    have e : nativeFrameWords "java/lang/System" "arraycopy" 5 + 11 ≤ 30 := by decide
    omega
  · rw [z0, zn, WS_set' hb.1 hnew (fun i hi => by funext k; unfold cpm; rw [if_neg (fun q => hi q.1)])] at hP1
    exact kk _ rfl hM1 C hs hL (oktl (oktl (oktl (oktl (oktl hst))))) hM1 H1 locs1 ls hP1 hS1 hl
theorem A_iushr {x y z : Int} (hd : decode mi.2.1 pc = .ok (.iushr, 1)) (he : ((i32 x).toUInt32 >>> ((i32 y).toUInt32 &&& Int32.toUInt32 31)).toInt32 = i32 z) (hr : rng z) (kk : AW E mi G kc ns (pc + 1) L (vI z :: st) M) : AW E mi G kc ns pc L (vI y :: vI x :: st) M := by
  intro C hs hL hst hM H locs ls hP hS hl
  exact lv_iushr (x := i32 x) (y := i32 y) C.1 C.2.1 hd he (kk C hs hL (okc1 hr (oktl (oktl hst))) hM H locs ls hP hS hl)
theorem A_ldcw {index : Nat} {n : Int} (hd : decode mi.2.1 pc = .ok (.ldc_w index, 3)) (hw : Cond.constant mi.1.cls index (i32 n) ∈ TB) (hr : rng n) (kk : AW E mi G kc ns (pc + 3) L (vI n :: st) M) : AW E mi G kc ns pc L st M := by
  intro C hs hL hst hM H locs ls hP hS hl
  exact lv_ldcw (own := mi.1.cls) (v := i32 n) C.1 C.2.1 C.2.2.2.2.1 (C.2.2.2.2.2.1 _ hw) hd (kk C hs hL (okc1 hr hst) hM H locs ls hP hS hl)
end ROWS3
/-- n places of a row all alike -/
def flm (M : Mem) (c : Nat) (n v : Int) : Mem := fun c' k => if c' = c ∧ 0 ≤ k ∧ k < n then v else M c' k
theorem flm_o {M : Mem} {c c' : Nat} {n v : Int} (h : c' ≠ c) : flm M c n v c' = M c' := by funext k; unfold flm; rw [if_neg (fun q => h q.1)]
theorem flm_i {M : Mem} {c : Nat} {n v k : Int} (h0 : 0 ≤ k) (h : k < n) : flm M c n v c k = v := by unfold flm; rw [if_pos ⟨rfl, h0, h⟩]
theorem cpm_o {M : Mem} {s t c' : Nat} {n : Int} (h : c' ≠ t) : cpm M s t n c' = M c' := by funext k; unfold cpm; rw [if_neg (fun q => h q.1)]
theorem cpm_i {M : Mem} {s t : Nat} {n k : Int} (h0 : 0 ≤ k) (h : k < n) : cpm M s t n t k = M s k := by unfold cpm; rw [if_pos ⟨rfl, h0, h⟩]
set_option maxRecDepth 100000 in
set_option maxHeartbeats 4000000 in
theorem c_fill {E : EN} {l : Launch} {M : Mem} {c n : Nat} {v : Int} {g : Nat → Option Nat} (ha : At E c (aI n g)) (hn : n < 2147483648) : Cn E l mJ7_fill_53178 0 [vR c, vI v] M (fun r M1 => r = vU ∧ M1 = flm M c n v) := by
  refine Cn.of (by decide) rfl (Nat.le_of_ble_eq_true rfl) 2 rfl (fun oka okm G hR => ?_)
  refine A_iconst dJ7_fill_53178_0 (by decide) ?_
  refine A_istore_n dJ7_fill_53178_1 (by decide) rfl ?_
  refine A_aload_n dJ7_fill_53178_2 rfl ?_
  refine A_alen dJ7_fill_53178_3 (by assumption) (by omega) ?_
  refine A_istore_n dJ7_fill_53178_4 (by decide) rfl ?_
  have lp : ∀ (k : Nat) (i : Int) (M1 : Mem), ((n : Int) - i).toNat = k → 0 ≤ i → i ≤ n → M1 = flm M c i v → AW E mJ7_fill_53178 G 0 0 5 [vR c, vI v, vI i, vI n] [] M1 := by
    intro k
    induction k using Nat.strongRecOn with
    | ind k ih =>
      intro i M1 hk h0 h1 hM
      refine A_iload_n dJ7_fill_53178_5 rfl ?_
      refine A_iload_n dJ7_fill_53178_6 rfl ?_
      refine A_icmp_ge (tgt := 20) dJ7_fill_53178_7 (by decide) (fun h7 => ?_) (fun h7 => ?_)
      · skip
        have hi : i = n := by omega
        subst hi
        exact A_vret hR dJ7_fill_53178_20 rfl ⟨rfl, hM⟩
      · skip
        refine A_aload_n dJ7_fill_53178_10 rfl ?_
        refine A_iload_n dJ7_fill_53178_11 rfl ?_
        refine A_iload_n dJ7_fill_53178_12 rfl ?_
        refine A_iast dJ7_fill_53178_13 (by assumption) (by omega) (by omega) (fun M13 e13 k13 => ?_)
        refine A_iinc dJ7_fill_53178_14 (by decide) rfl rfl ⟨by omega, by omega⟩ ?_
        refine A_goto (tgt := 5) dJ7_fill_53178_17 (by decide) ?_
        refine ih _ ?_ (i + 1) M13 rfl (by omega) (by omega) ?_
        · omega
        · rw [e13, hM]
          funext c' k'
          unfold upm flm
          by_cases hc : c' = c
          · by_cases hk' : k' = i
            · subst hk'; rw [if_pos ⟨hc, rfl⟩, if_pos ⟨hc, by omega, by omega⟩]
            · rw [if_neg (fun q => hk' q.2)]
              by_cases h5 : 0 ≤ k' ∧ k' < i
              · rw [if_pos ⟨hc, h5.1, h5.2⟩, if_pos ⟨hc, h5.1, by omega⟩]
              · rw [if_neg (fun q => h5 q.2), if_neg (fun q => h5 ⟨q.2.1, by omega⟩)]
          · rw [if_neg (fun q => hc q.1), if_neg (fun q => hc q.1), if_neg (fun q => hc q.1)]
  exact lp _ 0 M rfl (by omega) (by omega) (by funext c' k; unfold flm; rw [if_neg (by omega)])

