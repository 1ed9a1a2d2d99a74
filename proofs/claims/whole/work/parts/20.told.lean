/-! TOLD: the class's picture, and its methods -/
abbrev nG : Nat → Option Nat := fun _ => none
abbrev rf (j : Nat) : Option (Option Nat) := some (some j)
def isTold (E : EN) (t : Nat) : Prop := At E t (.inl (6, [none, none, none, none, none, rf (t + 1), rf (t + 2), rf (t + 3), rf (t + 4), rf (t + 5), rf (t + 6), rf (t + 7)])) ∧ At E (t + 1) (aI 8 nG) ∧ At E (t + 2) (aI 12 nG) ∧ At E (t + 3) (aI 12 nG) ∧ At E (t + 4) (aI 12 nG) ∧ At E (t + 5) (aI 6 nG) ∧ At E (t + 6) (aI 6 nG) ∧ At E (t + 7) (aI 6 nG)
theorem upm_x {M : Mem} {c c' : Nat} {k k' v : Int} : upm M c k v c' k' = if c' = c ∧ k' = k then v else M c' k' := rfl
theorem cpm_x {M : Mem} {s t c' : Nat} {n k' : Int} : cpm M s t n c' k' = if c' = t ∧ 0 ≤ k' ∧ k' < n then M s k' else M c' k' := rfl
theorem flm_x {M : Mem} {c c' : Nat} {n v k' : Int} : flm M c n v c' k' = if c' = c ∧ 0 ≤ k' ∧ k' < n then v else M c' k' := rfl
set_option maxRecDepth 100000 in
set_option maxHeartbeats 4000000 in
theorem c_isOf {E : EN} {l : Launch} {M : Mem} {t : Nat} {j d : Int} (hT : isTold E t) (h0 : 0 ≤ j) (h1 : j < 12) : Cn E l mX6_isOf 0 [vR t, vI j, vI d] M (fun r M1 => ∃ z, r = vI z ∧ (M1 = M ∧ (z = 0 ∨ z = 1) ∧ (z = 1 ↔ (M (t + 2) j = d ∨ M (t + 3) j = d)))) := by
  refine Cn.of (by decide) rfl (Nat.le_of_ble_eq_true rfl) 0 rfl (fun oka okm G hR => ?_)
  obtain ⟨aT0, aT1, aT2, aT3, aT4, aT5, aT6, aT7⟩ := hT
  refine A_aload_n dX6_isOf_0 rfl ?_
  refine A_getR dX6_isOf_1 fl_RX6_15 (by assumption) (by rfl) ?_
  refine A_iload_n dX6_isOf_4 rfl ?_
  refine A_iald dX6_isOf_5 (by assumption) (by omega) (by omega) ?_
  refine A_iload_n dX6_isOf_6 rfl ?_
  refine A_icmp_eq (tgt := 20) dX6_isOf_7 (by decide) (fun h7 => ?_) (fun h7 => ?_)
  · skip
    refine A_iconst dX6_isOf_20 (by decide) ?_
    refine A_goto (tgt := 25) dX6_isOf_21 (by decide) ?_
    exact A_zret hR dX6_isOf_25 rfl (by first | exact Or.inl rfl | exact Or.inr rfl | omega) ⟨_, rfl, rfl, by omega, by omega⟩
  · skip
    refine A_aload_n dX6_isOf_10 rfl ?_
    refine A_getR dX6_isOf_11 fl_RX6_18 (by assumption) (by rfl) ?_
    refine A_iload_n dX6_isOf_14 rfl ?_
    refine A_iald dX6_isOf_15 (by assumption) (by omega) (by omega) ?_
    refine A_iload_n dX6_isOf_16 rfl ?_
    refine A_icmp_ne (tgt := 24) dX6_isOf_17 (by decide) (fun h17 => ?_) (fun h17 => ?_)
    · skip
      refine A_iconst dX6_isOf_24 (by decide) ?_
      exact A_zret hR dX6_isOf_25 rfl (by first | exact Or.inl rfl | exact Or.inr rfl | omega) ⟨_, rfl, rfl, by omega, by omega⟩
    · skip
      refine A_iconst dX6_isOf_20 (by decide) ?_
      refine A_goto (tgt := 25) dX6_isOf_21 (by decide) ?_
      exact A_zret hR dX6_isOf_25 rfl (by first | exact Or.inl rfl | exact Or.inr rfl | omega) ⟨_, rfl, rfl, by omega, by omega⟩

/-- how many of the first trails are of a desk -/
def trN (A B : Int → Int) (d : Int) : Nat → Int
  | 0 => 0
  | n + 1 => if A n = d ∨ B n = d then trN A B d n + 1 else trN A B d n
theorem trN_r (A B : Int → Int) (d : Int) : ∀ n : Nat, 0 ≤ trN A B d n ∧ trN A B d n ≤ n
  | 0 => ⟨by unfold trN; omega, by unfold trN; omega⟩
  | n + 1 => by
    have := trN_r A B d n
    unfold trN
    split <;> omega
set_option maxRecDepth 100000 in
set_option maxHeartbeats 4000000 in
theorem c_trailsOf {E : EN} {l : Launch} {M : Mem} {t n : Nat} {d : Int} (hT : isTold E t) (hn : M t 1 = n) (h1 : n ≤ 12) : Cn E l mX6_trailsOf 1 [vR t, vI d] M (fun r M1 => ∃ z, r = vI z ∧ (M1 = M ∧ z = trN (M (t + 2)) (M (t + 3)) d n)) := by
  refine Cn.of (by decide) rfl (Nat.le_of_ble_eq_true rfl) 2 rfl (fun oka okm G hR => ?_)
  obtain ⟨aT0, aT1, aT2, aT3, aT4, aT5, aT6, aT7⟩ := hT
  refine A_iconst dX6_trailsOf_0 (by decide) ?_
  refine A_istore_n dX6_trailsOf_1 (by decide) rfl ?_
  refine A_iconst dX6_trailsOf_2 (by decide) ?_
  refine A_istore_n dX6_trailsOf_3 (by decide) rfl ?_
  have lp : ∀ (k : Nat) (i : Nat) (x : Int), n - i = k → (i ≤ n) → (x = trN (M (t + 2)) (M (t + 3)) d i) → AW E mX6_trailsOf G 0 0 4 [vR t, vI d, vI x, vI i] [] M := by
    intro k
    induction k using Nat.strongRecOn with
    | ind k ih =>
      intro i x hk h0 hx
      refine A_iload_n dX6_trailsOf_4 rfl ?_
      refine A_aload_n dX6_trailsOf_5 rfl ?_
      refine A_getI (ki := 1) dX6_trailsOf_6 fl_RX6_41 (by assumption) (by rfl) rfl ?_
      refine A_icmp_ge (tgt := 30) dX6_trailsOf_9 (by decide) (fun h9 => ?_) (fun h9 => ?_)
      · skip
        have hi : i = n := by omega
        subst hi
        refine A_iload_n dX6_trailsOf_30 rfl ?_
        exact A_iret hR dX6_trailsOf_31 rfl ⟨_, rfl, rfl, hx⟩
      · skip
        refine A_aload_n dX6_trailsOf_12 rfl ?_
        refine A_iload_n dX6_trailsOf_13 rfl ?_
        refine A_iload_n dX6_trailsOf_14 rfl ?_
        refine A_vI2 (mj := mX6_isOf) dX6_trailsOf_15 hR.rm (by decide) ok_X6_isOf mv_X6_isOf ml_RX6_65 (by assumption) rfl rfl rfl (c_isOf (t := t) (by exact ⟨aT0, aT1, aT2, aT3, aT4, aT5, aT6, aT7⟩) (by omega) (by omega)) (fun z15 M15 g15 k15 q15 => ?_)
        obtain ⟨e15, q15a, q15b⟩ := q15
        subst M15
        refine A_if_eq (tgt := 24) dX6_trailsOf_18 (by decide) (fun h18 => ?_) (fun h18 => ?_)
        · skip
          refine A_iinc dX6_trailsOf_24 (by decide) rfl rfl ⟨by omega, by omega⟩ ?_
          refine A_goto (tgt := 4) dX6_trailsOf_27 (by decide) ?_
          refine ih _ ?_ (i + 1) _ rfl (by omega) ?_
          · omega
          · unfold trN
            first | rw [if_pos (by omega)]; omega | rw [if_neg (by omega)]; omega
        · skip
          have hb := trN_r (M (t + 2)) (M (t + 3)) d i
          refine A_iinc dX6_trailsOf_21 (by decide) rfl rfl ⟨by omega, by omega⟩ ?_
          refine A_iinc dX6_trailsOf_24 (by decide) rfl rfl ⟨by omega, by omega⟩ ?_
          refine A_goto (tgt := 4) dX6_trailsOf_27 (by decide) ?_
          refine ih _ ?_ (i + 1) _ rfl (by omega) ?_
          · omega
          · unfold trN
            first | rw [if_pos (by omega)]; omega | rw [if_neg (by omega)]; omega
  exact lp _ 0 0 rfl (by omega) rfl

set_option maxRecDepth 100000 in
set_option maxHeartbeats 4000000 in
theorem c_across {E : EN} {l : Launch} {M : Mem} {t : Nat} {j d : Int} (hT : isTold E t) (h0 : 0 ≤ j) (h1 : j < 12) : Cn E l mX6_across 0 [vR t, vI j, vI d] M (fun r M1 => ∃ z, r = vI z ∧ (M1 = M ∧ z = if M (t + 2) j = d then M (t + 3) j else M (t + 2) j)) := by
  refine Cn.of (by decide) rfl (Nat.le_of_ble_eq_true rfl) 0 rfl (fun oka okm G hR => ?_)
  obtain ⟨aT0, aT1, aT2, aT3, aT4, aT5, aT6, aT7⟩ := hT
  refine A_aload_n dX6_across_0 rfl ?_
  refine A_getR dX6_across_1 fl_RX6_15 (by assumption) (by rfl) ?_
  refine A_iload_n dX6_across_4 rfl ?_
  refine A_iald dX6_across_5 (by assumption) (by omega) (by omega) ?_
  refine A_iload_n dX6_across_6 rfl ?_
  refine A_icmp_ne (tgt := 19) dX6_across_7 (by decide) (fun h7 => ?_) (fun h7 => ?_)
  · skip
    refine A_aload_n dX6_across_19 rfl ?_
    refine A_getR dX6_across_20 fl_RX6_15 (by assumption) (by rfl) ?_
    refine A_iload_n dX6_across_23 rfl ?_
    refine A_iald dX6_across_24 (by assumption) (by omega) (by omega) ?_
    exact A_iret hR dX6_across_25 rfl ⟨_, rfl, rfl, by simp_all⟩
  · skip
    refine A_aload_n dX6_across_10 rfl ?_
    refine A_getR dX6_across_11 fl_RX6_18 (by assumption) (by rfl) ?_
    refine A_iload_n dX6_across_14 rfl ?_
    refine A_iald dX6_across_15 (by assumption) (by omega) (by omega) ?_
    refine A_goto (tgt := 25) dX6_across_16 (by decide) ?_
    exact A_iret hR dX6_across_25 rfl ⟨_, rfl, rfl, by simp_all⟩

set_option maxRecDepth 100000 in
set_option maxHeartbeats 4000000 in
theorem c_isA {E : EN} {l : Launch} {M : Mem} {t : Nat} {d a : Int} (hT : isTold E t) (h0 : 0 ≤ d) (h1 : d < 8) : Cn E l mX6_isA 0 [vR t, vI d, vI a] M (fun r M1 => ∃ z, r = vI z ∧ (M1 = M ∧ (z = 0 ∨ z = 1) ∧ (z = 1 ↔ (a = 0 ∨ a = 1 ∧ M (t + 1) d ≠ 3 ∨ a = 2 ∧ M (t + 1) d = 1 ∨ a = 3 ∧ M (t + 1) d = 2 ∨ a = 4 ∧ M (t + 1) d = 3)))) := by
  refine Cn.of (by decide) rfl (Nat.le_of_ble_eq_true rfl) 0 rfl (fun oka okm G hR => ?_)
  obtain ⟨aT0, aT1, aT2, aT3, aT4, aT5, aT6, aT7⟩ := hT
  refine A_iload_n dX6_isA_0 rfl ?_
  rcases (show a = 0 ∨ a = 1 ∨ a = 2 ∨ a = 3 ∨ a = 4 ∨ (a < 0 ∨ 4 < a) by omega) with h1 | h1 | h1 | h1 | h1 | h1
  · refine A_tsIn (tgt := 36) dX6_isA_1 0 (by omega) (by omega) rfl (by decide) ?_
    refine A_iconst dX6_isA_36 (by decide) ?_
    exact A_zret hR dX6_isA_37 rfl (by first | exact Or.inl rfl | exact Or.inr rfl | omega) ⟨_, rfl, rfl, by omega, by omega⟩
  · refine A_tsIn (tgt := 38) dX6_isA_1 1 (by omega) (by omega) rfl (by decide) ?_
    refine A_aload_n dX6_isA_38 rfl ?_
    refine A_getR dX6_isA_39 fl_RX6_9 (by assumption) (by rfl) ?_
    refine A_iload_n dX6_isA_42 rfl ?_
    refine A_iald dX6_isA_43 (by assumption) (by omega) (by omega) ?_
    refine A_iconst dX6_isA_44 (by decide) ?_
    refine A_icmp_eq (tgt := 52) dX6_isA_45 (by decide) (fun h45 => ?_) (fun h45 => ?_)
    · skip
      refine A_iconst dX6_isA_52 (by decide) ?_
      exact A_zret hR dX6_isA_53 rfl (by first | exact Or.inl rfl | exact Or.inr rfl | omega) ⟨_, rfl, rfl, by omega, by omega⟩
    · skip
      refine A_iconst dX6_isA_48 (by decide) ?_
      refine A_goto (tgt := 53) dX6_isA_49 (by decide) ?_
      exact A_zret hR dX6_isA_53 rfl (by first | exact Or.inl rfl | exact Or.inr rfl | omega) ⟨_, rfl, rfl, by omega, by omega⟩
  · refine A_tsIn (tgt := 54) dX6_isA_1 2 (by omega) (by omega) rfl (by decide) ?_
    refine A_aload_n dX6_isA_54 rfl ?_
    refine A_getR dX6_isA_55 fl_RX6_9 (by assumption) (by rfl) ?_
    refine A_iload_n dX6_isA_58 rfl ?_
    refine A_iald dX6_isA_59 (by assumption) (by omega) (by omega) ?_
    refine A_iconst dX6_isA_60 (by decide) ?_
    refine A_icmp_ne (tgt := 68) dX6_isA_61 (by decide) (fun h61 => ?_) (fun h61 => ?_)
    · skip
      refine A_iconst dX6_isA_68 (by decide) ?_
      exact A_zret hR dX6_isA_69 rfl (by first | exact Or.inl rfl | exact Or.inr rfl | omega) ⟨_, rfl, rfl, by omega, by omega⟩
    · skip
      refine A_iconst dX6_isA_64 (by decide) ?_
      refine A_goto (tgt := 69) dX6_isA_65 (by decide) ?_
      exact A_zret hR dX6_isA_69 rfl (by first | exact Or.inl rfl | exact Or.inr rfl | omega) ⟨_, rfl, rfl, by omega, by omega⟩
  · refine A_tsIn (tgt := 70) dX6_isA_1 3 (by omega) (by omega) rfl (by decide) ?_
    refine A_aload_n dX6_isA_70 rfl ?_
    refine A_getR dX6_isA_71 fl_RX6_9 (by assumption) (by rfl) ?_
    refine A_iload_n dX6_isA_74 rfl ?_
    refine A_iald dX6_isA_75 (by assumption) (by omega) (by omega) ?_
    refine A_iconst dX6_isA_76 (by decide) ?_
    refine A_icmp_ne (tgt := 84) dX6_isA_77 (by decide) (fun h77 => ?_) (fun h77 => ?_)
    · skip
      refine A_iconst dX6_isA_84 (by decide) ?_
      exact A_zret hR dX6_isA_85 rfl (by first | exact Or.inl rfl | exact Or.inr rfl | omega) ⟨_, rfl, rfl, by omega, by omega⟩
    · skip
      refine A_iconst dX6_isA_80 (by decide) ?_
      refine A_goto (tgt := 85) dX6_isA_81 (by decide) ?_
      exact A_zret hR dX6_isA_85 rfl (by first | exact Or.inl rfl | exact Or.inr rfl | omega) ⟨_, rfl, rfl, by omega, by omega⟩
  · refine A_tsIn (tgt := 86) dX6_isA_1 4 (by omega) (by omega) rfl (by decide) ?_
    refine A_aload_n dX6_isA_86 rfl ?_
    refine A_getR dX6_isA_87 fl_RX6_9 (by assumption) (by rfl) ?_
    refine A_iload_n dX6_isA_90 rfl ?_
    refine A_iald dX6_isA_91 (by assumption) (by omega) (by omega) ?_
    refine A_iconst dX6_isA_92 (by decide) ?_
    refine A_icmp_ne (tgt := 100) dX6_isA_93 (by decide) (fun h93 => ?_) (fun h93 => ?_)
    · skip
      refine A_iconst dX6_isA_100 (by decide) ?_
      exact A_zret hR dX6_isA_101 rfl (by first | exact Or.inl rfl | exact Or.inr rfl | omega) ⟨_, rfl, rfl, by omega, by omega⟩
    · skip
      refine A_iconst dX6_isA_96 (by decide) ?_
      refine A_goto (tgt := 101) dX6_isA_97 (by decide) ?_
      exact A_zret hR dX6_isA_101 rfl (by first | exact Or.inl rfl | exact Or.inr rfl | omega) ⟨_, rfl, rfl, by omega, by omega⟩
  · refine A_tsOut (tgt := 102) dX6_isA_1 (by omega) (by decide) ?_
    refine A_iconst dX6_isA_102 (by decide) ?_
    exact A_zret hR dX6_isA_103 rfl (by first | exact Or.inl rfl | exact Or.inr rfl | omega) ⟨_, rfl, rfl, by omega, by omega⟩

/-- what a sweetness becomes at a desk of a kind -/
def swb (k v : Int) : Int := if k = 1 then max 0 (v - 1) else if k = 2 then min 9 (v + 1) else v
set_option maxRecDepth 100000 in
set_option maxHeartbeats 4000000 in
theorem c_swb {E : EN} {l : Launch} {M : Mem} {t : Nat} {d v : Int} (hT : isTold E t) (h0 : 0 ≤ d) (h1 : d < 8) (h2 : 0 ≤ v) (h3 : v ≤ 9) : Cn E l mX6_sweetnessBehind 1 [vR t, vI d, vI v] M (fun r M1 => ∃ z, r = vI z ∧ (M1 = M ∧ z = swb (M (t + 1) d) v)) := by
  refine Cn.of (by decide) rfl (Nat.le_of_ble_eq_true rfl) 0 rfl (fun oka okm G hR => ?_)
  obtain ⟨aT0, aT1, aT2, aT3, aT4, aT5, aT6, aT7⟩ := hT
  refine A_aload_n dX6_sweetnessBehind_0 rfl ?_
  refine A_getR dX6_sweetnessBehind_1 fl_RX6_9 (by assumption) (by rfl) ?_
  refine A_iload_n dX6_sweetnessBehind_4 rfl ?_
  refine A_iald dX6_sweetnessBehind_5 (by assumption) (by omega) (by omega) ?_
  rcases (show M (t + 1) d = 1 ∨ M (t + 1) d = 2 ∨ (M (t + 1) d ≠ 1 ∧ M (t + 1) d ≠ 2) by omega) with h6 | h6 | h6
  · refine A_ls (tgt := 32) (off := 26) dX6_sweetnessBehind_6 (by decide) (by rw [h6]; rfl) (by decide) ?_
    refine A_iconst dX6_sweetnessBehind_32 (by decide) ?_
    refine A_iload_n dX6_sweetnessBehind_33 rfl ?_
    refine A_iconst dX6_sweetnessBehind_34 (by decide) ?_
    refine A_isub dX6_sweetnessBehind_35 ⟨by omega, by omega⟩ ?_
    refine A_mmax (d := 1) dX6_sweetnessBehind_36 hR.rm (by decide) ml_RX6_69 rfl ?_
    exact A_iret hR dX6_sweetnessBehind_39 rfl ⟨_, rfl, rfl, by unfold swb; first | rw [if_pos (by assumption)] | rw [if_neg (by omega), if_pos (by assumption)] | rw [if_neg (by omega), if_neg (by omega)]⟩
  · refine A_ls (tgt := 40) (off := 34) dX6_sweetnessBehind_6 (by decide) (by rw [h6]; rfl) (by decide) ?_
    refine A_bipush dX6_sweetnessBehind_40 bp_9 (by decide) ?_
    refine A_iload_n dX6_sweetnessBehind_42 rfl ?_
    refine A_iconst dX6_sweetnessBehind_43 (by decide) ?_
    refine A_iadd dX6_sweetnessBehind_44 ⟨by omega, by omega⟩ ?_
    refine A_mmin (d := 1) dX6_sweetnessBehind_45 hR.rm (by decide) ml_RX6_75 rfl ?_
    exact A_iret hR dX6_sweetnessBehind_48 rfl ⟨_, rfl, rfl, by unfold swb; first | rw [if_pos (by assumption)] | rw [if_neg (by omega), if_pos (by assumption)] | rw [if_neg (by omega), if_neg (by omega)]⟩
  · refine A_ls (tgt := 49) (off := 43) dX6_sweetnessBehind_6 (by decide) (by rw [Op.lookupswitch.offset_cons, if_neg (fun q => by omega), Op.lookupswitch.offset_cons, if_neg (fun q => by omega)]; rfl) (by decide) ?_
    refine A_iload_n dX6_sweetnessBehind_49 rfl ?_
    exact A_iret hR dX6_sweetnessBehind_50 rfl ⟨_, rfl, rfl, by unfold swb; first | rw [if_pos (by assumption)] | rw [if_neg (by omega), if_pos (by assumption)] | rw [if_neg (by omega), if_neg (by omega)]⟩

set_option maxRecDepth 100000 in
set_option maxHeartbeats 4000000 in
theorem c_addTrail {E : EN} {l : Launch} {M : Mem} {t : Nat} {a b s : Int} (hT : isTold E t) (h0 : 0 ≤ M t 1) (h1 : M t 1 < 12) : Cn E l mX6_addTrail 0 [vR t, vI a, vI b, vI s] M (fun r M1 => r = vU ∧ M1 = upm (upm (upm (upm M (t + 2) (M t 1) a) (t + 3) (M t 1) b) (t + 4) (M t 1) s) t 1 (M t 1 + 1)) := by
  refine Cn.of (by decide) rfl (Nat.le_of_ble_eq_true rfl) 0 rfl (fun oka okm G hR => ?_)
  obtain ⟨aT0, aT1, aT2, aT3, aT4, aT5, aT6, aT7⟩ := hT
  refine A_aload_n dX6_addTrail_0 rfl ?_
  refine A_getI (ki := 1) dX6_addTrail_1 fl_RX6_41 (by assumption) (by rfl) rfl ?_
  refine A_bipush dX6_addTrail_4 bp_12 (by decide) ?_
  refine A_icmp_lt (tgt := 10) dX6_addTrail_6 (by decide) (fun h6 => ?_) (fun h6 => ?_)
  · skip
    refine A_aload_n dX6_addTrail_10 rfl ?_
    refine A_getR dX6_addTrail_11 fl_RX6_15 (by assumption) (by rfl) ?_
    refine A_aload_n dX6_addTrail_14 rfl ?_
    refine A_getI (ki := 1) dX6_addTrail_15 fl_RX6_41 (by assumption) (by rfl) rfl ?_
    refine A_iload_n dX6_addTrail_18 rfl ?_
    refine A_iast dX6_addTrail_19 (by assumption) (by omega) (by omega) (fun M19 e19 k19 => ?_)
    refine A_aload_n dX6_addTrail_20 rfl ?_
    refine A_getR dX6_addTrail_21 fl_RX6_18 (by assumption) (by rfl) ?_
    have w19 : M19 t = M t := by rw [e19]; exact upm_c (by omega)
    refine A_aload_n dX6_addTrail_24 rfl ?_
    skip
    refine A_getI (ki := 1) dX6_addTrail_25 fl_RX6_41 (by assumption) (by rfl) rfl ?_
    rw [w19]
    refine A_iload_n dX6_addTrail_28 rfl ?_
    refine A_iast dX6_addTrail_29 (by assumption) (by omega) (by omega) (fun M29 e29 k29 => ?_)
    refine A_aload_n dX6_addTrail_30 rfl ?_
    refine A_getR dX6_addTrail_31 fl_RX6_21 (by assumption) (by rfl) ?_
    have w29 : M29 t = M t := by rw [e29, upm_c (by omega)]; exact w19
    refine A_aload_n dX6_addTrail_34 rfl ?_
    refine A_getI (ki := 1) dX6_addTrail_35 fl_RX6_41 (by assumption) (by rfl) rfl ?_
    rw [w29]
    refine A_iload_n dX6_addTrail_38 rfl ?_
    refine A_iast dX6_addTrail_39 (by assumption) (by omega) (by omega) (fun M39 e39 k39 => ?_)
    have w39 : M39 t = M t := by rw [e39, upm_c (by omega)]; exact w29
    refine A_aload_n dX6_addTrail_40 rfl ?_
    refine A_dup dX6_addTrail_41 rfl ?_
    refine A_getI (ki := 1) dX6_addTrail_42 fl_RX6_41 (by assumption) (by rfl) rfl ?_
    rw [w39]
    refine A_iconst dX6_addTrail_45 (by decide) ?_
    refine A_iadd dX6_addTrail_46 ⟨by omega, by omega⟩ ?_
    refine A_putI (ki := 1) dX6_addTrail_47 fl_RX6_41 fi6_1 (by assumption) (by rfl) rfl (fun M47 e47 k47 => ?_)
    skip
    exact A_vret hR dX6_addTrail_50 rfl ⟨rfl, by rw [e47, e39, e29, e19]⟩
  · skip
    omega

set_option maxRecDepth 100000 in
set_option maxHeartbeats 4000000 in
theorem c_becomeNew {E : EN} {l : Launch} {M : Mem} {t : Nat} {n : Int} (hT : isTold E t) : Cn E l mX6_becomeNew 1 [vR t, vI n] M (fun r M1 => r = vU ∧ M1 = flm (upm (upm (upm (upm (upm M t 0 n) t 1 0) t 2 0) t 3 1) t 4 0) (t + 1) 8 0) := by
  refine Cn.of (by decide) rfl (Nat.le_of_ble_eq_true rfl) 0 rfl (fun oka okm G hR => ?_)
  obtain ⟨aT0, aT1, aT2, aT3, aT4, aT5, aT6, aT7⟩ := hT
  refine A_aload_n dX6_becomeNew_0 rfl ?_
  refine A_iload_n dX6_becomeNew_1 rfl ?_
  refine A_putI (ki := 0) dX6_becomeNew_2 fl_RX6_37 fi6_0 (by assumption) (by rfl) rfl (fun M2 e2 k2 => ?_)
  refine A_aload_n dX6_becomeNew_5 rfl ?_
  refine A_iconst dX6_becomeNew_6 (by decide) ?_
  refine A_putI (ki := 1) dX6_becomeNew_7 fl_RX6_41 fi6_1 (by assumption) (by rfl) rfl (fun M7 e7 k7 => ?_)
  refine A_aload_n dX6_becomeNew_10 rfl ?_
  refine A_iconst dX6_becomeNew_11 (by decide) ?_
  refine A_putI (ki := 2) dX6_becomeNew_12 fl_RX6_44 fi6_2 (by assumption) (by rfl) rfl (fun M12 e12 k12 => ?_)
  refine A_aload_n dX6_becomeNew_15 rfl ?_
  refine A_iconst dX6_becomeNew_16 (by decide) ?_
  refine A_putI (ki := 3) dX6_becomeNew_17 fl_RX6_47 fi6_3 (by assumption) (by rfl) rfl (fun M17 e17 k17 => ?_)
  refine A_aload_n dX6_becomeNew_20 rfl ?_
  refine A_iconst dX6_becomeNew_21 (by decide) ?_
  refine A_putI (ki := 4) dX6_becomeNew_22 fl_RX6_50 fi6_4 (by assumption) (by rfl) rfl (fun M22 e22 k22 => ?_)
  refine A_aload_n dX6_becomeNew_25 rfl ?_
  refine A_getR dX6_becomeNew_26 fl_RX6_9 (by assumption) (by rfl) ?_
  refine A_iconst dX6_becomeNew_29 (by decide) ?_
  refine A_sV2 (mj := mJ7_fill_53178) dX6_becomeNew_30 hR.rm (by decide) ok_J7_fill_53178 st_J7_fill_53178 ml_RX6_53 rfl (c_fill (n := 8) aT1 (by omega)) (fun M30 k30 q30 => ?_)
  subst q30
  exact A_vret hR dX6_becomeNew_33 rfl ⟨rfl, by rw [e22, e17, e12, e7, e2]; rfl⟩

