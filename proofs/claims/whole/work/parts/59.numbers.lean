/-! THE TEXT: numbers, and what a line tells -/
def vlN (x : Fn) (a b : Nat) : Int := if b = a + 2 then 10 * (x a - 48) + x (a + 1) - 48 else x a - 48
def rdN (x : Fn) (n p : Nat) (lo hi : Int) : Int := if tkA x n p < n ∧ srt (x (tkA x n p)) = 2 ∧ tkB x n p ≤ tkA x n p + 2 ∧ lo ≤ vlN x (tkA x n p) (tkB x n p) ∧ vlN x (tkA x n p) (tkB x n p) ≤ hi then vlN x (tkA x n p) (tkB x n p) else -1
theorem rdN_r (x : Fn) (n p : Nat) {lo hi : Int} (h : 0 ≤ lo) : rdN x n p lo hi = -1 ∨ lo ≤ rdN x n p lo hi ∧ rdN x n p lo hi ≤ hi := by
  unfold rdN
  split
  · next q => exact Or.inr q.2.2.2
  · exact Or.inl rfl
/-- the rest of a line behind its word: the fault's place or -1, where it ends, its numbers -/
def rsR (x : Fn) (n q : Nat) (w : Int) (D : Nat) : Int × Nat × Int × Int × Int :=
  if w = 5 ∨ w = 6 then
    (if rdN x n q 0 (D - 1) = -1 then ((tkA x n q : Nat), 0, 0, 0, 0)
     else if rdN x n (tkB x n q) 0 (D - 1) = -1 ∨ rdN x n (tkB x n q) 0 (D - 1) = rdN x n q 0 (D - 1) then ((tkA x n (tkB x n q) : Nat), 0, 0, 0, 0)
     else if rdN x n (tkB x n (tkB x n q)) 0 (if w = 5 then 99 else 9) = -1 then ((tkA x n (tkB x n (tkB x n q)) : Nat), 0, 0, 0, 0)
     else (-1, tkB x n (tkB x n (tkB x n q)), rdN x n q 0 (D - 1), rdN x n (tkB x n q) 0 (D - 1), rdN x n (tkB x n (tkB x n q)) 0 (if w = 5 then 99 else 9)))
  else (if rdN x n q (if w = 0 then 2 else 0) (if w = 0 then 8 else if w = 7 then 9 else if w = 8 then 99 else D - 1) = -1 then ((tkA x n q : Nat), 0, 0, 0, 0)
     else (-1, tkB x n q, rdN x n q (if w = 0 then 2 else 0) (if w = 0 then 8 else if w = 7 then 9 else if w = 8 then 99 else D - 1), 0, 0))
/-- the token behind a place is in hand -/
def hdM (M : Mem) (m : Nat) (x : Fn) (n p : Nat) : Prop := M m 14 = tkB x n p ∧ M m 15 = tkA x n p ∧ M m 16 = tkB x n p
/-- the Model while it reads: only the hand and the row of what was read change -/
def frR (M M1 : Mem) (m : Nat) : Prop := (∀ y, y ≠ m → y ≠ m + 4 → M1 y = M y) ∧ ∀ k : Int, k ≠ 14 → k ≠ 15 → k ≠ 16 → M1 m k = M m k
theorem frR_r {M : Mem} {m : Nat} : frR M M m := ⟨fun _ _ _ => rfl, fun _ _ _ _ => rfl⟩
theorem frR_t {M M1 M2 : Mem} {m : Nat} (h1 : frR M M1 m) (h2 : frR M1 M2 m) : frR M M2 m := ⟨fun y a b => (h2.1 y a b).trans (h1.1 y a b), fun k a b c => (h2.2 k a b c).trans (h1.2 k a b c)⟩
def txM (M : Mem) (m n : Nat) (x : Fn) : Prop := M m 3 = n ∧ ∀ k : Int, 0 ≤ k → k < n → M (m + 3) k = x k
theorem txM_f {M M1 : Mem} {m n : Nat} {x : Fn} (h : txM M m n x) (f : frR M M1 m) : txM M1 m n x := ⟨by rw [f.2 3 (by omega) (by omega) (by omega)]; exact h.1, by rw [f.1 (m + 3) (by omega) (by omega)]; exact h.2⟩
def pvI (x : Fn) (a i : Nat) (v : Int) : Prop := (i = a → v = 0) ∧ (i = a + 1 → v = x a - 48) ∧ (i = a + 2 → v = 10 * (x a - 48) + x (a + 1) - 48)
set_option maxRecDepth 100000 in
set_option maxHeartbeats 4000000 in
theorem m_reads {E : EN} {l : Launch} {M : Mem} {m n p c : Nat} {x : Fn} (hO : isMod E m) (hn2 : n ≤ 200) (hp2 : p ≤ n) (hby : ∀ k : Int, 0 ≤ k → k < n → 0 ≤ x k ∧ x k ≤ 255) (hx : txM M m n x) (hd : hdM M m x n p) (hc : M m 5 = c) (hc2 : c ≤ 11) {ix lo hi un : Int} (hk0 : 0 ≤ ix) (hk2 : ix ≤ 2)  (hlo : 0 ≤ lo) : Cn E l mX8_reads 2 [vR m, vI ix, vI lo, vI hi, vI un] M (fun r M1 => ∃ z, r = vI z ∧ ((rdN x n p lo hi = -1 ∨ rdN x n p lo hi = un) ∧ z = 0 ∧ M1 = M ∨ (¬ (rdN x n p lo hi = -1 ∨ rdN x n p lo hi = un)) ∧ z = 1 ∧ frR M M1 m ∧ hdM M1 m x n (tkB x n p) ∧ ∀ j : Int, M1 (m + 4) j = if j = 4 * c + 1 + ix then rdN x n p lo hi else M (m + 4) j)) := by
  refine Cn.of (by decide) rfl (Nat.le_of_ble_eq_true rfl) 2 rfl (fun oka okm G hR => ?_)
  obtain ⟨a0, a1, a2, a3, a4, a5, a6, a7, a8, a9, a10, a11, a12⟩ := id hO
  have tr := tk_r (x := x) hp2
  obtain ⟨x3, xt⟩ := hx
  obtain ⟨d14, d15, d16⟩ := hd
  obtain ⟨a, ha⟩ : ∃ a, a = tkA x n p := ⟨_, rfl⟩
  obtain ⟨b, hb⟩ : ∃ b, b = tkB x n p := ⟨_, rfl⟩
  have rdv : rdN x n p lo hi = if a < n ∧ srt (x a) = 2 ∧ b ≤ a + 2 ∧ lo ≤ vlN x a b ∧ vlN x a b ≤ hi then vlN x a b else -1 := by rw [ha, hb]; rfl
  rw [← ha] at d15 tr
  rw [← hb] at d14 d16 tr
  refine A_aload_n dX8_reads_0 rfl ?_
  refine A_getI (ki := 15) dX8_reads_1 fl_RX8_85 (by assumption) (by rfl) rfl ?_
  rw [d15]
  have j40 : rdN x n p lo hi = -1 → AW E mX8_reads G 0 0 40 [vR m, vI ix, vI lo, vI hi, vI un, vU, vU] [] M := by
    intro hr
    refine A_iconst dX8_reads_40 (by decide) ?_
    exact A_zret hR dX8_reads_41 rfl (by first | exact Or.inl rfl | exact Or.inr rfl | omega) ⟨_, rfl, Or.inl ⟨Or.inl hr, rfl, rfl⟩⟩
  refine A_aload_n dX8_reads_4 rfl ?_
  refine A_getI (ki := 3) dX8_reads_5 fl_RX8_77 (by assumption) (by rfl) rfl ?_
  rw [x3]
  refine A_icmp_eq (tgt := 40) dX8_reads_8 (by decide) (fun h8 => ?_) (fun h8 => ?_)
  · skip
    first | exact j40 (by rw [rdv, if_neg (by omega)]) | exact j40 (by rw [rdv, if_neg (fun q => h24 q.2.1)])
  · skip
    refine A_aload_n dX8_reads_11 rfl ?_
    refine A_getR dX8_reads_12 fl_RX8_17 (by assumption) (by rfl) ?_
    refine A_aload_n dX8_reads_15 rfl ?_
    refine A_getI (ki := 15) dX8_reads_16 fl_RX8_85 (by assumption) (by rfl) rfl ?_
    rw [d15]
    refine A_iald dX8_reads_19 (by assumption) (by omega) (by omega) ?_
    rw [xt a (by omega) (by omega)]
    refine A_sI1 (mj := mX8_sort) dX8_reads_20 hR.rm (by decide) ok_X8_sort st_X8_sort ml_RX8_88 rfl (m_sort (v := x a)) (fun z20 M20 g20 k20 q20 => ?_)
    obtain ⟨e20, q20⟩ := q20
    subst M20
    subst z20
    refine A_iconst dX8_reads_23 (by decide) ?_
    refine A_icmp_ne (tgt := 40) dX8_reads_24 (by decide) (fun h24 => ?_) (fun h24 => ?_)
    · skip
      first | exact j40 (by rw [rdv, if_neg (by omega)]) | exact j40 (by rw [rdv, if_neg (fun q => h24 q.2.1)])
    · skip
      refine A_aload_n dX8_reads_27 rfl ?_
      refine A_getI (ki := 16) dX8_reads_28 fl_RX8_92 (by assumption) (by rfl) rfl ?_
      rw [d16]
      refine A_aload_n dX8_reads_31 rfl ?_
      refine A_getI (ki := 15) dX8_reads_32 fl_RX8_85 (by assumption) (by rfl) rfl ?_
      rw [d15]
      refine A_isub dX8_reads_35 ⟨by omega, by omega⟩ ?_
      refine A_iconst dX8_reads_36 (by decide) ?_
      refine A_icmp_le (tgt := 42) dX8_reads_37 (by decide) (fun h37 => ?_) (fun h37 => ?_)
      · skip
        refine A_iconst dX8_reads_42 (by decide) ?_
        refine A_istore dX8_reads_43 (by decide) rfl ?_
        refine A_aload_n dX8_reads_45 rfl ?_
        refine A_getI (ki := 15) dX8_reads_46 fl_RX8_85 (by assumption) (by rfl) rfl ?_
        rw [d15]
        refine A_istore dX8_reads_49 (by decide) rfl ?_
        have lp : ∀ (k : Nat) (i : Nat) (v : Int), b - i = k → (a ≤ i) → (i ≤ b) → (pvI x a i v) → (-528 ≤ v ∧ v ≤ 10000) → (i ≤ a + 1 → -48 ≤ v ∧ v ≤ 207) → AW E mX8_reads G 0 0 51 [vR m, vI ix, vI lo, vI hi, vI un, vI v, vI i] [] M := by
          intro k
          induction k using Nat.strongRecOn with
          | ind k ih =>
            intro i v hk h0 h1 hv hv1 hv2
            refine A_iload dX8_reads_51 rfl ?_
            refine A_aload_n dX8_reads_53 rfl ?_
            refine A_getI (ki := 16) dX8_reads_54 fl_RX8_92 (by assumption) (by rfl) rfl ?_
            rw [d16]
            refine A_icmp_ge (tgt := 84) dX8_reads_57 (by decide) (fun h57 => ?_) (fun h57 => ?_)
            · skip
              have hi2 : i = b := by omega
              have vv : v = vlN x a b := by
                unfold vlN
                by_cases e : b = a + 2
                · rw [if_pos e]; exact hv.2.2 (by omega)
                · rw [if_neg e]; exact hv.2.1 (by omega)
              have rd2 : rdN x n p lo hi = if lo ≤ v ∧ v ≤ hi then v else -1 := by
                rw [rdv, ← vv]
                by_cases e : lo ≤ v ∧ v ≤ hi
                · rw [if_pos e, if_pos ⟨by omega, by omega, by omega, e⟩]
                · rw [if_neg e, if_neg (fun q => e q.2.2.2)]
              have j104 : (rdN x n p lo hi = -1 ∨ rdN x n p lo hi = un) → AW E mX8_reads G 0 0 104 [vR m, vI ix, vI lo, vI hi, vI un, vI v, vI i] [] M := by
                intro hr
                refine A_iconst dX8_reads_104 (by decide) ?_
                exact A_zret hR dX8_reads_105 rfl (by first | exact Or.inl rfl | exact Or.inr rfl | omega) ⟨_, rfl, Or.inl ⟨hr, rfl, rfl⟩⟩
              refine A_iload dX8_reads_84 rfl ?_
              refine A_i2l dX8_reads_86 ?_
              refine A_iload_n dX8_reads_87 rfl ?_
              refine A_i2l dX8_reads_88 ?_
              refine A_iload_n dX8_reads_89 rfl ?_
              refine A_i2l dX8_reads_90 ?_
              refine A_sI3 (mj := mX8_in) dX8_reads_91 hR.rm (by decide) ok_X8_in st_X8_in ml_RX8_73 rfl (m_in) (fun z91 M91 g91 k91 q91 => ?_)
              obtain ⟨e91, z91r, q91⟩ := q91
              subst M91
              refine A_if_eq (tgt := 104) dX8_reads_94 (by decide) (fun h94 => ?_) (fun h94 => ?_)
              · skip
                first | exact j104 (Or.inl (by rw [rd2, if_neg (fun q => by have := q91.mpr q; omega)])) | exact j104 (Or.inr (by rw [rd2, if_pos (q91.mp (by omega))]; omega))
              · skip
                refine A_iload dX8_reads_97 rfl ?_
                refine A_iload dX8_reads_99 rfl ?_
                refine A_icmp_ne (tgt := 106) dX8_reads_101 (by decide) (fun h101 => ?_) (fun h101 => ?_)
                · skip
                  have nr : ¬ (rdN x n p lo hi = -1 ∨ rdN x n p lo hi = un) := by
                    have := q91.mp (by omega)
                    rw [rd2, if_pos this]; omega
                  have rv : rdN x n p lo hi = v := by rw [rd2, if_pos (q91.mp (by omega))]
                  refine A_aload_n dX8_reads_106 rfl ?_
                  refine A_getR dX8_reads_107 fl_RX8_20 (by assumption) (by rfl) ?_
                  refine A_iconst dX8_reads_110 (by decide) ?_
                  refine A_aload_n dX8_reads_111 rfl ?_
                  refine A_getI (ki := 5) dX8_reads_112 fl_RX8_112 (by assumption) (by rfl) rfl ?_
                  rw [hc]
                  refine A_imul dX8_reads_115 ⟨by omega, by omega⟩ ?_
                  refine A_iconst dX8_reads_116 (by decide) ?_
                  refine A_iadd dX8_reads_117 ⟨by omega, by omega⟩ ?_
                  refine A_iload_n dX8_reads_118 rfl ?_
                  refine A_iadd dX8_reads_119 ⟨by omega, by omega⟩ ?_
                  refine A_iload dX8_reads_120 rfl ?_
                  refine A_iast dX8_reads_122 (by assumption) (by omega) (by omega) (fun M122 e122 k122 => ?_)
                  refine A_aload_n dX8_reads_123 rfl ?_
                  refine A_vV0 (mj := mX8_token) dX8_reads_124 hR.rm (by decide) ok_X8_token mv_X8_token ml_RX8_115 (by assumption) rfl rfl rfl (m_token (p := b) (x := x) (n := n) hO (by rw [e122, upm_c (by omega)]; exact x3) hn2 (by rw [e122, upm_c (by omega)]; exact xt) (by rw [e122, upm_c (by omega)]; exact d14) (by omega)) (fun M124 k124 q124 => ?_)
                  obtain ⟨y1, y2, y3, y4, y5⟩ := q124
                  refine A_iconst dX8_reads_127 (by decide) ?_
                  exact A_zret hR dX8_reads_128 rfl (by first | exact Or.inl rfl | exact Or.inr rfl | omega) (by
      refine ⟨_, rfl, Or.inr ⟨nr, rfl, ⟨fun y ya yb => by rw [y1 y ya, e122, upm_c yb], fun k2 ka kb kc => by rw [y2 k2 ka kb kc, e122, upm_c (by omega)]⟩, ?_, fun j => ?_⟩⟩
      · rw [← hb]; exact ⟨y3, y4, y5⟩
      · rw [y1 _ (by omega), e122, upm_x, rv]
        by_cases q : j = 4 * c + 1 + ix
        · rw [if_pos ⟨rfl, q⟩, if_pos q]
        · rw [if_neg (fun z => q z.2), if_neg q])
                · skip
                  first | exact j104 (Or.inl (by rw [rd2, if_neg (fun q => by have := q91.mpr q; omega)])) | exact j104 (Or.inr (by rw [rd2, if_pos (q91.mp (by omega))]; omega))
            · skip
              have xi := hby i (by omega) (by omega)
              have hv0 := hv.1
              refine A_bipush dX8_reads_60 bp_10 (by decide) ?_
              refine A_iload dX8_reads_62 rfl ?_
              refine A_imul dX8_reads_64 ⟨by omega, by omega⟩ ?_
              refine A_aload_n dX8_reads_65 rfl ?_
              refine A_getR dX8_reads_66 fl_RX8_17 (by assumption) (by rfl) ?_
              refine A_iload dX8_reads_69 rfl ?_
              refine A_iald dX8_reads_71 (by assumption) (by omega) (by omega) ?_
              rw [xt i (by omega) (by omega)]
              refine A_iadd dX8_reads_72 ⟨by omega, by omega⟩ ?_
              refine A_bipush dX8_reads_73 bp_48 (by decide) ?_
              refine A_isub dX8_reads_75 ⟨by omega, by omega⟩ ?_
              refine A_istore dX8_reads_76 (by decide) rfl ?_
              refine A_iinc dX8_reads_78 (by decide) rfl rfl ⟨by omega, by omega⟩ ?_
              refine A_goto (tgt := 51) dX8_reads_81 (by decide) ?_
              refine ih _ (by omega) (i + 1) _ rfl (by omega) (by omega) ⟨fun q => by omega, fun q => ?_, fun q => ?_⟩ (by omega) (by omega)
              · have := hv.1 (by omega)
                rw [this, show i = a by omega]; omega
              · have := hv.2.1 (by omega)
                have e1 : x ((a + 1 : Nat) : Int) = x (a + 1) := by rw [show ((a + 1 : Nat) : Int) = (a : Int) + 1 by omega]
                rw [this, show i = a + 1 by omega]; omega
        exact lp _ a 0 rfl (by omega) (by omega) ⟨fun _ => rfl, fun q => by omega, fun q => by omega⟩ (by omega) (by omega)
      · skip
        first | exact j40 (by rw [rdv, if_neg (by omega)]) | exact j40 (by rw [rdv, if_neg (fun q => h24 q.2.1)])

