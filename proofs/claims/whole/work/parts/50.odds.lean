/-! THE MODEL's answers: odds, a smear, the way without smell -/
theorem odA_e {S : GS} (h : wS S) : ((odA S : Nat) : Int) = smN (sR S) (oD (sT S)) ∧ odA S ≤ 792 := by
  have r := smN_r (S := sR S) (oD (sT S)) (fun k x y => h.2.2.2.2.2.2.2.1 k x (by have := h.1.1; omega))
  have := h.1.1
  unfold odA
  omega
theorem smN_le {S : Fn} : ∀ n : Nat, (∀ k : Int, 0 ≤ k → k < n → 0 ≤ S k) → ∀ k : Nat, k < n → S k ≤ smN S n
  | 0, _, k, hk => by omega
  | n + 1, h, k, hk => by
    have a0 : 0 ≤ smN S n := by
      clear hk
      induction n with
      | zero => exact Int.le_refl _
      | succ n ih => unfold smN; have := ih (fun k x y => h k x (by omega)); have := h n (by omega) (by omega); omega
    unfold smN
    by_cases e : k = n
    · subst e; omega
    · have := smN_le n (fun k x y => h k x (by omega)) k (by omega)
      have := h n (by omega) (by omega)
      omega
def f_smear (S : GS) (f t w : Int) : Int := if 0 ≤ f ∧ f < oF (sT S) then (if (1 ≤ t ∧ t ≤ 99) ∧ 0 ≤ w ∧ w ≤ 2 then (if csF (sC S) f = -1 then (if bsm (sT S) (sC S) f t.toNat (100 * oT (sT S)) = -1 then -1 else if w = 0 then wsm (sT S) (sC S) f t.toNat (bsm (sT S) (sC S) f t.toNat (100 * oT (sT S))).toNat else if w = 1 then bsm (sT S) (sC S) f t.toNat (100 * oT (sT S)) / 100 else bsm (sT S) (sC S) f t.toNat (100 * oT (sT S)) % 100) else -4) else -3) else -2
def R_quiet (S : GS) (a b z : Int) : Prop := if (0 ≤ a ∧ a < oD (sT S)) ∧ 0 ≤ b ∧ b < oD (sT S) then isDist 1 (sT S) (sC S) a b z else z = -2
theorem isDist_u {q : Int} {T : TD} {C : CS} {a b z z' : Int} (hT : wT T) (ha : 0 ≤ a ∧ a < oD T) (h : isDist q T C a b z) (h' : isDist q T C a b z') : z = z' := by
  rcases h with ⟨rfl, h⟩ | ⟨h0, h1, h2⟩ <;> rcases h' with ⟨rfl, h'⟩ | ⟨h0', h1', h2'⟩
  · rfl
  · exact absurd (rch_all hT ha.1 ha.2 h1') h
  · exact absurd (rch_all hT ha.1 ha.2 h1) h'
  · by_cases e : z < z'
    · exact absurd h1 (h2' z.toNat (by omega))
    · by_cases e' : z' < z
      · exact absurd h1' (h2 z'.toNat (by omega))
      · omega
theorem R_quiet_u {S : GS} {a b z z' : Int} (hT : wT (sT S)) (h : R_quiet S a b z) (h' : R_quiet S a b z') : z = z' := by
  unfold R_quiet at h h'
  split at h
  · next q => rw [if_pos q] at h'; exact isDist_u hT q.1 h h'
  · next q => rw [if_neg q] at h'; rw [h, h']
/-- rows of distances: what they say is so; the first rounds' ways stand in them -/
def qs (T : TD) (C : CS) (a : Int) (D : Fn) : Prop := ∀ e : Int, 0 ≤ e → e < oD T → 0 ≤ D e ∧ D e ≤ 99 ∧ (D e < 99 → rch 1 T C a (D e).toNat e)
def qr (T : TD) (C : CS) (a : Int) (D : Fn) (r : Nat) : Prop := ∀ n : Nat, n ≤ r → ∀ e : Int, 0 ≤ e → e < oD T → rch 1 T C a n e → D e ≤ n
def qj (T : TD) (C : CS) (a : Int) (D : Fn) (r j : Nat) : Prop := ∀ n : Nat, n ≤ r → ∀ d e : Int, rch 1 T C a n d → edN 1 T C j d e → D e ≤ n + 1
theorem rch_in {T : TD} {C : CS} {a : Int} (hT : wT T) (ha : 0 ≤ a ∧ a < oD T) : ∀ {n : Nat} {d : Int}, rch 1 T C a n d → 0 ≤ d ∧ d < oD T
  | 0, d, h => by have h : d = a := h; rw [h]; exact ha
  | n + 1, d, h => by
    rcases h with h | ⟨e, -, h⟩
    · exact rch_in hT ha h
    · exact (ed_r hT h).2
/-- one step over a trail without smell -/
theorem q_up {T : TD} {C : CS} {a : Int} {D D' : Fn} {r j : Nat} {u v : Int} (hT : wT T) (ha : 0 ≤ a ∧ a < oD T) (h1 : qs T C a D) (h2 : qr T C a D r) (h3 : qj T C a D r j) (hu : 0 ≤ u ∧ u < oD T) (he : edN 1 T C (oT T) u v) (hD : ∀ e, D' e = if e = v then (if D u + 1 < D v then D u + 1 else D v) else D e) : qs T C a D' ∧ qr T C a D' r ∧ qj T C a D' r j ∧ (∀ e, D' e ≤ D e) ∧ D' v ≤ D u + 1 := by
  have le : ∀ e, D' e ≤ D e := fun e => by
    rw [hD]
    split
    · next q => rw [q]; split <;> omega
    · omega
  refine ⟨fun e x y => ?_, fun n hn e x y h => Int.le_trans (le e) (h2 n hn e x y h), fun n hn d e h g => Int.le_trans (le e) (h3 n hn d e h g), le, ?_⟩
  · have q0 := h1 e x y
    have q1 := h1 u hu.1 hu.2
    rw [hD]
    split
    · next q =>
      subst q
      split
      · next z =>
        refine ⟨by omega, by omega, fun _ => ?_⟩
        have w := q1.2.2 (by omega)
        rw [show (D u + 1).toNat = (D u).toNat + 1 by omega]
        exact Or.inr ⟨u, w, he⟩
      · exact q0
    · exact q0
  · rw [hD, if_pos rfl]
    split <;> omega
theorem q_next {T : TD} {C : CS} {a : Int} {D : Fn} {r j : Nat} (h3 : qj T C a D r j) (h4 : csS C j = 0 → ∀ n : Nat, n ≤ r → (rch 1 T C a n (oA T j) → D (oB T j) ≤ n + 1) ∧ (rch 1 T C a n (oB T j) → D (oA T j) ≤ n + 1)) : qj T C a D r (j + 1) := by
  intro n hn d e h g
  obtain ⟨i, i0, i1, ij, is, il⟩ := g
  by_cases q : i = j
  · subst q
    have w := h4 (is (by decide)) n hn
    rcases ij with ⟨rfl, rfl⟩ | ⟨rfl, rfl⟩
    · exact w.1 h
    · exact w.2 h
  · exact h3 n hn d e h ⟨i, i0, by omega, ij, is, il⟩
theorem q_round {T : TD} {C : CS} {a : Int} {D : Fn} {r : Nat} (h2 : qr T C a D r) (h3 : qj T C a D r (oT T)) : qr T C a D (r + 1) := by
  intro n hn e x y h
  by_cases q : n ≤ r
  · exact h2 n q e x y h
  · rw [show n = r + 1 by omega] at h ⊢
    rcases h with h | ⟨d, hd, hv⟩
    · have := h2 r (by omega) e x y h; omega
    · have := h3 r (by omega) d e hd hv; omega
theorem q_end {T : TD} {C : CS} {a : Int} {D : Fn} {b : Int} (hT : wT T) (ha : 0 ≤ a ∧ a < oD T) (hb : 0 ≤ b ∧ b < oD T) (h1 : qs T C a D) (h2 : qr T C a D (oD T)) : isDist 1 T C a b (if D b = 99 then -1 else D b) := by
  have w := hT.1
  have q0 := h1 b hb.1 hb.2
  split
  · next e => exact Or.inl ⟨rfl, fun h => by have := h2 _ (by omega) b hb.1 hb.2 h; omega⟩
  · next e =>
    refine Or.inr ⟨q0.1, q0.2.2 (by omega), fun m hm h => ?_⟩
    by_cases z : m ≤ oD T
    · have := h2 m z b hb.1 hb.2 h; omega
    · have := h2 _ (by omega) b hb.1 hb.2 (rch_all hT ha.1 ha.2 h); omega
set_option maxRecDepth 100000 in
set_option maxHeartbeats 4000000 in
theorem m_odds {E : EN} {l : Launch} {M : Mem} {m : Nat} {S : GS} (hO : isMod E m) (hY : rY M m S) (hw : wS S) {d p : Int} : Cn E l mX8_odds 2 [vR m, vI d, vI p] M (fun r M1 => ∃ z, r = vI z ∧ (M1 = M ∧ z = f_odds S d p)) := by
  refine Cn.of (by decide) rfl (Nat.le_of_ble_eq_true rfl) 4 rfl (fun oka okm G hR => ?_)
  obtain ⟨a0, a1, a2, a3, a4, a5, a6, a7, a8, a9, a10, a11, a12⟩ := id hO
  obtain ⟨hrI, hrM, hk0, hk1, hrb, ⟨hb0, hb1⟩, ⟨hL, hX⟩, ⟨hN, hsn⟩, hcr⟩ := id hY
  obtain ⟨hwT, ⟨hwC, hwG⟩, ⟨wb0, wb1⟩, wk0, wk1, wL, ⟨wN, wsn⟩, wcr, wcr0⟩ := id hw
  obtain ⟨⟨i0, i1, i2, i3⟩, ik, it, ie⟩ := id hrI
  obtain ⟨⟨c0, c1, c2⟩, cs, cf⟩ := rM_0 hrM
  obtain ⟨wt0, wtk, wtt, wtf⟩ := id hwT
  obtain ⟨wc0, wcs, wcf⟩ := id hwC
  obtain ⟨oe, ol⟩ := odA_e hw
  refine A_aload_n dX8_odds_0 rfl ?_
  refine A_iload_n dX8_odds_1 rfl ?_
  refine A_vI1 (mj := mX8_isDesk) dX8_odds_2 hR.rm (by decide) ok_X8_isDesk mv_X8_isDesk ml_RX8_151 (by assumption) rfl rfl rfl (m_isDesk hO hrI hwT) (fun z2 M2 g2 k2 q2 => ?_)
  obtain ⟨e2, z2r, q2⟩ := q2
  subst M2
  refine A_if_ne (tgt := 11) dX8_odds_5 (by decide) (fun h5 => ?_) (fun h5 => ?_)
  · skip
    have dt : 0 ≤ d ∧ d < oD (sT S) := q2.mp (by omega)
    have hd0 := wcr d (by omega) (by omega)
    obtain ⟨h, hh⟩ : ∃ h : Nat, sR S d = h := ⟨(sR S d).toNat, by omega⟩
    refine A_iload_n dX8_odds_11 rfl ?_
    refine A_i2l dX8_odds_12 ?_
    refine A_lconst dX8_odds_13 ?_
    refine A_lconst dX8_odds_14 ?_
    refine A_sI3 (mj := mX8_in) dX8_odds_15 hR.rm (by decide) ok_X8_in st_X8_in ml_RX8_73 rfl (m_in) (fun z15 M15 g15 k15 q15 => ?_)
    obtain ⟨e15, z15r, q15⟩ := q15
    subst M15
    refine A_if_ne (tgt := 24) dX8_odds_18 (by decide) (fun h18 => ?_) (fun h18 => ?_)
    · skip
      have da : 0 ≤ p ∧ p ≤ 1 := by have := q15.mp (by omega); exact ⟨by omega, by omega⟩
      refine A_iconst dX8_odds_24 (by decide) ?_
      refine A_istore_n dX8_odds_25 (by decide) rfl ?_
      refine A_iconst dX8_odds_26 (by decide) ?_
      refine A_istore dX8_odds_27 (by decide) rfl ?_
      have lp : ∀ (k : Nat) (i : Nat) (x : Int), oD (sT S) - i = k → (i ≤ oD (sT S)) → (x = smN (sR S) i) → AW E mX8_odds G 0 0 29 [vR m, vI d, vI p, vI x, vI i, vU, vU] [] M := by
        intro k
        induction k using Nat.strongRecOn with
        | ind k ih =>
          intro i x hk h0 hx
          have sr := smN_r (S := sR S) i (fun k x y => wcr k x (by omega))
          refine A_iload dX8_odds_29 rfl ?_
          refine A_aload_n dX8_odds_31 rfl ?_
          refine A_getI (ki := 6) dX8_odds_32 fl_RX8_23 (by assumption) (by rfl) rfl ?_
          rw [i0]
          refine A_icmp_ge (tgt := 54) dX8_odds_35 (by decide) (fun h35 => ?_) (fun h35 => ?_)
          · skip
            have hi : i = oD (sT S) := by omega
            subst hi
            rw [← oe] at hx
            subst hx
            refine A_iload_n dX8_odds_54 rfl ?_
            refine A_if_ne (tgt := 61) dX8_odds_55 (by decide) (fun h55 => ?_) (fun h55 => ?_)
            · skip
              have hle := smN_le (S := sR S) (oD (sT S)) (fun k x y => (wcr k x (by omega)).1) d.toNat (by omega)
              rw [show ((d.toNat : Nat) : Int) = d by omega, hh, ← oe] at hle
              refine A_aload_n dX8_odds_61 rfl ?_
              refine A_getR dX8_odds_62 fl_RX8_51 (by assumption) (by rfl) ?_
              refine A_iload_n dX8_odds_65 rfl ?_
              refine A_iald dX8_odds_66 (by assumption) (by omega) (by omega) ?_
              rw [hcr d (by omega) (by omega), hh]
              refine A_istore dX8_odds_67 (by decide) rfl ?_
              refine A_iload_n dX8_odds_69 rfl ?_
              refine A_istore dX8_odds_70 (by decide) rfl ?_
              have lq : ∀ (k : Nat) (u : Nat) (v : Nat) (x6 : AV), v = k → (u ≤ 792) → (v ≤ 792) → (Nat.gcd u v = Nat.gcd h (odA S)) → AW E mX8_odds G 0 0 72 [vR m, vI d, vI p, vI (odA S), vI u, vI v, x6] [] M := by
                intro k
                induction k using Nat.strongRecOn with
                | ind k2 ih2 =>
                  intro u v x6 hk hu hv hg
                  refine A_iload dX8_odds_72 rfl ?_
                  refine A_if_eq (tgt := 95) dX8_odds_74 (by decide) (fun h74 => ?_) (fun h74 => ?_)
                  · skip
                    have v0 : v = 0 := by omega
                    subst v0
                    rw [Nat.gcd_zero_right] at hg
                    have up : 0 < u := by rw [hg]; exact Nat.gcd_pos_of_pos_right _ (by omega)
                    refine A_iload_n dX8_odds_95 rfl ?_
                    refine A_if_ne (tgt := 111) dX8_odds_96 (by decide) (fun h96 => ?_) (fun h96 => ?_)
                    · skip
                      refine A_iload_n dX8_odds_111 rfl ?_
                      refine A_iload dX8_odds_112 rfl ?_
                      refine A_idiv  dX8_odds_114 (by omega) (by rw [tdiv_n]; exact rng_n (Nat.div_le_self _ _) (by omega)) ?_
                      first | rw [tdiv_n] | skip
                      exact A_iret hR dX8_odds_115 rfl ⟨_, rfl, rfl, by unfold f_odds; rw [if_pos dt, if_pos da, if_neg (by omega), hh, Int.toNat_natCast, ← hg]; first | rw [if_pos (by omega)] | (rw [if_neg (by omega)]; try rw [tdiv_n])⟩
                    · skip
                      refine A_aload_n dX8_odds_99 rfl ?_
                      refine A_getR dX8_odds_100 fl_RX8_51 (by assumption) (by rfl) ?_
                      refine A_iload_n dX8_odds_103 rfl ?_
                      refine A_iald dX8_odds_104 (by assumption) (by omega) (by omega) ?_
                      rw [hcr d (by omega) (by omega), hh]
                      refine A_iload dX8_odds_105 rfl ?_
                      refine A_idiv  dX8_odds_107 (by omega) (by rw [tdiv_n]; exact rng_n (Nat.div_le_self _ _) (by omega)) ?_
                      rw [tdiv_n]
                      refine A_goto (tgt := 115) dX8_odds_108 (by decide) ?_
                      first | rw [tdiv_n] | skip
                      exact A_iret hR dX8_odds_115 rfl ⟨_, rfl, rfl, by unfold f_odds; rw [if_pos dt, if_pos da, if_neg (by omega), hh, Int.toNat_natCast, ← hg]; first | rw [if_pos (by omega)] | (rw [if_neg (by omega)]; try rw [tdiv_n])⟩
                  · skip
                    refine A_iload dX8_odds_77 rfl ?_
                    refine A_iload dX8_odds_79 rfl ?_
                    refine A_irem  dX8_odds_81 (by omega) (by rw [tdiv_n]; exact rng_n (Nat.div_le_self _ _) (by omega)) (by rw [tmod_n]; exact rng_n (Nat.mod_le _ _) (by omega)) ?_
                    rw [tmod_n]
                    refine A_istore dX8_odds_82 (by decide) rfl ?_
                    refine A_iload dX8_odds_84 rfl ?_
                    refine A_istore dX8_odds_86 (by decide) rfl ?_
                    refine A_iload dX8_odds_88 rfl ?_
                    refine A_istore dX8_odds_90 (by decide) rfl ?_
                    refine A_goto (tgt := 72) dX8_odds_92 (by decide) ?_
                    refine ih2 (u % v) (by have := Nat.mod_lt u (show 0 < v by omega); omega) v (u % v) _ rfl hv (by have := Nat.mod_le u v; omega) ?_
                    rw [Nat.gcd_comm v (u % v), ← Nat.gcd_rec, Nat.gcd_comm v u]; exact hg
              exact lq _ h (odA S) vU rfl (by omega) (by omega) rfl
            · skip
              refine A_bipush dX8_odds_58 bp_m4 (by decide) ?_
              exact A_iret hR dX8_odds_60 rfl ⟨_, rfl, rfl, by unfold f_odds; rw [if_pos dt, if_pos da, if_pos (by omega)]⟩
          · skip
            refine A_iload_n dX8_odds_38 rfl ?_
            refine A_aload_n dX8_odds_39 rfl ?_
            refine A_getR dX8_odds_40 fl_RX8_51 (by assumption) (by rfl) ?_
            refine A_iload dX8_odds_43 rfl ?_
            refine A_iald dX8_odds_45 (by assumption) (by omega) (by omega) ?_
            rw [hcr i (by omega) (by omega)]
            have s1 := smN_r (S := sR S) (i + 1) (fun k x y => wcr k x (by omega))
            have s2 : smN (sR S) (i + 1) = smN (sR S) i + sR S i := by rw [smN]
            refine A_iadd dX8_odds_46 ⟨by omega, by omega⟩ ?_
            refine A_istore_n dX8_odds_47 (by decide) rfl ?_
            refine A_iinc dX8_odds_48 (by decide) rfl rfl ⟨by omega, by omega⟩ ?_
            refine A_goto (tgt := 29) dX8_odds_51 (by decide) ?_
            exact ih _ (by omega) (i + 1) _ rfl (by omega) (by rw [smN, hx])
      exact lp _ 0 0 rfl (by omega) rfl
    · skip
      refine A_bipush dX8_odds_21 bp_m3 (by decide) ?_
      exact A_iret hR dX8_odds_23 rfl ⟨_, rfl, rfl, by unfold f_odds; rw [if_pos dt, if_neg (fun q => by have := q15.mpr ⟨by omega, by omega⟩; omega)]⟩
  · skip
    refine A_bipush dX8_odds_8 bp_m2 (by decide) ?_
    exact A_iret hR dX8_odds_10 rfl ⟨_, rfl, rfl, by unfold f_odds; rw [if_neg (fun q => by have := q2.mpr q; omega)]⟩

set_option maxRecDepth 100000 in
set_option maxHeartbeats 4000000 in
theorem m_smear {E : EN} {l : Launch} {M : Mem} {m : Nat} {S : GS} (hO : isMod E m) (hY : rY M m S) (hw : wS S) {f t w : Int} : Cn E l mX8_smear 5 [vR m, vI f, vI t, vI w] M (fun r M1 => ∃ z, r = vI z ∧ (rY M1 m (S) ∧ frY M M1 m ∧ z = f_smear S f t w)) := by
  refine Cn.of (by decide) rfl (Nat.le_of_ble_eq_true rfl) 4 rfl (fun oka okm G hR => ?_)
  obtain ⟨a0, a1, a2, a3, a4, a5, a6, a7, a8, a9, a10, a11, a12⟩ := id hO
  obtain ⟨hrI, hrM, hk0, hk1, hrb, ⟨hb0, hb1⟩, ⟨hL, hX⟩, ⟨hN, hsn⟩, hcr⟩ := id hY
  obtain ⟨hwT, ⟨hwC, hwG⟩, ⟨wb0, wb1⟩, wk0, wk1, wL, ⟨wN, wsn⟩, wcr, wcr0⟩ := id hw
  obtain ⟨⟨i0, i1, i2, i3⟩, ik, it, ie⟩ := id hrI
  obtain ⟨⟨c0, c1, c2⟩, cs, cf⟩ := rM_0 hrM
  obtain ⟨wt0, wtk, wtt, wtf⟩ := id hwT
  obtain ⟨wc0, wcs, wcf⟩ := id hwC
  refine A_aload_n dX8_smear_0 rfl ?_
  refine A_iload_n dX8_smear_1 rfl ?_
  refine A_vI1 (mj := mX8_isFile) dX8_smear_2 hR.rm (by decide) ok_X8_isFile mv_X8_isFile ml_RX8_160 (by assumption) rfl rfl rfl (m_isFile hO hrI hwT) (fun z2 M2 g2 k2 q2 => ?_)
  obtain ⟨e2, z2r, q2⟩ := q2
  subst M2
  refine A_if_ne (tgt := 11) dX8_smear_5 (by decide) (fun h5 => ?_) (fun h5 => ?_)
  · skip
    have dt : 0 ≤ f ∧ f < oF (sT S) := q2.mp (by omega)
    obtain ⟨f, rfl⟩ : ∃ j : Nat, f = j := ⟨f.toNat, by omega⟩
    have f1 := cf f (by omega) (by omega)
    refine A_iload_n dX8_smear_11 rfl ?_
    refine A_i2l dX8_smear_12 ?_
    refine A_lconst dX8_smear_13 ?_
    refine A_ldc2 dX8_smear_14 kc_RX8_183 (by decide) ?_
    refine A_sI3 (mj := mX8_in) dX8_smear_17 hR.rm (by decide) ok_X8_in st_X8_in ml_RX8_73 rfl (m_in) (fun z17 M17 g17 k17 q17 => ?_)
    obtain ⟨e17, z17r, q17⟩ := q17
    subst M17
    refine A_if_eq (tgt := 35) dX8_smear_20 (by decide) (fun h20 => ?_) (fun h20 => ?_)
    · skip
      refine A_bipush dX8_smear_35 bp_m3 (by decide) ?_
      exact A_iret hR dX8_smear_37 rfl ⟨_, rfl, hY, frY_r, by unfold f_smear; rw [if_pos dt, if_neg (fun q => by first | (have := q17.mpr ⟨by omega, by omega⟩; omega) | (have := q29.mpr ⟨by omega, by omega⟩; omega))]⟩
    · skip
      refine A_iload_n dX8_smear_23 rfl ?_
      refine A_i2l dX8_smear_24 ?_
      refine A_lconst dX8_smear_25 ?_
      refine A_ldc2 dX8_smear_26 kc_RX8_190 (by decide) ?_
      refine A_sI3 (mj := mX8_in) dX8_smear_29 hR.rm (by decide) ok_X8_in st_X8_in ml_RX8_73 rfl (m_in) (fun z29 M29 g29 k29 q29 => ?_)
      obtain ⟨e29, z29r, q29⟩ := q29
      subst M29
      refine A_if_ne (tgt := 38) dX8_smear_32 (by decide) (fun h32 => ?_) (fun h32 => ?_)
      · skip
        have da : (1 ≤ t ∧ t ≤ 99) ∧ 0 ≤ w ∧ w ≤ 2 := ⟨by have := q17.mp (by omega); exact ⟨by omega, by omega⟩, by have := q29.mp (by omega); exact ⟨by omega, by omega⟩⟩
        obtain ⟨t, rfl⟩ : ∃ j : Nat, t = j := ⟨t.toNat, by omega⟩
        refine A_aload_n dX8_smear_38 rfl ?_
        refine A_getR dX8_smear_39 fl_RX8_7 (by assumption) (by rfl) ?_
        refine A_bipush dX8_smear_42 bp_33 (by decide) ?_
        refine A_iload_n dX8_smear_44 rfl ?_
        refine A_iadd dX8_smear_45 ⟨by omega, by omega⟩ ?_
        refine A_iald dX8_smear_46 (by assumption) (by omega) (by omega) ?_
        rw [f1.2.2.2]
        refine A_iconst dX8_smear_47 (by decide) ?_
        refine A_icmp_eq (tgt := 54) dX8_smear_48 (by decide) (fun h48 => ?_) (fun h48 => ?_)
        · skip
          refine A_iconst dX8_smear_54 (by decide) ?_
          refine A_istore dX8_smear_55 (by decide) rfl ?_
          refine A_ldc dX8_smear_57 kc_RX8_215 (by decide) ?_
          refine A_istore dX8_smear_59 (by decide) rfl ?_
          refine A_iconst dX8_smear_61 (by decide) ?_
          refine A_istore dX8_smear_62 (by decide) rfl ?_
          have lp : ∀ (k : Nat) (v : Nat) (x : Int) (y : Int) (x7 : AV) (M1 : Mem), 100 * oT (sT S) - v = k → (v ≤ 100 * oT (sT S)) → (x = bsm (sT S) (sC S) f t v) → (x = -1 → y = 268435456) → (x ≠ -1 → y = wsm (sT S) (sC S) f t x.toNat) → (rY M1 m S) → (frY M M1 m) → AW E mX8_smear G 0 0 64 [vR m, vI f, vI t, vI w, vI x, vI y, vI v, x7] [] M1 := by
            intro k
            induction k using Nat.strongRecOn with
            | ind k ih =>
              intro v x y x7 M1 hk h0 hx hy hz hY1 hf
              have br := bsm_r (sT S) (sC S) f t v
              have hrI1 : rI M1 m (sT S) := hY1.1
              have hrM1 : rM M1 m 0 (sT S) (sC S) := hY1.2.1
              refine A_iload dX8_smear_64 rfl ?_
              refine A_bipush dX8_smear_66 bp_100 (by decide) ?_
              refine A_aload_n dX8_smear_68 rfl ?_
              refine A_getI (ki := 10) dX8_smear_69 fl_RX8_61 (by assumption) (by rfl) rfl ?_
              rw [hrI1.1.2.1]
              refine A_imul dX8_smear_72 ⟨by omega, by omega⟩ ?_
              refine A_icmp_ge (tgt := 135) dX8_smear_73 (by decide) (fun h73 => ?_) (fun h73 => ?_)
              · skip
                have hi : v = 100 * oT (sT S) := by omega
                subst hi
                have f_s : f_smear S f t w = if x = -1 then -1 else if w = 0 then wsm (sT S) (sC S) f t x.toNat else if w = 1 then x / 100 else x % 100 := by unfold f_smear; rw [if_pos dt, if_pos da, if_pos (by omega), Int.toNat_natCast, ← hx]
                refine A_iload dX8_smear_135 rfl ?_
                refine A_iconst dX8_smear_137 (by decide) ?_
                refine A_icmp_ne (tgt := 145) dX8_smear_138 (by decide) (fun h138 => ?_) (fun h138 => ?_)
                · skip
                  refine A_iload_n dX8_smear_145 rfl ?_
                  refine A_if_ne (tgt := 154) dX8_smear_146 (by decide) (fun h146 => ?_) (fun h146 => ?_)
                  · skip
                    refine A_iload_n dX8_smear_154 rfl ?_
                    refine A_iconst dX8_smear_155 (by decide) ?_
                    refine A_icmp_ne (tgt := 167) dX8_smear_156 (by decide) (fun h156 => ?_) (fun h156 => ?_)
                    · skip
                      refine A_iload dX8_smear_167 rfl ?_
                      refine A_bipush dX8_smear_169 bp_100 (by decide) ?_
                      refine A_irem  dX8_smear_171 (by decide) (by rw [Int.tdiv_eq_ediv_of_nonneg (by omega)]; exact ⟨by omega, by omega⟩) (by rw [Int.tmod_eq_emod_of_nonneg (by omega)]; exact ⟨by omega, by omega⟩) ?_
                      first | rw [Int.tmod_eq_emod_of_nonneg (by omega)] | skip
                      exact A_iret hR dX8_smear_172 rfl ⟨_, rfl, hY1, hf, by rw [f_s]; first | rw [if_pos (by omega)] | (rw [if_neg (by omega), if_pos (by omega)]; exact hz (by omega)) | rw [if_neg (by omega), if_neg (by omega), if_pos (by omega)] | rw [if_neg (by omega), if_neg (by omega), if_neg (by omega)] | (rw [if_neg (by omega), if_neg (by omega), if_neg (by omega)]; exact Int.tmod_eq_emod_of_nonneg (by omega))⟩
                    · skip
                      refine A_iload dX8_smear_159 rfl ?_
                      refine A_bipush dX8_smear_161 bp_100 (by decide) ?_
                      refine A_idiv  dX8_smear_163 (by decide) (by rw [Int.tdiv_eq_ediv_of_nonneg (by omega)]; exact ⟨by omega, by omega⟩) ?_
                      rw [Int.tdiv_eq_ediv_of_nonneg (by omega)]
                      refine A_goto (tgt := 172) dX8_smear_164 (by decide) ?_
                      first | rw [Int.tmod_eq_emod_of_nonneg (by omega)] | skip
                      exact A_iret hR dX8_smear_172 rfl ⟨_, rfl, hY1, hf, by rw [f_s]; first | rw [if_pos (by omega)] | (rw [if_neg (by omega), if_pos (by omega)]; exact hz (by omega)) | rw [if_neg (by omega), if_neg (by omega), if_pos (by omega)] | rw [if_neg (by omega), if_neg (by omega), if_neg (by omega)] | (rw [if_neg (by omega), if_neg (by omega), if_neg (by omega)]; exact Int.tmod_eq_emod_of_nonneg (by omega))⟩
                  · skip
                    refine A_iload dX8_smear_149 rfl ?_
                    refine A_goto (tgt := 172) dX8_smear_151 (by decide) ?_
                    first | rw [Int.tmod_eq_emod_of_nonneg (by omega)] | skip
                    exact A_iret hR dX8_smear_172 rfl ⟨_, rfl, hY1, hf, by rw [f_s]; first | rw [if_pos (by omega)] | (rw [if_neg (by omega), if_pos (by omega)]; exact hz (by omega)) | rw [if_neg (by omega), if_neg (by omega), if_pos (by omega)] | rw [if_neg (by omega), if_neg (by omega), if_neg (by omega)] | (rw [if_neg (by omega), if_neg (by omega), if_neg (by omega)]; exact Int.tmod_eq_emod_of_nonneg (by omega))⟩
                · skip
                  refine A_iconst dX8_smear_141 (by decide) ?_
                  refine A_goto (tgt := 172) dX8_smear_142 (by decide) ?_
                  first | rw [Int.tmod_eq_emod_of_nonneg (by omega)] | skip
                  exact A_iret hR dX8_smear_172 rfl ⟨_, rfl, hY1, hf, by rw [f_s]; first | rw [if_pos (by omega)] | (rw [if_neg (by omega), if_pos (by omega)]; exact hz (by omega)) | rw [if_neg (by omega), if_neg (by omega), if_pos (by omega)] | rw [if_neg (by omega), if_neg (by omega), if_neg (by omega)] | (rw [if_neg (by omega), if_neg (by omega), if_neg (by omega)]; exact Int.tmod_eq_emod_of_nonneg (by omega))⟩
              · skip
                have wr : -1 ≤ wsm (sT S) (sC S) f t v ∧ wsm (sT S) (sC S) f t v < 100000 := by
                  have g := (itC_w hwT (ssc_w (j := ((v / 100 : Nat) : Int)) (v := ((v % 100 : Nat) : Int)) hwC (by omega) (by omega)) t)
                  have q := g.1.2.2 f (by omega) (by omega)
                  have g2 := g.2
                  have e : csG (ssc (sC S) ((v / 100 : Nat) : Int) ((v % 100 : Nat) : Int)) = csG (sC S) := rfl
                  unfold wsm
                  omega
                refine A_aload_n dX8_smear_76 rfl ?_
                refine A_iconst dX8_smear_77 (by decide) ?_
                refine A_iconst dX8_smear_78 (by decide) ?_
                refine A_vV2 (mj := mX8_copy) dX8_smear_79 hR.rm (by decide) ok_X8_copy mv_X8_copy ml_RX8_67 (by assumption) rfl rfl rfl (m_copy (a := 0) (b := 3) hO (by omega) (by omega) (by omega)) (fun M79 k79 q79 => ?_)
                obtain ⟨f79, rM79⟩ := cp_3 hwT hrM1 q79
                have rI79 : rI M79 m (sT S) := rI_fr hrI1 (fun y hy => f79.1 y (by omega) (by omega))
                refine A_aload_n dX8_smear_82 rfl ?_
                refine A_getR dX8_smear_83 fl_RX8_7 (by assumption) (by rfl) ?_
                refine A_bipush dX8_smear_86 bp_120 (by decide) ?_
                refine A_iload dX8_smear_88 rfl ?_
                refine A_bipush dX8_smear_90 bp_100 (by decide) ?_
                refine A_idiv  dX8_smear_92 (by decide) (by rw [show ((v : Nat) : Int).tdiv 100 = ((v / 100 : Nat) : Int) from tdiv_n v 100]; exact rng_n (Nat.div_le_self _ _) (by omega)) ?_
                rw [show ((v : Nat) : Int).tdiv 100 = ((v / 100 : Nat) : Int) from tdiv_n v 100]
                refine A_iadd dX8_smear_93 ⟨by omega, by omega⟩ ?_
                refine A_iload dX8_smear_94 rfl ?_
                refine A_bipush dX8_smear_96 bp_100 (by decide) ?_
                refine A_irem  dX8_smear_98 (by decide) (by rw [show ((v : Nat) : Int).tdiv 100 = ((v / 100 : Nat) : Int) from tdiv_n v 100]; exact rng_n (Nat.div_le_self _ _) (by omega)) (by rw [show ((v : Nat) : Int).tmod 100 = ((v % 100 : Nat) : Int) from tmod_n v 100]; exact rng_n (Nat.mod_le _ _) (by omega)) ?_
                rw [show ((v : Nat) : Int).tmod 100 = ((v % 100 : Nat) : Int) from tmod_n v 100]
                refine A_iast dX8_smear_99 (by assumption) (by omega) (by omega) (fun M99 e99 k99 => ?_)
                have f99 : frM M1 M99 m 117 := frM_t f79 ⟨fun y y1 _ => by rw [e99, upm_c y1], fun k hk => by rw [e99, upm_k (by omega)]⟩
                have r99 : rM M99 m 117 (sT S) (ssc (sC S) ((v / 100 : Nat) : Int) ((v % 100 : Nat) : Int)) := by
                  obtain ⟨⟨x1, x2, x3⟩, x4, x5⟩ := rM79
                  refine ⟨⟨by rw [e99, upm_k (by omega)]; exact x1, by rw [e99, upm_k (by omega)]; exact x2, by rw [e99, upm_k (by omega)]; exact x3⟩, fun k x y => ?_, fun k x y => ?_⟩
                  · show _ = if k = ((v / 100 : Nat) : Int) then ((v % 100 : Nat) : Int) else csS (sC S) k
                    rw [e99, upm_x]
                    by_cases e : k = ((v / 100 : Nat) : Int)
                    · rw [if_pos ⟨rfl, by omega⟩, if_pos e]
                    · rw [if_neg (fun z => e (by omega)), if_neg e]; exact x4 k x y
                  · rw [e99, upm_k (by omega), upm_k (by omega), upm_k (by omega), upm_k (by omega)]
                    exact x5 k x y
                refine A_aload_n dX8_smear_100 rfl ?_
                refine A_iload_n dX8_smear_101 rfl ?_
                refine A_iload_n dX8_smear_102 rfl ?_
                refine A_vI2 (mj := mX8_filedIn) dX8_smear_103 hR.rm (by decide) ok_X8_filedIn mv_X8_filedIn ml_RX8_195 (by assumption) rfl rfl rfl (m_filedIn (g := f) (n := t) (C := ssc (sC S) ((v / 100 : Nat) : Int) ((v % 100 : Nat) : Int)) hO (rI_fr rI79 (fun y hy => by rw [e99, upm_c (by omega)])) r99 hwT (ssc_w hwC (by omega) (by omega)) (by show csG (sC S) < 100000; omega) (by omega) (by omega)) (fun z103 M103 g103 k103 q103 => ?_)
                obtain ⟨f103, q103⟩ := q103
                have q103 : z103 = wsm (sT S) (sC S) f t v := q103
                subst z103
                have hY2 := rY_try hY1 hwT (frM_t f99 f103)
                refine A_istore dX8_smear_106 (by decide) rfl ?_
                refine A_iload dX8_smear_108 rfl ?_
                refine A_iconst dX8_smear_110 (by decide) ?_
                refine A_icmp_eq (tgt := 129) dX8_smear_111 (by decide) (fun h111 => ?_) (fun h111 => ?_)
                · skip
                  refine A_iinc dX8_smear_129 (by decide) rfl rfl ⟨by omega, by omega⟩ ?_
                  refine A_goto (tgt := 64) dX8_smear_132 (by decide) ?_
                  first
                  | (refine ih _ (by omega) (v + 1) x y _ M103 rfl (by omega) ?_ hy hz hY2.1 (fun y hy => (hY2.2 y hy).trans (hf y hy))
                     rw [bsm, if_neg, hx]
                     rintro ⟨q1, q2⟩
                     rw [← hx] at q2
                     by_cases e : x = -1
                     · have := hy e; omega
                     · have := hz e; omega)
                  | (refine ih _ (by omega) (v + 1) v (wsm (sT S) (sC S) f t v) _ M103 rfl (by omega) ?_ (fun q => by omega) (fun _ => by rw [Int.toNat_natCast]) hY2.1 (fun y hy => (hY2.2 y hy).trans (hf y hy))
                     rw [bsm, if_pos]
                     rw [← hx]
                     refine ⟨by omega, ?_⟩
                     by_cases e : x = -1
                     · exact Or.inl e
                     · have := hz e; right; omega)
                · skip
                  refine A_iload dX8_smear_114 rfl ?_
                  refine A_iload dX8_smear_116 rfl ?_
                  refine A_icmp_ge (tgt := 129) dX8_smear_118 (by decide) (fun h118 => ?_) (fun h118 => ?_)
                  · skip
                    refine A_iinc dX8_smear_129 (by decide) rfl rfl ⟨by omega, by omega⟩ ?_
                    refine A_goto (tgt := 64) dX8_smear_132 (by decide) ?_
                    first
                    | (refine ih _ (by omega) (v + 1) x y _ M103 rfl (by omega) ?_ hy hz hY2.1 (fun y hy => (hY2.2 y hy).trans (hf y hy))
                       rw [bsm, if_neg, hx]
                       rintro ⟨q1, q2⟩
                       rw [← hx] at q2
                       by_cases e : x = -1
                       · have := hy e; omega
                       · have := hz e; omega)
                    | (refine ih _ (by omega) (v + 1) v (wsm (sT S) (sC S) f t v) _ M103 rfl (by omega) ?_ (fun q => by omega) (fun _ => by rw [Int.toNat_natCast]) hY2.1 (fun y hy => (hY2.2 y hy).trans (hf y hy))
                       rw [bsm, if_pos]
                       rw [← hx]
                       refine ⟨by omega, ?_⟩
                       by_cases e : x = -1
                       · exact Or.inl e
                       · have := hz e; right; omega)
                  · skip
                    refine A_iload dX8_smear_121 rfl ?_
                    refine A_istore dX8_smear_123 (by decide) rfl ?_
                    refine A_iload dX8_smear_125 rfl ?_
                    refine A_istore dX8_smear_127 (by decide) rfl ?_
                    refine A_iinc dX8_smear_129 (by decide) rfl rfl ⟨by omega, by omega⟩ ?_
                    refine A_goto (tgt := 64) dX8_smear_132 (by decide) ?_
                    first
                    | (refine ih _ (by omega) (v + 1) x y _ M103 rfl (by omega) ?_ hy hz hY2.1 (fun y hy => (hY2.2 y hy).trans (hf y hy))
                       rw [bsm, if_neg, hx]
                       rintro ⟨q1, q2⟩
                       rw [← hx] at q2
                       by_cases e : x = -1
                       · have := hy e; omega
                       · have := hz e; omega)
                    | (refine ih _ (by omega) (v + 1) v (wsm (sT S) (sC S) f t v) _ M103 rfl (by omega) ?_ (fun q => by omega) (fun _ => by rw [Int.toNat_natCast]) hY2.1 (fun y hy => (hY2.2 y hy).trans (hf y hy))
                       rw [bsm, if_pos]
                       rw [← hx]
                       refine ⟨by omega, ?_⟩
                       by_cases e : x = -1
                       · exact Or.inl e
                       · have := hz e; right; omega)
          exact lp _ 0 (-1) 268435456 vU M rfl (by omega) rfl (fun _ => rfl) (fun q => absurd rfl q) hY frY_r
        · skip
          refine A_bipush dX8_smear_51 bp_m4 (by decide) ?_
          exact A_iret hR dX8_smear_53 rfl ⟨_, rfl, hY, frY_r, by unfold f_smear; rw [if_pos dt, if_pos da, if_neg (by omega)]⟩
      · skip
        refine A_bipush dX8_smear_35 bp_m3 (by decide) ?_
        exact A_iret hR dX8_smear_37 rfl ⟨_, rfl, hY, frY_r, by unfold f_smear; rw [if_pos dt, if_neg (fun q => by first | (have := q17.mpr ⟨by omega, by omega⟩; omega) | (have := q29.mpr ⟨by omega, by omega⟩; omega))]⟩
  · skip
    refine A_bipush dX8_smear_8 bp_m2 (by decide) ?_
    exact A_iret hR dX8_smear_10 rfl ⟨_, rfl, hY, frY_r, by unfold f_smear; rw [if_neg (fun q => by have := q2.mpr q; omega)]⟩

