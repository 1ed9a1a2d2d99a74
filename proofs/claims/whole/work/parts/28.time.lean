/-! ways: what is ever reached is reached in as many steps as there are desks; a file that is filed has gone a way -/
noncomputable def cSe (p : Nat → Prop) : Nat → Nat
  | 0 => 0
  | k + 1 => cSe p k + @ite Nat (p k) (Classical.propDecidable _) 1 0
theorem cSe_le (p : Nat → Prop) : ∀ k : Nat, cSe p k ≤ k
  | 0 => by unfold cSe; omega
  | k + 1 => by
    have := cSe_le p k
    unfold cSe
    split <;> omega
theorem cSe_mono {p q : Nat → Prop} (h : ∀ k, p k → q k) : ∀ k : Nat, cSe p k ≤ cSe q k
  | 0 => by unfold cSe; omega
  | k + 1 => by
    have ih := cSe_mono h k
    unfold cSe
    by_cases hp : p k
    · rw [if_pos hp, if_pos (h k hp)]; omega
    · rw [if_neg hp]; split <;> omega
theorem cSe_lt {p q : Nat → Prop} (h : ∀ k, p k → q k) {j : Nat} (hj : ¬ p j) (hq : q j) : ∀ k : Nat, j < k → cSe p k < cSe q k
  | 0, x => by omega
  | k + 1, x => by
    unfold cSe
    by_cases e : j = k
    · subst e
      rw [if_neg hj, if_pos hq]
      have := cSe_mono h j
      omega
    · have ih := cSe_lt h hj hq k (by omega)
      by_cases hp : p k
      · rw [if_pos hp, if_pos (h k hp)]; omega
      · rw [if_neg hp]; split <;> omega
theorem ed_r {q : Int} {T : TD} {C : CS} {d e : Int} (hT : wT T) (h : edN q T C (oT T) d e) : (0 ≤ d ∧ d < oD T) ∧ 0 ≤ e ∧ e < oD T := by
  obtain ⟨j, j0, j1, jj, -⟩ := h
  have w := hT.2.2.1 j j0 j1
  rcases jj with jj | jj <;> omega
theorem rch_st {q : Int} {T : TD} {C : CS} {a : Int} {m : Nat} (h : ∀ d, rch q T C a (m + 1) d → rch q T C a m d) : ∀ {n : Nat} {d : Int}, rch q T C a n d → rch q T C a m d := by
  intro n
  induction n with
  | zero => intro d hd; exact rch_m hd (by omega)
  | succ n ih =>
    intro d hd
    rcases hd with hd | ⟨e, he, hv⟩
    · exact ih hd
    · exact h d (Or.inr ⟨e, ih he, hv⟩)
theorem rch_all {q : Int} {T : TD} {C : CS} {a : Int} (hT : wT T) (h0 : 0 ≤ a) (h1 : a < oD T) {n : Nat} {d : Int} (h : rch q T C a n d) : rch q T C a (oD T) d := by
  have key : ∀ n : Nat, (∃ m, m < n ∧ ∀ d, rch q T C a (m + 1) d → rch q T C a m d) ∨ n < cSe (fun k => rch q T C a n (k : Int)) (oD T) := by
    intro n
    induction n with
    | zero =>
      right
      have z : ∀ k : Nat, cSe (fun _ => False) k = 0 := fun k => by
        induction k with
        | zero => rfl
        | succ k ih => unfold cSe; rw [if_neg (fun x => x), ih]
      have := cSe_lt (p := fun _ => False) (q := fun k : Nat => rch q T C a 0 (k : Int)) (fun _ x => x.elim) (j := a.toNat) (fun x => x) (show ((a.toNat : Nat) : Int) = a by omega) (oD T) (by omega)
      rw [z] at this
      exact this
    | succ n ih =>
      rcases ih with ⟨m, hm, hs⟩ | ih
      · exact Or.inl ⟨m, by omega, hs⟩
      · by_cases st : ∀ d, rch q T C a (n + 1) d → rch q T C a n d
        · exact Or.inl ⟨n, by omega, st⟩
        · right
          have : ∃ d, rch q T C a (n + 1) d ∧ ¬ rch q T C a n d := by
            apply Classical.byContradiction
            intro x
            exact st (fun d hd => Classical.byContradiction fun y => x ⟨d, hd, y⟩)
          obtain ⟨d, d1, d2⟩ := this
          have hr : 0 ≤ d ∧ d < oD T := by
            rcases d1 with d1 | ⟨e, -, hv⟩
            · exact absurd d1 d2
            · exact (ed_r hT hv).2
          have := cSe_lt (p := fun k : Nat => rch q T C a n (k : Int)) (q := fun k : Nat => rch q T C a (n + 1) (k : Int)) (fun _ x => Or.inl x) (j := d.toNat) (by show ¬ rch q T C a n ((d.toNat : Nat) : Int); rw [show ((d.toNat : Nat) : Int) = d by omega]; exact d2) (by show rch q T C a (n + 1) ((d.toNat : Nat) : Int); rw [show ((d.toNat : Nat) : Int) = d by omega]; exact d1) (oD T) (by omega)
          omega
  rcases key (oD T) with ⟨m, hm, hs⟩ | x
  · exact rch_m (rch_st hs h) (by omega)
  · have := cSe_le (fun k => rch q T C a (oD T) (k : Int)) (oD T)
    omega
/-- a minute's way -/
theorem crd_l {T : TD} {C : CS} {f : Int} (h : crd T C f ≠ -1) : csQ C ≠ csA C f ∧ oK T (csA C f) ≠ 3 := by
  unfold crd at h
  split at h
  · exact absurd rfl h
  · rename_i q; omega
theorem it_Q (T : TD) (C : CS) : ∀ n : Nat, csQ (itC T C n) = csQ C
  | 0 => rfl
  | n + 1 => it_Q T C n
theorem it_W {T : TD} {C : CS} (h : 0 ≤ csW C) : ∀ n : Nat, csW (itC T C n) = max 0 (csW C - n)
  | 0 => by simp [itC]; omega
  | n + 1 => by
    have ih := it_W (T := T) h n
    show (if 0 < csW (itC T C n) then csW (itC T C n) - 1 else csW (itC T C n)) = _
    rw [ih]
    split <;> omega
theorem way_it {T : TD} {C C' : CS} (hT : wT T) (hC : wC T C') (hq : csQ C' = csQ C) {f : Int} (h0 : 0 ≤ f) (h1 : f < oF T) : ∀ n : Nat, rch 0 T C (csA C' f) (n - (csW C').toNat) (csA (itC T C' n) f)
  | 0 => by rw [Nat.zero_sub]; exact rfl
  | n + 1 => by
    have ih := way_it hT hC hq h0 h1 n
    have w := it_W (T := T) hC.1.1 n
    have wn := (itC_w hT hC n).1
    by_cases e : crd T (itC T C' n) f = -1
    · have : csA (itC T C' (n + 1)) f = csA (itC T C' n) f := by
        show csA (mnB T (itC T C' n) (crd T (itC T C' n))) f = _
        rw [mnB_A, if_pos e]
      rw [this]
      exact rch_m ih (by omega)
    · have eA : csA (itC T C' (n + 1)) f = acr T (crd T (itC T C' n) f) (csA (itC T C' n) f) := by
        show csA (mnB T (itC T C' n) (crd T (itC T C' n))) f = _
        rw [mnB_A, if_neg e]
      rw [eA]
      have u := crd_u h0 e
      have p := crd_p wn h0 h1
      have l := crd_l e
      rw [it_Q, hq] at l
      rw [show n + 1 - (csW C').toNat = (n - (csW C').toNat) + 1 by omega]
      refine Or.inr ⟨csA (itC T C' n) f, ih, crd T (itC T C' n) f, by omega, p.2.1, ?_, fun z => absurd rfl z, fun _ => ⟨fun z => l.1 z.symm, l.2⟩⟩
      unfold acr
      by_cases x : oA T (crd T (itC T C' n) f) = csA (itC T C' n) f
      · rw [if_pos x]; exact Or.inl ⟨x, rfl⟩
      · rw [if_neg x]
        rcases p.2.2 e with y | y
        · exact absurd y x
        · exact Or.inr ⟨y, rfl⟩
/-- one that is filed is at its end -/
theorem end_it {T : TD} {C : CS} {f : Int} (h0 : 0 ≤ f) (h : csF C f = -1) : ∀ n : Nat, csF (itC T C n) f ≠ -1 → csA (itC T C n) f = oE T f
  | 0 => fun x => absurd h x
  | n + 1 => fun x => by
    have ih := end_it (T := T) h0 h n
    by_cases e : csF (itC T C n) f = -1
    · have x2 : csF (mnB T (itC T C n) (crd T (itC T C n))) f ≠ -1 := x
      rw [mnB_F] at x2
      split at x2
      · rename_i q; exact q.2
      · exact absurd e x2
    · have s := mn_stable (T := T) h0 e
      show csA (mnB T (itC T C n) (crd T (itC T C n))) f = _
      rw [mnB_A, if_pos s.2]
      exact ih e
/-- one without sweetness is never carried -/
theorem dry_it {T : TD} {C : CS} {f : Int} (h0 : 0 ≤ f) (h : csF C f = -1) (hs : csSw C f = 0) : ∀ n : Nat, csF (itC T C n) f = -1 ∧ csSw (itC T C n) f = 0
  | 0 => ⟨h, hs⟩
  | n + 1 => by
    obtain ⟨a, b⟩ := dry_it (T := T) h0 h hs n
    have e : crd T (itC T C n) f = -1 := by
      by_cases e : crd T (itC T C n) f = -1
      · exact e
      · have := (crd_u h0 e).2.1; omega
    refine ⟨?_, ?_⟩
    · show csF (mnB T (itC T C n) (crd T (itC T C n))) f = _
      rw [mnB_F, if_neg (fun z => z.1 e)]; exact a
    · show csSw (mnB T (itC T C n) (crd T (itC T C n))) f = _
      rw [mnB_Sw, if_pos e]; exact b
/-- when one is filed: the minute tells by how many minutes -/
theorem when_it {T : TD} {C : CS} {f : Int} (hT : wT T) (hC : wC T C) (h0 : 0 ≤ f) (h : csF C f = -1) : ∀ n : Nat, csF (itC T C n) f ≠ -1 → csG C ≤ csF (itC T C n) f ∧ csF (itC T C n) f < csG C + n ∧ ∀ m : Nat, (csF (itC T C m) f ≠ -1 ↔ csF (itC T C n) f < csG C + m)
  | 0 => fun x => absurd h x
  | n + 1 => fun x => by
    have ih := when_it hT hC h0 h n
    by_cases e : csF (itC T C n) f = -1
    · have x2 : csF (mnB T (itC T C n) (crd T (itC T C n))) f ≠ -1 := x
      have v : csF (itC T C (n + 1)) f = csG C + n := by
        show csF (mnB T (itC T C n) (crd T (itC T C n))) f = _
        rw [mnB_F] at x2 ⊢
        split at x2
        · rename_i q; rw [if_pos q]; exact (itC_w hT hC n).2
        · exact absurd e x2
      rw [v]
      refine ⟨by omega, by omega, fun m => ⟨fun y => ?_, fun y => ?_⟩⟩
      · rcases Nat.lt_or_ge n m with q | q
        · omega
        · have := it_later (T := T) h0 q y
          exact absurd (this.symm.trans e) y
      · have := it_later (T := T) h0 (show n + 1 ≤ m by omega) x
        rw [this]; exact x
    · have s := it_later (T := T) h0 (Nat.le_succ n) e
      rw [s]
      obtain ⟨a, b, c⟩ := ih e
      exact ⟨a, by omega, c⟩
set_option maxRecDepth 100000 in
set_option maxHeartbeats 4000000 in
theorem c_mayBe {E : EN} {l : Launch} {M : Mem} {f t n : Nat} {T : TD} {C : CS}{g m : Nat}(hF : isFor E f t n) (hT : isTold E t) (hN : isCrs E n) (hd1 : t + 8 ≤ n) (hd2 : n + 8 ≤ f) (hrT : rT M t T) (hrC : rC M n T C) (hwT : wT T) (hwC : wC T C) (hG : csG C ≤ 9999)(hg : g < oF T) (hm : m ≤ 1000) : Cn E l mX2_mayBeInTime 3 [vR f, vI g, vI m] M (fun r M1 => ∃ z, r = vI z ∧ (fr M M1 (f + 12) 1 ∧ (z = 0 ∨ z = 1) ∧ (z = 0 → ∀ k : Nat, csW C + k ≤ m → ¬ rch 0 T C (csA C g) k (oE T g)))) := by
  refine Cn.of (by decide) rfl (Nat.le_of_ble_eq_true rfl) 1 rfl (fun oka okm G hR => ?_)
  obtain ⟨aF0, hTr, aF9, aF10, aF11, aF12⟩ := id hF
  have cT := crs_at hTr
  have cN := crs_at hN
  have tD := told_at hT
  obtain ⟨cT0, cT1, cT2, cT3, cT4, cT5, cT6, cT7⟩ := id hTr
  obtain ⟨cN0, cN1, cN2, cN3, cN4, cN5, cN6, cN7⟩ := id hN
  obtain ⟨aT0, aT1, aT2, aT3, aT4, aT5, aT6, aT7⟩ := id hT
  obtain ⟨⟨t0, t1, t2, t3, t4⟩, tk, tt, tf⟩ := id hrT
  obtain ⟨⟨c0, c1, c2, c3⟩, cs, cf⟩ := id hrC
  obtain ⟨wt0, wtk, wtt, wtf⟩ := id hwT
  obtain ⟨wc0, wcs, wcf⟩ := id hwC
  have w1 := wcf g (by omega) (by omega)
  have w2 := wtf g (by omega) (by omega)
  have w3 := cf g (by omega) (by omega)
  have w4 := tf g (by omega) (by omega)
  refine A_aload_n dX2_mayBeInTime_0 rfl ?_
  refine A_aload_n dX2_mayBeInTime_1 rfl ?_
  refine A_getR dX2_mayBeInTime_2 fl_RX2_35 (by assumption) (by rfl) ?_
  refine A_getR dX2_mayBeInTime_5 fl_RX2_67 (by assumption) (by rfl) ?_
  refine A_iload_n dX2_mayBeInTime_8 rfl ?_
  refine A_iald dX2_mayBeInTime_9 (by assumption) (by omega) (by omega) ?_
  rw [w3.1]
  refine A_aload_n dX2_mayBeInTime_10 rfl ?_
  refine A_getR dX2_mayBeInTime_11 fl_RX2_31 (by assumption) (by rfl) ?_
  refine A_getR dX2_mayBeInTime_14 fl_RX2_70 (by assumption) (by rfl) ?_
  refine A_iload_n dX2_mayBeInTime_17 rfl ?_
  refine A_iald dX2_mayBeInTime_18 (by assumption) (by omega) (by omega) ?_
  rw [w4.2.1]
  refine A_iconst dX2_mayBeInTime_19 (by decide) ?_
  refine A_vI3 (mj := mX2_fewestTrails) dX2_mayBeInTime_20 hR.rm (by decide) ok_X2_fewestTrails mv_X2_fewestTrails ml_RX2_73 (by assumption) rfl rfl rfl (c_fewest hF hT hN hd1 hd2 hrT hrC hwT hwC hG (by omega) (by omega)) (fun z20 M20 g20 k20 q20 => ?_)
  obtain ⟨q20a, q20b⟩ := q20
  have n20 : M20 n = M n := q20a n (by omega)
  have zr : z20 ≤ 8 := by
    rcases q20b with x | x
    · omega
    · rcases Int.lt_or_le 8 z20 with y | y
      · exact absurd (rch_all hwT (by omega) (by omega) x.2.1) (x.2.2 (oD T) (by omega))
      · exact y
  refine A_istore_n dX2_mayBeInTime_23 (by decide) rfl ?_
  refine A_iload_n dX2_mayBeInTime_24 rfl ?_
  refine A_iconst dX2_mayBeInTime_25 (by decide) ?_
  refine A_icmp_eq (tgt := 46) dX2_mayBeInTime_26 (by decide) (fun h26 => ?_) (fun h26 => ?_)
  · skip
    refine A_iconst dX2_mayBeInTime_46 (by decide) ?_
    exact A_zret hR dX2_mayBeInTime_47 rfl (by first | exact Or.inl rfl | exact Or.inr rfl | omega) (by
      first
      | exact ⟨_, rfl, q20a, Or.inr rfl, fun h => absurd h (by decide)⟩
      | (refine ⟨_, rfl, q20a, Or.inl rfl, fun _ k hk r => ?_⟩
         rcases q20b with x | x
         · exact x.2 (rch_all hwT (by omega) (by omega) r)
         · exact x.2.2 k (by omega) r))
  · skip
    refine A_aload_n dX2_mayBeInTime_29 rfl ?_
    refine A_getR dX2_mayBeInTime_30 fl_RX2_35 (by assumption) (by rfl) ?_
    refine A_getI (ki := 0) dX2_mayBeInTime_33 fl_RX2_77 (by assumption) (by rfl) rfl ?_
    rw [n20, c0]
    refine A_iload_n dX2_mayBeInTime_36 rfl ?_
    refine A_iadd dX2_mayBeInTime_37 ⟨by omega, by omega⟩ ?_
    refine A_iload_n dX2_mayBeInTime_38 rfl ?_
    refine A_icmp_gt (tgt := 46) dX2_mayBeInTime_39 (by decide) (fun h39 => ?_) (fun h39 => ?_)
    · skip
      refine A_iconst dX2_mayBeInTime_46 (by decide) ?_
      exact A_zret hR dX2_mayBeInTime_47 rfl (by first | exact Or.inl rfl | exact Or.inr rfl | omega) (by
      first
      | exact ⟨_, rfl, q20a, Or.inr rfl, fun h => absurd h (by decide)⟩
      | (refine ⟨_, rfl, q20a, Or.inl rfl, fun _ k hk r => ?_⟩
         rcases q20b with x | x
         · exact x.2 (rch_all hwT (by omega) (by omega) r)
         · exact x.2.2 k (by omega) r))
    · skip
      refine A_iconst dX2_mayBeInTime_42 (by decide) ?_
      refine A_goto (tgt := 47) dX2_mayBeInTime_43 (by decide) ?_
      exact A_zret hR dX2_mayBeInTime_47 rfl (by first | exact Or.inl rfl | exact Or.inr rfl | omega) (by
      first
      | exact ⟨_, rfl, q20a, Or.inr rfl, fun h => absurd h (by decide)⟩
      | (refine ⟨_, rfl, q20a, Or.inl rfl, fun _ k hk r => ?_⟩
         rcases q20b with x | x
         · exact x.2 (rch_all hwT (by omega) (by omega) r)
         · exact x.2.2 k (by omega) r))

