/-! THE READER: words, a line -/
theorem rr_z {M M1 : Mem} {x : Fn} {n p : Nat} {w : Int} {T : TD} {z : Int} (h : rrP M M1 x n p w T z) : z = 0 ∨ z = 1 := by
  by_cases e : (rsR x n p w (oD T)).1 = -1
  · exact Or.inr (h.2.2 e).1
  · exact Or.inl (h.2.1 e).1
def lnX (M M1 : Mem) (x : Fn) (n p : Nat) (T : TD) (z : Int) : Prop := frD M M1 ∧ ((lnR x n p T).1 ≠ -1 → z = 0 ∧ M1 11 2 = (lnR x n p T).1) ∧ ((lnR x n p T).1 = -1 → z = 1 ∧ M1 11 2 = M 11 2 ∧ M1 11 5 = (lnR x n p T).2.1 ∧ rT M1 12 (lnT (lnR x n p T) T))
theorem lnX_of {M M1 M2 : Mem} {x : Fn} {n p : Nat} {w : Int} {T : TD} {z : Int} (hw : wdN x (tkA x n p) (tkB x n p) = w) (hr : ¬ (w = -1 ∨ (w = 5 ∧ oT T = 12) ∨ (w = 6 ∧ oF T = 6))) (f : (∀ y, y ≠ 11 → M1 y = M y) ∧ M1 11 3 = M 11 3) (e2 : M1 11 2 = M 11 2) (h : rrP M1 M2 x n (tkB x n p) w T z) : lnX M M2 x n p T z := by
  have e : lnR x n p T = ((rsR x n (tkB x n p) w (oD T)).1, (rsR x n (tkB x n p) w (oD T)).2.1, w, (rsR x n (tkB x n p) w (oD T)).2.2) := by
    unfold lnR
    rw [hw, if_neg hr]
  obtain ⟨⟨h1, h2⟩, h3, h4⟩ := h
  unfold lnX
  rw [e]
  exact ⟨⟨fun y hy => (h1 y hy).trans (f.1 y (by omega)), h2.trans f.2⟩, h3, fun q => ⟨(h4 q).1, (h4 q).2.1.trans e2, (h4 q).2.2⟩⟩
theorem lnX_ref {M M1 M2 : Mem} {x : Fn} {n p : Nat} {T : TD} (hr : wdN x (tkA x n p) (tkB x n p) = -1 ∨ (wdN x (tkA x n p) (tkB x n p) = 5 ∧ oT T = 12) ∨ (wdN x (tkA x n p) (tkB x n p) = 6 ∧ oF T = 6)) (f : (∀ y, y ≠ 11 → M1 y = M y) ∧ M1 11 3 = M 11 3) (h : M2 = upm M1 11 2 (tkA x n p : Nat)) : lnX M M2 x n p T 0 := by
  have e : lnR x n p T = (((tkA x n p : Nat) : Int), 0, 0, 0, 0, 0) := by
    unfold lnR
    rw [if_pos hr]
  unfold lnX
  rw [e, h]
  exact ⟨⟨fun y hy => by rw [upm_c (by omega)]; exact f.1 y (by omega), by rw [upm_k (by omega)]; exact f.2⟩, fun _ => ⟨rfl, by rw [upm_s]⟩, fun q => by have q : ((tkA x n p : Nat) : Int) = -1 := q; omega⟩
set_option maxRecDepth 100000 in
set_option maxHeartbeats 4000000 in
theorem c_tokenIs {E : EN} {l : Launch} {M : Mem} {n a b i : Nat} {x : Fn} (hO : isRdr E) (hn2 : n ≤ 200) (hx : tX M n x) (ha : M 11 4 = a) (hb : M 11 5 = b) (hab : a ≤ b) (hbn : b ≤ n) (hi : i < 9) : Cn E l mX3_tokenIs 4 [vR 11, vS i] M (fun r M1 => ∃ z, r = vI z ∧ (M1 = M ∧ (z = 0 ∨ z = 1) ∧ (z = 1 ↔ isW x a b (tWd.getD i [])))) := by
  refine Cn.of (by decide) rfl (Nat.le_of_ble_eq_true rfl) 1 rfl (fun oka okm G hR => ?_)
  obtain ⟨rt, rd, ra⟩ := id hO
  obtain ⟨ta, tb⟩ := id rt
  obtain ⟨b0, b1, b2, b3, b4, b5, b6, b7⟩ := id rd
  have tw := tW_ok i hi
  obtain ⟨W, hW⟩ : ∃ W, W = tWd.getD i [] := ⟨_, rfl⟩
  obtain ⟨ln, hln⟩ : ∃ ln, ln = tLen.getD i 0 := ⟨_, rfl⟩
  have wl : ln = W.length := by rw [hln, hW]; exact tw.1
  have ln6 : ln ≤ 6 := by rw [hln]; exact tw.2.1
  rw [← hW] at hR
  refine A_aload_n dX3_tokenIs_0 rfl ?_
  refine A_getI (ki := 5) dX3_tokenIs_1 fl_RX3_30 (by assumption) (by rfl) rfl ?_
  rw [hb]
  refine A_aload_n dX3_tokenIs_4 rfl ?_
  refine A_getI (ki := 4) dX3_tokenIs_5 fl_RX3_43 (by assumption) (by rfl) rfl ?_
  rw [ha]
  refine A_isub dX3_tokenIs_8 ⟨by omega, by omega⟩ ?_
  refine A_aload_nS dX3_tokenIs_9 rfl ?_
  refine A_vSI0 (mj := mJ0_length_8abf5) dX3_tokenIs_10 hR.rm (by decide) ok_J0_length_8abf5 mv_J0_length_8abf5 ml_RX3_140 hi rfl rfl (c_length hi) (fun z10 M10 g10 k10 q10 => ?_)
  obtain ⟨e10, q10⟩ := q10
  subst M10
  subst z10
  rw [← hln]
  skip
  refine A_icmp_eq (tgt := 18) dX3_tokenIs_13 (by decide) (fun h13 => ?_) (fun h13 => ?_)
  · skip
    have hl0 : (b : Int) - a = W.length := by omega
    refine A_iconst dX3_tokenIs_18 (by decide) ?_
    refine A_istore_n dX3_tokenIs_19 (by decide) rfl ?_
    have lp : ∀ (k : Nat) (j : Nat), ln - j = k → (j ≤ ln) → (isWp x a b W j) → AW E mX3_tokenIs G 0 0 20 [vR 11, vS i, vI j] [] M := by
      intro k
      induction k using Nat.strongRecOn with
      | ind k ih =>
        intro j hk hj hp
        refine A_iload_n dX3_tokenIs_20 rfl ?_
        refine A_aload_nS dX3_tokenIs_21 rfl ?_
        refine A_vSI0 (mj := mJ0_length_8abf5) dX3_tokenIs_22 hR.rm (by decide) ok_J0_length_8abf5 mv_J0_length_8abf5 ml_RX3_140 hi rfl rfl (c_length hi) (fun z22 M22 g22 k22 q22 => ?_)
        obtain ⟨e22, q22⟩ := q22
        subst M22
        subst z22
        rw [← hln]
        refine A_icmp_ge (tgt := 57) dX3_tokenIs_25 (by decide) (fun h25 => ?_) (fun h25 => ?_)
        · skip
          refine A_iconst dX3_tokenIs_57 (by decide) ?_
          exact A_zret hR dX3_tokenIs_58 rfl (by first | exact Or.inl rfl | exact Or.inr rfl | omega) ⟨_, rfl, rfl, by omega, fun _ => by rw [show j = W.length by omega] at hp; exact hp, fun _ => rfl⟩
        · skip
          refine A_aload_n dX3_tokenIs_28 rfl ?_
          refine A_getR dX3_tokenIs_29 fl_RX3_18 (by assumption) (by rfl) ?_
          refine A_aload_n dX3_tokenIs_32 rfl ?_
          refine A_getI (ki := 4) dX3_tokenIs_33 fl_RX3_43 (by assumption) (by rfl) rfl ?_
          refine A_iload_n dX3_tokenIs_36 rfl ?_
          rw [ha]
          refine A_iadd dX3_tokenIs_37 ⟨by omega, by omega⟩ ?_
          refine A_vI1 (mj := mX5_at) dX3_tokenIs_38 hR.rm (by decide) ok_X5_at mv_X5_at ml_RX3_51 (by assumption) rfl rfl rfl (c_txtAt rt (i := (a : Int) + j) (by have := hx.1; omega)) (fun z38 M38 g38 k38 q38 => ?_)
          obtain ⟨e38, q38⟩ := q38
          subst M38
          rw [hx.1, if_pos ⟨by omega, by omega⟩, show M (1 + 1) ((a : Int) + j) = x ((a : Int) + j) from hx.2 _ (by omega) (by omega)] at q38
          subst z38
          refine A_aload_nS dX3_tokenIs_41 rfl ?_
          refine A_iload_n dX3_tokenIs_42 rfl ?_
          refine A_vSI1 (mj := mJ0_charAt_5068e) dX3_tokenIs_43 hR.rm (by decide) ok_J0_charAt_5068e mv_J0_charAt_5068e ml_RX3_145 hi rfl rfl (c_charAt (k := j) hi (by omega)) (fun z43 M43 g43 k43 q43 => ?_)
          obtain ⟨e43, q43⟩ := q43
          subst M43
          subst z43
          rw [← hW]
          refine A_icmp_eq (tgt := 51) dX3_tokenIs_46 (by decide) (fun h46 => ?_) (fun h46 => ?_)
          · skip
            refine A_iinc dX3_tokenIs_51 (by decide) rfl rfl ⟨by omega, by omega⟩ ?_
            refine A_goto (tgt := 20) dX3_tokenIs_54 (by decide) ?_
            exact ih _ (by omega) (j + 1) rfl (by omega) (isWp_1.mpr ⟨hp, h46⟩)
          · skip
            refine A_iconst dX3_tokenIs_49 (by decide) ?_
            exact A_zret hR dX3_tokenIs_50 rfl (by first | exact Or.inl rfl | exact Or.inr rfl | omega) ⟨_, rfl, rfl, by omega, fun q => by omega, fun q => absurd (q.2 j (by omega)) h46⟩
    exact lp _ 0 rfl (by omega) ⟨hl0, fun k hk => by omega⟩
  · skip
    refine A_iconst dX3_tokenIs_16 (by decide) ?_
    exact A_zret hR dX3_tokenIs_17 rfl (by first | exact Or.inl rfl | exact Or.inr rfl | omega) ⟨_, rfl, rfl, by omega, fun q => by omega, fun q => by have := q.1; omega⟩

