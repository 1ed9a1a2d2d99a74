/-! THE MODEL: a new start -/
/-- what is told of the start, in the row of it -/
def rW (M : Mem) (m : Nat) (T : TD) : Prop := M (m + 1) 157 = oW T ∧ (∀ k : Int, 0 ≤ k → k < oT T → M (m + 1) (159 + k) = oS T k) ∧ ∀ k : Int, 0 ≤ k → k < oF T → M (m + 1) (171 + k) = oSt T k ∧ M (m + 1) (177 + k) = oSw T k
theorem cp_4 {M M1 : Mem} {m : Nat} {T : TD} {C : CS} (hT : wT T) (h : rM M m 156 T C) (q : (∀ y, y ≠ m + 1 → M1 y = M y) ∧ (∀ k : Int, k < 39 * (0 : Nat) ∨ 39 * ((0 : Nat) : Int) + 39 ≤ k → M1 (m + 1) k = M (m + 1) k) ∧ ∀ k : Int, 0 ≤ k → k < 39 → M1 (m + 1) (39 * (0 : Nat) + k) = M (m + 1) (39 * (4 : Nat) + k)) : rM M1 m 0 T C ∧ rM M1 m 156 T C :=
  ⟨rM_cp (a := 4) (b := 0) hT h q.2.2, rM_fr h hT (fun k x y => q.2.1 k (by omega))⟩
set_option maxRecDepth 100000 in
set_option maxHeartbeats 4000000 in
theorem m_begin {E : EN} {l : Launch} {M : Mem} {m : Nat} {T : TD} (hO : isMod E m) (hW : rW M m T) (hwT : wT T) : Cn E l mX8_begin 1 [vR m] M (fun r M1 => r = vU ∧ ((∀ y, y ≠ m + 1 → M1 y = M y) ∧ rM M1 m 0 T (bgC T) ∧ rM M1 m 156 T (bgC T))) := by
  refine Cn.of (by decide) rfl (Nat.le_of_ble_eq_true rfl) 2 rfl (fun oka okm G hR => ?_)
  obtain ⟨a0, a1, a2, a3, a4, a5, a6, a7, a8, a9, a10, a11, a12⟩ := id hO
  obtain ⟨w1, w2, w3⟩ := hW
  obtain ⟨wt0, wtk, wtt, wtf⟩ := id hwT
  refine A_sipush dX8_begin_0 sp_156 (by decide) ?_
  refine A_istore_n dX8_begin_3 (by decide) rfl ?_
  refine A_aload_n dX8_begin_4 rfl ?_
  refine A_getR dX8_begin_5 fl_RX8_7 (by assumption) (by rfl) ?_
  refine A_iload_n dX8_begin_8 rfl ?_
  refine A_iconst dX8_begin_9 (by decide) ?_
  refine A_iadd dX8_begin_10 ⟨by omega, by omega⟩ ?_
  refine A_iconst dX8_begin_11 (by decide) ?_
  refine A_iast dX8_begin_12 (by assumption) (by omega) (by omega) (fun M12 e12 k12 => ?_)
  refine A_aload_n dX8_begin_13 rfl ?_
  refine A_getR dX8_begin_14 fl_RX8_7 (by assumption) (by rfl) ?_
  refine A_iload_n dX8_begin_17 rfl ?_
  refine A_iconst dX8_begin_18 (by decide) ?_
  refine A_iadd dX8_begin_19 ⟨by omega, by omega⟩ ?_
  refine A_iconst dX8_begin_20 (by decide) ?_
  refine A_iast dX8_begin_21 (by assumption) (by omega) (by omega) (fun M21 e21 k21 => ?_)
  refine A_iconst dX8_begin_22 (by decide) ?_
  refine A_istore_n dX8_begin_23 (by decide) rfl ?_
  have lp : ∀ (k : Nat) (i : Nat) (M1 : Mem), 6 - i = k → (i ≤ 6) → (∀ y, y ≠ m + 1 → M1 y = M y) → (∀ k : Int, M1 (m + 1) k = if k = 156 then 0 else if k = 158 then -1 else if (183 ≤ k ∧ k < 183 + i) ∨ (189 ≤ k ∧ k < 189 + i) then -1 else M (m + 1) k) → AW E mX8_begin G 0 0 24 [vR m, vI 156, vI i] [] M1 := by
    intro k
    induction k using Nat.strongRecOn with
    | ind k ih =>
      intro i M1 hk h0 hf hx
      refine A_iload_n dX8_begin_24 rfl ?_
      refine A_bipush dX8_begin_25 bp_6 (by decide) ?_
      refine A_icmp_ge (tgt := 60) dX8_begin_27 (by decide) (fun h27 => ?_) (fun h27 => ?_)
      · skip
        have hi : i = 6 := by omega
        subst hi
        have rm : rM M1 m 156 T (bgC T) := by
          refine ⟨⟨?_, ?_, ?_⟩, fun k x y => ?_, fun k x y => ⟨?_, ?_, ?_, ?_⟩⟩
          · rw [hx, if_pos (by omega)]; rfl
          · rw [hx, if_neg (by omega), if_neg (by omega), if_neg (by omega)]; exact w1
          · rw [hx, if_neg (by omega), if_pos (by omega)]; rfl
          · rw [hx, if_neg (by omega), if_neg (by omega), if_neg (by omega)]; exact w2 k x y
          · rw [hx, if_neg (by omega), if_neg (by omega), if_neg (by omega)]; exact (w3 k x y).1
          · rw [hx, if_neg (by omega), if_neg (by omega), if_neg (by omega)]; exact (w3 k x y).2
          · rw [hx, if_neg (by omega), if_neg (by omega), if_pos (by omega)]; rfl
          · rw [hx, if_neg (by omega), if_neg (by omega), if_pos (by omega)]; rfl
        refine A_aload_n dX8_begin_60 rfl ?_
        refine A_iconst dX8_begin_61 (by decide) ?_
        refine A_iconst dX8_begin_62 (by decide) ?_
        refine A_vV2 (mj := mX8_copy) dX8_begin_63 hR.rm (by decide) ok_X8_copy mv_X8_copy ml_RX8_67 (by assumption) rfl rfl rfl (m_copy (a := 4) (b := 0) hO (by omega) (by omega) (by omega)) (fun M63 k63 q63 => ?_)
        have qq := cp_4 (C := bgC T) hwT rm q63
        exact A_vret hR dX8_begin_66 rfl ⟨rfl, fun y hy => (q63.1 y hy).trans (hf y hy), qq⟩
      · skip
        refine A_aload_n dX8_begin_30 rfl ?_
        refine A_getR dX8_begin_31 fl_RX8_7 (by assumption) (by rfl) ?_
        refine A_iload_n dX8_begin_34 rfl ?_
        refine A_bipush dX8_begin_35 bp_27 (by decide) ?_
        refine A_iadd dX8_begin_37 ⟨by omega, by omega⟩ ?_
        refine A_iload_n dX8_begin_38 rfl ?_
        refine A_iadd dX8_begin_39 ⟨by omega, by omega⟩ ?_
        refine A_iconst dX8_begin_40 (by decide) ?_
        refine A_iast dX8_begin_41 (by assumption) (by omega) (by omega) (fun M41 e41 k41 => ?_)
        refine A_aload_n dX8_begin_42 rfl ?_
        refine A_getR dX8_begin_43 fl_RX8_7 (by assumption) (by rfl) ?_
        refine A_iload_n dX8_begin_46 rfl ?_
        refine A_bipush dX8_begin_47 bp_33 (by decide) ?_
        refine A_iadd dX8_begin_49 ⟨by omega, by omega⟩ ?_
        refine A_iload_n dX8_begin_50 rfl ?_
        refine A_iadd dX8_begin_51 ⟨by omega, by omega⟩ ?_
        refine A_iconst dX8_begin_52 (by decide) ?_
        refine A_iast dX8_begin_53 (by assumption) (by omega) (by omega) (fun M53 e53 k53 => ?_)
        refine A_iinc dX8_begin_54 (by decide) rfl rfl ⟨by omega, by omega⟩ ?_
        refine A_goto (tgt := 24) dX8_begin_57 (by decide) ?_
        refine ih _ (by omega) (i + 1) M53 rfl (by omega) (fun y hy => by rw [e53, upm_c hy, e41, upm_c hy]; exact hf y hy) (fun k => ?_)
        rw [e53, upm_x]
        by_cases q : k = 189 + i
        · rw [if_pos ⟨rfl, by omega⟩, if_neg (by omega), if_neg (by omega), if_pos (by omega)]
        · rw [if_neg (fun z => q (by omega)), e41, upm_x]
          by_cases q2 : k = 183 + i
          · rw [if_pos ⟨rfl, by omega⟩, if_neg (by omega), if_neg (by omega), if_pos (by omega)]
          · rw [if_neg (fun z => q2 (by omega)), hx k]
            by_cases q3 : k = 156
            · rw [if_pos q3, if_pos q3]
            · rw [if_neg q3, if_neg q3]
              by_cases q4 : k = 158
              · rw [if_pos q4, if_pos q4]
              · rw [if_neg q4, if_neg q4]
                by_cases q5 : (183 ≤ k ∧ k < 183 + i) ∨ (189 ≤ k ∧ k < 189 + i)
                · rw [if_pos q5, if_pos (by omega)]
                · rw [if_neg q5, if_neg (by omega)]
  exact lp _ 0 M21 rfl (by omega) (fun y hy => by rw [e21, upm_c hy, e12, upm_c hy]) (fun k => by
    rw [e21, upm_x]
    by_cases q : k = 158
    · rw [if_pos ⟨rfl, by omega⟩, if_neg (by omega), if_pos q]
    · rw [if_neg (fun z => q (by omega)), e12, upm_x]
      by_cases q2 : k = 156
      · rw [if_pos ⟨rfl, by omega⟩, if_pos q2]
      · rw [if_neg (fun z => q2 (by omega)), if_neg q2, if_neg q, if_neg (by omega)])

