/-! THE MODEL: what a line tells -/
def frT (M M1 : Mem) (m : Nat) : Prop := (∀ y, y ≠ m → y ≠ m + 1 → y ≠ m + 5 → y ≠ m + 6 → y ≠ m + 7 → y ≠ m + 8 → M1 y = M y) ∧ (∀ k : Int, k ≠ 6 → k ≠ 10 → k ≠ 12 → k ≠ 13 → M1 m k = M m k) ∧ ∀ k : Int, k < 156 → M1 (m + 1) k = M (m + 1) k
theorem frT_r {M : Mem} {m : Nat} : frT M M m := ⟨fun _ _ _ _ _ _ _ => rfl, fun _ _ _ _ _ => rfl, fun _ _ => rfl⟩
theorem frT_t {M M1 M2 : Mem} {m : Nat} (h1 : frT M M1 m) (h2 : frT M1 M2 m) : frT M M2 m := ⟨fun y a b c d e f => (h2.1 y a b c d e f).trans (h1.1 y a b c d e f), fun k a b c d => (h2.2.1 k a b c d).trans (h1.2.1 k a b c d), fun k a => (h2.2.2 k a).trans (h1.2.2 k a)⟩
set_option maxRecDepth 100000 in
set_option maxHeartbeats 4000000 in
theorem m_clear {E : EN} {l : Launch} {M : Mem} {m n : Nat} {T : TD} {a b : Int} (hO : isMod E m) (hn : n ≤ 8) : Cn E l mX8_clear 0 [vR m, vI n] M (fun r M1 => r = vU ∧ (frT M M1 m ∧ rI M1 m (apL 0 n a b T) ∧ rW M1 m (apL 0 n a b T))) := by
  refine Cn.of (by decide) rfl (Nat.le_of_ble_eq_true rfl) 1 rfl (fun oka okm G hR => ?_)
  obtain ⟨a0, a1, a2, a3, a4, a5, a6, a7, a8, a9, a10, a11, a12⟩ := id hO
  refine A_aload_n dX8_clear_0 rfl ?_
  refine A_iload_n dX8_clear_1 rfl ?_
  refine A_putI (ki := 6) dX8_clear_2 fl_RX8_23 fi8_6 (by assumption) (by rfl) rfl (fun M2 e2 k2 => ?_)
  refine A_aload_n dX8_clear_5 rfl ?_
  refine A_iconst dX8_clear_6 (by decide) ?_
  refine A_putI (ki := 10) dX8_clear_7 fl_RX8_61 fi8_10 (by assumption) (by rfl) rfl (fun M7 e7 k7 => ?_)
  refine A_aload_n dX8_clear_10 rfl ?_
  refine A_iconst dX8_clear_11 (by decide) ?_
  refine A_putI (ki := 12) dX8_clear_12 fl_RX8_64 fi8_12 (by assumption) (by rfl) rfl (fun M12 e12 k12 => ?_)
  refine A_aload_n dX8_clear_15 rfl ?_
  refine A_iconst dX8_clear_16 (by decide) ?_
  refine A_putI (ki := 13) dX8_clear_17 fl_RX8_39 fi8_13 (by assumption) (by rfl) rfl (fun M17 e17 k17 => ?_)
  refine A_aload_n dX8_clear_20 rfl ?_
  refine A_getR dX8_clear_21 fl_RX8_7 (by assumption) (by rfl) ?_
  refine A_sipush dX8_clear_24 sp_157 (by decide) ?_
  refine A_iconst dX8_clear_27 (by decide) ?_
  refine A_iast dX8_clear_28 (by assumption) (by omega) (by omega) (fun M28 e28 k28 => ?_)
  refine A_iconst dX8_clear_29 (by decide) ?_
  refine A_istore_n dX8_clear_30 (by decide) rfl ?_
  have lp : ∀ (k : Nat) (i : Nat) (M1 : Mem), 8 - i = k → (i ≤ 8) → (∀ y, y ≠ m + 5 → M1 y = M28 y) → (∀ k : Int, 0 ≤ k → k < i → M1 (m + 5) k = 0) → AW E mX8_clear G 0 0 31 [vR m, vI n, vI i] [] M1 := by
    intro k
    induction k using Nat.strongRecOn with
    | ind k ih =>
      intro i M1 hk h0 hf hx
      refine A_iload_n dX8_clear_31 rfl ?_
      refine A_bipush dX8_clear_32 bp_8 (by decide) ?_
      refine A_icmp_ge (tgt := 50) dX8_clear_34 (by decide) (fun h34 => ?_) (fun h34 => ?_)
      · skip
        have hi : i = 8 := by omega
        subst hi
        exact A_vret hR dX8_clear_50 rfl (by
      have c0 : ∀ k : Int, M1 m k = upm (upm (upm (upm M m 6 n) m 10 0) m 12 0) m 13 1 m k := fun k => by rw [hf m (by omega), e28, upm_c (by omega), e17, e12, e7, e2]
      refine ⟨rfl, ⟨fun y b1 b2 b3 _ _ _ => by rw [hf y b3, e28, upm_c b2, e17, upm_c b1, e12, upm_c b1, e7, upm_c b1, e2, upm_c b1], fun k ka kb kc kd => by rw [c0, upm_k kd, upm_k kc, upm_k kb, upm_k ka], fun k hk => by rw [hf _ (by omega), e28, upm_k (by omega), e17, upm_c (by omega), e12, upm_c (by omega), e7, upm_c (by omega), e2, upm_c (by omega)]⟩, ⟨⟨?_, ?_, ?_, ?_⟩, fun k x y => hx k x y, fun k x y => ?_, fun k x y => ?_⟩, ?_, fun k x y => ?_, fun k x y => ?_⟩
      · rw [c0, upm_k (by omega), upm_k (by omega), upm_k (by omega), upm_s]; rfl
      · rw [c0, upm_k (by omega), upm_k (by omega), upm_s]; rfl
      · rw [c0, upm_k (by omega), upm_s]; rfl
      · rw [c0, upm_s]; rfl
      · have y : k < ((0 : Nat) : Int) := y
        omega
      · have y : k < ((0 : Nat) : Int) := y
        omega
      · rw [hf _ (by omega), e28, upm_s]; rfl
      · have y : k < ((0 : Nat) : Int) := y
        omega
      · have y : k < ((0 : Nat) : Int) := y
        omega)
      · skip
        refine A_aload_n dX8_clear_37 rfl ?_
        refine A_getR dX8_clear_38 fl_RX8_27 (by assumption) (by rfl) ?_
        refine A_iload_n dX8_clear_41 rfl ?_
        refine A_iconst dX8_clear_42 (by decide) ?_
        refine A_iast dX8_clear_43 (by assumption) (by omega) (by omega) (fun M43 e43 k43 => ?_)
        refine A_iinc dX8_clear_44 (by decide) rfl rfl ⟨by omega, by omega⟩ ?_
        refine A_goto (tgt := 31) dX8_clear_47 (by decide) ?_
        refine ih _ (by omega) (i + 1) M43 rfl (by omega) (fun y hy => by rw [e43, upm_c hy]; exact hf y hy) (fun k x y => ?_)
        rw [e43, upm_x]
        by_cases q : k = i
        · rw [if_pos ⟨rfl, q⟩]
        · rw [if_neg (fun z => q z.2)]; exact hx k x (by omega)
  exact lp _ 0 M28 rfl (by omega) (fun _ _ => rfl) (fun k x y => by omega)

