/-! THE TEXT: all its lines, of the Model -/
noncomputable def rdR (x : Fn) (n : Nat) : Nat → Nat → TD → Int × Nat × TD
  | 0, _, T => (0, 0, T)
  | f + 1, p, T => if (lnR x n p T).1 ≠ -1 then ((lnR x n p T).1, 0, T) else
    ((if n ≤ tkA x n (lnR x n p T).2.1 then (-1, 0, lnT (lnR x n p T) T) else if x (tkA x n (lnR x n p T).2.1) ≠ 59 ∨ f = 0 then ((tkA x n (lnR x n p T).2.1 : Nat), 0, lnT (lnR x n p T) T) else rdR x n f (tkB x n (lnR x n p T).2.1) (lnT (lnR x n p T) T) : Int × Nat × TD).1,
     (if n ≤ tkA x n (lnR x n p T).2.1 then (-1, 0, lnT (lnR x n p T) T) else if x (tkA x n (lnR x n p T).2.1) ≠ 59 ∨ f = 0 then ((tkA x n (lnR x n p T).2.1 : Nat), 0, lnT (lnR x n p T) T) else rdR x n f (tkB x n (lnR x n p T).2.1) (lnT (lnR x n p T) T) : Int × Nat × TD).2.1 + 1,
     (if n ≤ tkA x n (lnR x n p T).2.1 then (-1, 0, lnT (lnR x n p T) T) else if x (tkA x n (lnR x n p T).2.1) ≠ 59 ∨ f = 0 then ((tkA x n (lnR x n p T).2.1 : Nat), 0, lnT (lnR x n p T) T) else rdR x n f (tkB x n (lnR x n p T).2.1) (lnT (lnR x n p T) T) : Int × Nat × TD).2.2)
/-- behind a line -/
noncomputable def tlR (x : Fn) (n f p : Nat) (T : TD) : Int × Nat × TD := if n ≤ tkA x n p then (-1, 0, T) else if x (tkA x n p) ≠ 59 ∨ f = 0 then ((tkA x n p : Nat), 0, T) else rdR x n f (tkB x n p) T
theorem rdR_f {x : Fn} {n f p : Nat} {T : TD} (h : (lnR x n p T).1 ≠ -1) : (rdR x n (f + 1) p T).1 = (lnR x n p T).1 := by unfold rdR; rw [if_pos h]
theorem rdR_s {x : Fn} {n f p : Nat} {T : TD} (h : (lnR x n p T).1 = -1) : rdR x n (f + 1) p T = ((tlR x n f (lnR x n p T).2.1 (lnT (lnR x n p T) T)).1, (tlR x n f (lnR x n p T).2.1 (lnT (lnR x n p T) T)).2.1 + 1, (tlR x n f (lnR x n p T).2.1 (lnT (lnR x n p T) T)).2.2) := by
  unfold tlR
  rw [rdR, if_neg (fun z => z h)]
theorem tl_end {x : Fn} {n f p : Nat} {T : TD} (h : n ≤ tkA x n p) : tlR x n f p T = (-1, 0, T) := by unfold tlR; rw [if_pos h]
theorem tl_f {x : Fn} {n f p : Nat} {T : TD} (h : ¬ n ≤ tkA x n p) (h2 : x (tkA x n p) ≠ 59 ∨ f = 0) : tlR x n f p T = (((tkA x n p : Nat) : Int), 0, T) := by unfold tlR; rw [if_neg h, if_pos h2]
theorem tl_m {x : Fn} {n f p : Nat} {T : TD} (h : ¬ n ≤ tkA x n p) (h2 : ¬ (x (tkA x n p) ≠ 59 ∨ f = 0)) : tlR x n f p T = rdR x n f (tkB x n p) T := by unfold tlR; rw [if_neg h, if_neg h2]
theorem tk_semi {x : Fn} {n p : Nat} (h : tkA x n p < n) (h2 : x (tkA x n p) = 59) : tkB x n p = tkA x n p + 1 := by
  unfold tkB
  rw [if_pos h, h2, if_pos (by decide)]
/-- what rows of four numbers tell -/
def apM (R : Fn) (T : TD) : Nat → TD
  | 0 => T
  | k + 1 => apL (R (4 * k)) (R (4 * k + 1)) (R (4 * k + 2)) (R (4 * k + 3)) (apM R T k)
theorem apM_x {R Q : Fn} {T : TD} : ∀ k : Nat, (∀ j : Int, 0 ≤ j → j < 4 * k → R j = Q j) → apM R T k = apM Q T k
  | 0, _ => rfl
  | k + 1, h => by
    rw [apM, apM, apM_x k (fun j a b => h j a (by omega)), h _ (by omega) (by omega), h _ (by omega) (by omega), h _ (by omega) (by omega), h _ (by omega) (by omega)]
theorem apL_x {w a b c b' c' : Int} {T : TD} (h : w = 5 ∨ w = 6 → b = b' ∧ c = c') : apL w a b c T = apL w a b' c' T := by
  by_cases e : w = 5 ∨ w = 6
  · obtain ⟨rfl, rfl⟩ := h e; rfl
  · unfold apL
    by_cases h0 : w = 0
    · rw [if_pos h0, if_pos h0]
    · rw [if_neg h0, if_neg h0, if_neg (fun z => e (Or.inl z)), if_neg (fun z => e (Or.inl z)), if_neg (fun z => e (Or.inr z)), if_neg (fun z => e (Or.inr z))]
theorem ln_fst {x : Fn} {n p : Nat} {T : TD} (h : (lnR x n p T).1 = -1) : ¬ (wdN x (tkA x n p) (tkB x n p) = -1 ∨ (wdN x (tkA x n p) (tkB x n p) = 5 ∧ oT T = 12) ∨ (wdN x (tkA x n p) (tkB x n p) = 6 ∧ oF T = 6)) ∧ (rsR x n (tkB x n p) (wdN x (tkA x n p) (tkB x n p)) (oD T)).1 = -1 ∧ lnR x n p T = (-1, (rsR x n (tkB x n p) (wdN x (tkA x n p) (tkB x n p)) (oD T)).2.1, wdN x (tkA x n p) (tkB x n p), (rsR x n (tkB x n p) (wdN x (tkA x n p) (tkB x n p)) (oD T)).2.2) := by
  by_cases q : wdN x (tkA x n p) (tkB x n p) = -1 ∨ (wdN x (tkA x n p) (tkB x n p) = 5 ∧ oT T = 12) ∨ (wdN x (tkA x n p) (tkB x n p) = 6 ∧ oF T = 6)
  · unfold lnR at h
    rw [if_pos q] at h
    have h : ((tkA x n p : Nat) : Int) = -1 := h
    omega
  · have e : lnR x n p T = ((rsR x n (tkB x n p) (wdN x (tkA x n p) (tkB x n p)) (oD T)).1, (rsR x n (tkB x n p) (wdN x (tkA x n p) (tkB x n p)) (oD T)).2.1, wdN x (tkA x n p) (tkB x n p), (rsR x n (tkB x n p) (wdN x (tkA x n p) (tkB x n p)) (oD T)).2.2) := by unfold lnR; rw [if_neg q]
    have e1 : (rsR x n (tkB x n p) (wdN x (tkA x n p) (tkB x n p)) (oD T)).1 = -1 := by rw [e] at h; exact h
    exact ⟨q, e1, by rw [e, e1]⟩
theorem rs_next {x : Fn} {n q : Nat} {w : Int} {D : Nat} (h : q ≤ n) (hr : (rsR x n q w D).1 = -1) : (rsR x n q w D).2.1 ≤ n := by
  have t1 := tk_r (x := x) h
  have t2 := tk_r (x := x) (show tkB x n q ≤ n by omega)
  have t3 := tk_r (x := x) (show tkB x n (tkB x n q) ≤ n by omega)
  unfold rsR
  repeat' split
  all_goals first | exact Nat.zero_le n | exact t3.2.2.1 | exact t1.2.2.1
def wN3 (T : TD) : Prop := (2 ≤ oD T ∧ oD T ≤ 8) ∧ oT T ≤ 12 ∧ oF T ≤ 6
theorem ln_ok {x : Fn} {n p : Nat} {T : TD} (hp : p ≤ n) (hT : wN3 T) (h : (lnR x n p T).1 = -1) : (lnR x n p T).2.1 ≤ n ∧ wN3 (lnT (lnR x n p T) T) := by
  obtain ⟨q, e1, e⟩ := ln_fst h
  have t1 := tk_r (x := x) hp
  have vs := rs_v e1
  obtain ⟨n1, n2, n3⟩ := apL_n (lnR x n p T).2.2.1 (lnR x n p T).2.2.2.1 (lnR x n p T).2.2.2.2.1 (lnR x n p T).2.2.2.2.2 T
  have ew : (lnR x n p T).2.2.1 = wdN x (tkA x n p) (tkB x n p) := by rw [e]
  have ev : (lnR x n p T).2.2.2.1 = (rsR x n (tkB x n p) (wdN x (tkA x n p) (tkB x n p)) (oD T)).2.2.1 := by rw [e]
  obtain ⟨h1, h2, h3⟩ := hT
  refine ⟨by rw [e]; exact rs_next (by omega) e1, ?_, ?_, ?_⟩
  · show 2 ≤ oD (apL _ _ _ _ T) ∧ oD (apL _ _ _ _ T) ≤ 8
    rw [n1]
    split
    · next z => have := vs.1 (by rw [← ew]; exact z); rw [ev]; omega
    · exact h1
  · show oT (apL _ _ _ _ T) ≤ 12
    rw [n2]
    split
    · omega
    · split
      · next z => rw [ew] at z; omega
      · exact h2
  · show oF (apL _ _ _ _ T) ≤ 6
    rw [n3]
    split
    · omega
    · split
      · next z => rw [ew] at z; omega
      · exact h3
/-- a line fit to be told -/
def lok (w v1 v2 v3 : Int) (T : TD) : Prop := (0 ≤ w ∧ w ≤ 8) ∧ (w = 0 → 2 ≤ v1 ∧ v1 ≤ 8) ∧ (w = 5 → oT T < 12) ∧ (w = 6 → oF T < 6) ∧ (w = 5 ∨ w = 6 → (0 ≤ v1 ∧ v1 ≤ (oD T : Int) - 1) ∧ (0 ≤ v2 ∧ v2 ≤ (oD T : Int) - 1) ∧ v2 ≠ v1 ∧ 0 ≤ v3 ∧ v3 ≤ if w = 5 then 99 else 9) ∧ (w = 7 → 0 ≤ v1 ∧ v1 ≤ 9) ∧ (w = 8 → 0 ≤ v1 ∧ v1 ≤ 99) ∧ (w ≠ 0 → w ≠ 5 → w ≠ 6 → w ≠ 7 → w ≠ 8 → 0 ≤ v1 ∧ v1 ≤ (oD T : Int) - 1)
theorem lok_x {w a b c b' c' : Int} {T : TD} (h : w = 5 ∨ w = 6 → b = b' ∧ c = c') (k : lok w a b' c' T) : lok w a b c T := by
  obtain ⟨k1, k2, k3, k4, k5, k6⟩ := k
  refine ⟨k1, k2, k3, k4, fun z => ?_, k6⟩
  rw [(h z).1, (h z).2]
  exact k5 z
theorem wdN_r (x : Fn) (a b : Nat) : -1 ≤ wdN x a b ∧ wdN x a b ≤ 8 := by
  unfold wdN
  repeat' split
  all_goals decide
theorem ln_lok {x : Fn} {n p : Nat} {T : TD} (hT : wN3 T) (h : (lnR x n p T).1 = -1) : lok (lnR x n p T).2.2.1 (lnR x n p T).2.2.2.1 (lnR x n p T).2.2.2.2.1 (lnR x n p T).2.2.2.2.2 T := by
  obtain ⟨q, e1, e⟩ := ln_fst h
  have vs := rs_v e1
  have wr := wdN_r x (tkA x n p) (tkB x n p)
  obtain ⟨t1, t2, t3⟩ := hT
  rw [e]
  exact ⟨by show 0 ≤ wdN x (tkA x n p) (tkB x n p) ∧ wdN x (tkA x n p) (tkB x n p) ≤ 8; omega, vs.1, fun z => by have z : wdN x (tkA x n p) (tkB x n p) = 5 := z; omega, fun z => by have z : wdN x (tkA x n p) (tkB x n p) = 6 := z; omega, vs.2.1, vs.2.2.1, vs.2.2.2.1, vs.2.2.2.2⟩
def rok (R : Fn) (T : TD) (i : Nat) : Prop := lok (R (4 * i)) (R (4 * i + 1)) (R (4 * i + 2)) (R (4 * i + 3)) (apM R T i)
theorem rok_x {R Q : Fn} {T : TD} {i : Nat} (h : ∀ j : Int, 0 ≤ j → j < 4 * i + 4 → R j = Q j) (k : rok Q T i) : rok R T i := by
  unfold rok at k ⊢
  rw [apM_x (Q := Q) i (fun j a b => h j a (by omega)), h _ (by omega) (by omega), h _ (by omega) (by omega), h _ (by omega) (by omega), h _ (by omega) (by omega)]
  exact k
set_option maxRecDepth 100000 in
set_option maxHeartbeats 4000000 in
theorem m_fault0 {E : EN} {l : Launch} {M : Mem} {m n : Nat} {x : Fn} {T : TD} (hO : isMod E m) (hn2 : n ≤ 200) (hby : ∀ k : Int, 0 ≤ k → k < n → 0 ≤ x k ∧ x k ≤ 255) (hx : txM M m n x) (hT : M m 6 = oD T ∧ M m 10 = oT T ∧ M m 12 = oF T) (hw : wN3 T) : Cn E l mX8_fault 5 [vR m] M (fun r M1 => ∃ z, r = vI z ∧ (z = (rdR x n 12 0 T).1 ∧ frL M M1 m ∧ (z = -1 → M1 m 5 = (rdR x n 12 0 T).2.1 ∧ (rdR x n 12 0 T).2.1 ≤ 12 ∧ apM (M1 (m + 4)) T (rdR x n 12 0 T).2.1 = (rdR x n 12 0 T).2.2 ∧ wN3 (rdR x n 12 0 T).2.2 ∧ ∀ i : Nat, i < (rdR x n 12 0 T).2.1 → rok (M1 (m + 4)) T i))) := by
  refine Cn.of (by decide) rfl (Nat.le_of_ble_eq_true rfl) 1 rfl (fun oka okm G hR => ?_)
  obtain ⟨a0, a1, a2, a3, a4, a5, a6, a7, a8, a9, a10, a11, a12⟩ := id hO
  obtain ⟨x3, xt⟩ := id hx
  obtain ⟨t6, t10, t12⟩ := hT
  refine A_aload_n dX8_fault_0 rfl ?_
  refine A_iconst dX8_fault_1 (by decide) ?_
  refine A_putI (ki := 14) dX8_fault_2 fl_RX8_82 fi8_14 (by assumption) (by rfl) rfl (fun M2 e2 k2 => ?_)
  refine A_aload_n dX8_fault_5 rfl ?_
  refine A_iconst dX8_fault_6 (by decide) ?_
  refine A_putI (ki := 5) dX8_fault_7 fl_RX8_112 fi8_5 (by assumption) (by rfl) rfl (fun M7 e7 k7 => ?_)
  refine A_aload_n dX8_fault_10 rfl ?_
  refine A_aload_n dX8_fault_11 rfl ?_
  refine A_getI (ki := 6) dX8_fault_12 fl_RX8_23 (by assumption) (by rfl) rfl ?_
  rw [show M7 m 6 = oD T by rw [e7, upm_k (by omega), e2, upm_k (by omega)]; exact t6]
  refine A_putI (ki := 17) dX8_fault_15 fl_RX8_118 fi8_17 (by assumption) (by rfl) rfl (fun M15 e15 k15 => ?_)
  refine A_aload_n dX8_fault_18 rfl ?_
  refine A_aload_n dX8_fault_19 rfl ?_
  refine A_getI (ki := 10) dX8_fault_20 fl_RX8_61 (by assumption) (by rfl) rfl ?_
  rw [show M15 m 10 = oT T by rw [e15, upm_k (by omega), e7, upm_k (by omega), e2, upm_k (by omega)]; exact t10]
  refine A_putI (ki := 18) dX8_fault_23 fl_RX8_128 fi8_18 (by assumption) (by rfl) rfl (fun M23 e23 k23 => ?_)
  refine A_aload_n dX8_fault_26 rfl ?_
  refine A_aload_n dX8_fault_27 rfl ?_
  refine A_getI (ki := 12) dX8_fault_28 fl_RX8_64 (by assumption) (by rfl) rfl ?_
  rw [show M23 m 12 = oF T by rw [e23, upm_k (by omega), e15, upm_k (by omega), e7, upm_k (by omega), e2, upm_k (by omega)]; exact t12]
  refine A_putI (ki := 19) dX8_fault_31 fl_RX8_131 fi8_19 (by assumption) (by rfl) rfl (fun M31 e31 k31 => ?_)
  have K0 : ∀ y, y ≠ m → M31 y = M y := fun y hy => by rw [e31, upm_c hy, e23, upm_c hy, e15, upm_c hy, e7, upm_c hy, e2, upm_c hy]
  have K1 : ∀ k : Int, k ≠ 5 → k < 14 ∨ 19 < k → M31 m k = M m k := fun k ka kb => by rw [e31, upm_k (by omega), e23, upm_k (by omega), e15, upm_k (by omega), e7, upm_k (by omega), e2, upm_k (by omega)]
  refine A_aload_n dX8_fault_34 rfl ?_
  refine A_vV0 (mj := mX8_token) dX8_fault_35 hR.rm (by decide) ok_X8_token mv_X8_token ml_RX8_115 (by assumption) rfl rfl rfl (m_token (p := 0) (n := n) (x := x) hO (by rw [K1 3 (by omega) (by omega)]; exact x3) hn2 (by rw [K0 _ (by omega)]; exact xt) (by rw [e31, upm_k (by omega), e23, upm_k (by omega), e15, upm_k (by omega), e7, upm_k (by omega), e2, upm_s]; rfl) (by omega)) (fun M35 k35 q35 => ?_)
  obtain ⟨y1, y2, y3⟩ := q35
  have f35 : frL M M35 m := ⟨fun y ya yb => by rw [y1 y ya, K0 y ya], fun k ka kb => by rw [y2 k (by omega) (by omega) (by omega), K1 k ka kb]⟩
  refine A_aload_n dX8_fault_38 rfl ?_
  refine A_vI0 (mj := mX8_readsLine) dX8_fault_39 hR.rm (by decide) ok_X8_readsLine mv_X8_readsLine ml_RX8_138 (by assumption) rfl rfl rfl (m_readsLine (p := 0) (c := 0) (T := T) (n := n) (x := x) hO hn2 (by omega) hby (by unfold txM; rw [f35.2 3 (by omega) (by omega), f35.1 _ (by omega) (by omega)]; exact hx) y3 (by rw [y2 5 (by omega) (by omega) (by omega), e31, upm_k (by omega), e23, upm_k (by omega), e15, upm_k (by omega), e7, upm_s]; rfl) (by omega) ⟨by rw [y2 17 (by omega) (by omega) (by omega), e31, upm_k (by omega), e23, upm_k (by omega), e15, upm_s], by rw [y2 18 (by omega) (by omega) (by omega), e31, upm_k (by omega), e23, upm_s], by rw [y2 19 (by omega) (by omega) (by omega), e31, upm_s]⟩ hw.1 hw.2) (fun z39 M39 g39 k39 q39 => ?_)
  obtain ⟨l1, l2, l3⟩ := q39
  have f39 := frL_t f35 l1
  refine A_if_ne (tgt := 50) dX8_fault_42 (by decide) (fun h42 => ?_) (fun h42 => ?_)
  · skip
    have ok : (lnR x n 0 T).1 = -1 := by
      by_cases z : (lnR x n 0 T).1 = -1
      · exact z
      · exact absurd (l2 z).1 h42
    obtain ⟨o1, o2, o3, o4, o5, o6⟩ := l3 ok
    have lk := ln_ok (Nat.zero_le n) hw ok
    have lr := rdR_s (f := 11) ok
    have lp : ∀ (k : Nat) (c : Nat) (p : Nat) (T1 : TD) (x1 : AV) (M1 : Mem), 13 - c = k → (1 ≤ c ∧ c ≤ 12) → (p ≤ n) → (hdM M1 m x n p) → (M1 m 5 = c) → (rdC M1 m T1) → (wN3 T1) → (apM (M1 (m + 4)) T c = T1) → (∀ i : Nat, i < c → rok (M1 (m + 4)) T i) → (frL M M1 m) → ((rdR x n 12 0 T).1 = (tlR x n (12 - c) p T1).1) → ((rdR x n 12 0 T).2.1 = c + (tlR x n (12 - c) p T1).2.1) → ((rdR x n 12 0 T).2.2 = (tlR x n (12 - c) p T1).2.2) → AW E mX8_fault G 0 0 50 [vR m, x1] [] M1 := by
      intro k
      induction k using Nat.strongRecOn with
      | ind k ih =>
        intro c p T1 x1 M1 hk hc1 hp2 hd hc hr hw1 ha hkk hf hR1 hR2 hR3
        have tp := tk_r (x := x) hp2
        obtain ⟨d14, d15, d16⟩ := id hd
        have xs : txM M1 m n x := by unfold txM; rw [hf.2 3 (by omega) (by omega), hf.1 _ (by omega) (by omega)]; exact hx
        refine A_aload_n dX8_fault_50 rfl ?_
        refine A_getI (ki := 15) dX8_fault_51 fl_RX8_85 (by assumption) (by rfl) rfl ?_
        rw [d15]
        refine A_aload_n dX8_fault_54 rfl ?_
        refine A_getI (ki := 3) dX8_fault_55 fl_RX8_77 (by assumption) (by rfl) rfl ?_
        rw [xs.1]
        refine A_icmp_ge (tgt := 128) dX8_fault_58 (by decide) (fun h58 => ?_) (fun h58 => ?_)
        · skip
          refine A_iconst dX8_fault_128 (by decide) ?_
          exact A_iret hR dX8_fault_129 rfl (by
      have te := tl_end (f := 12 - c) (T := T1) (show n ≤ tkA x n p by omega)
      rw [te] at hR1 hR2 hR3
      have hR2 : (rdR x n 12 0 T).2.1 = c := hR2
      exact ⟨_, rfl, hR1.symm, hf, fun _ => ⟨by rw [hR2]; exact hc, by omega, by rw [hR2, hR3]; exact ha, by rw [hR3]; exact hw1, by rw [hR2]; exact hkk⟩⟩)
        · skip
          have an : tkA x n p < n := by omega
          have j102 : ∀ u : Int, (u = 0 ∨ u = 1) → (u = 1 ↔ x (tkA x n p) = 59 ∧ c < 12) → AW E mX8_fault G 0 0 102 [vR m, x1] [vI u] M1 := by
            intro u hu0 hu
            refine A_istore_n dX8_fault_102 (by decide) rfl ?_
            refine A_iload_n dX8_fault_103 rfl ?_
            refine A_if_eq (tgt := 116) dX8_fault_104 (by decide) (fun h104 => ?_) (fun h104 => ?_)
            · skip
              refine A_iload_n dX8_fault_116 rfl ?_
              refine A_if_ne (tgt := 125) dX8_fault_117 (by decide) (fun h117 => ?_) (fun h117 => ?_)
              · skip
                first
                | (exfalso; omega)
                | (refine A_goto (tgt := 50) dX8_fault_125 (by decide) ?_
                   have ok : (lnR x n (tkB x n p) T1).1 = -1 := by
                     by_cases z : (lnR x n (tkB x n p) T1).1 = -1
                     · exact z
                     · exact absurd (l2 z).1 h117
                   obtain ⟨o1, o2, o3, o4, o5, o6⟩ := l3 ok
                   have lk := ln_ok (show tkB x n p ≤ n by omega) hw1 ok
                   have hu1 := hu.mp (by omega)
                   have tm := tl_m (x := x) (n := n) (p := p) (f := 12 - c) (T := T1) (by omega) (by omega)
                   rw [show 12 - c = (12 - (c + 1)) + 1 by omega] at tm
                   rw [rdR_s ok, ← show 12 - c = (12 - (c + 1)) + 1 by omega] at tm
                   exact ih _ (by omega) (c + 1) _ _ _ M112 rfl (by omega) lk.1 o2 (by rw [o4]; omega) o3 lk.2 (by
                     rw [apM, o5.1, o5.2.1, apM_x (Q := M1 (m + 4)) c (fun j _ hj => by rw [o6 j hj, g1 _ (by omega)]), ha]
                     exact apL_x o5.2.2) (fun i hi => by
                     by_cases z : i < c
                     · exact rok_x (fun j _ hj => by rw [o6 j (by omega), g1 _ (by omega)]) (hkk i z)
                     · rw [show i = c by omega]
                       unfold rok
                       rw [o5.1, o5.2.1, apM_x (Q := M1 (m + 4)) c (fun j _ hj => by rw [o6 j hj, g1 _ (by omega)]), ha]
                       exact lok_x o5.2.2 (ln_lok hw1 ok)) f112 (by rw [hR1, tm]) (by rw [hR2, tm]; show c + (_ + 1) = c + 1 + _; omega) (by rw [hR3, tm]))
              · skip
                refine A_aload_n dX8_fault_120 rfl ?_
                refine A_getI (ki := 15) dX8_fault_121 fl_RX8_85 (by assumption) (by rfl) rfl ?_
                first | rw [show M112 m 15 = (lnR x n (tkB x n p) T1).1 from (l2 (fun z => by have := (l3 z).1; omega)).2] | rw [d15]
                exact A_iret hR dX8_fault_124 rfl (by
      first
      | (have nf : (lnR x n (tkB x n p) T1).1 ≠ -1 := fun z => by have := (l3 z).1; omega
         have hu1 := hu.mp (by omega)
         have tm := tl_m (x := x) (n := n) (p := p) (f := 12 - c) (T := T1) (by omega) (by omega)
         rw [show 12 - c = (12 - (c + 1)) + 1 by omega] at tm
         have fe := rdR_f (f := 12 - (c + 1)) nf
         rw [← tm, ← show 12 - c = (12 - (c + 1)) + 1 by omega] at fe
         exact ⟨_, rfl, by rw [hR1, fe], f112, fun z => absurd z nf⟩)
      | (have tf := tl_f (x := x) (n := n) (p := p) (f := 12 - c) (T := T1) (by omega) (by
           by_cases z : x (tkA x n p) = 59
           · right
             by_cases z2 : c < 12
             · have := hu.mpr ⟨z, z2⟩; omega
             · omega
           · exact Or.inl z)
         exact ⟨_, rfl, by rw [hR1, tf], hf, fun z => by omega⟩))
            · skip
              refine A_aload_n dX8_fault_107 rfl ?_
              refine A_vV0 (mj := mX8_token) dX8_fault_108 hR.rm (by decide) ok_X8_token mv_X8_token ml_RX8_115 (by assumption) rfl rfl rfl (m_token (p := tkB x n p) (n := n) (x := x) hO xs.1 hn2 xs.2 hd.1 (by omega)) (fun M108 k108 q108 => ?_)
              obtain ⟨g1, g2, g3⟩ := q108
              have g4 : frL M1 M108 m := ⟨fun y ya _ => g1 y ya, fun k ka kb => g2 k (by omega) (by omega) (by omega)⟩
              refine A_aload_n dX8_fault_111 rfl ?_
              refine A_vI0 (mj := mX8_readsLine) dX8_fault_112 hR.rm (by decide) ok_X8_readsLine mv_X8_readsLine ml_RX8_138 (by assumption) rfl rfl rfl (m_readsLine (p := tkB x n p) (c := c) (T := T1) (n := n) (x := x) hO hn2 (by omega) hby (by unfold txM; rw [g4.2 3 (by omega) (by omega), g4.1 _ (by omega) (by omega)]; exact xs) g3 (by rw [g2 5 (by omega) (by omega) (by omega)]; exact hc) (by omega) ⟨by rw [g2 17 (by omega) (by omega) (by omega)]; exact hr.1, by rw [g2 18 (by omega) (by omega) (by omega)]; exact hr.2.1, by rw [g2 19 (by omega) (by omega) (by omega)]; exact hr.2.2⟩ hw1.1 hw1.2) (fun z112 M112 g112 k112 q112 => ?_)
              obtain ⟨l1, l2, l3⟩ := q112
              have f112 := frL_t hf (frL_t g4 l1)
              refine A_istore_n dX8_fault_115 (by decide) rfl ?_
              refine A_iload_n dX8_fault_116 rfl ?_
              refine A_if_ne (tgt := 125) dX8_fault_117 (by decide) (fun h117 => ?_) (fun h117 => ?_)
              · skip
                first
                | (exfalso; omega)
                | (refine A_goto (tgt := 50) dX8_fault_125 (by decide) ?_
                   have ok : (lnR x n (tkB x n p) T1).1 = -1 := by
                     by_cases z : (lnR x n (tkB x n p) T1).1 = -1
                     · exact z
                     · exact absurd (l2 z).1 h117
                   obtain ⟨o1, o2, o3, o4, o5, o6⟩ := l3 ok
                   have lk := ln_ok (show tkB x n p ≤ n by omega) hw1 ok
                   have hu1 := hu.mp (by omega)
                   have tm := tl_m (x := x) (n := n) (p := p) (f := 12 - c) (T := T1) (by omega) (by omega)
                   rw [show 12 - c = (12 - (c + 1)) + 1 by omega] at tm
                   rw [rdR_s ok, ← show 12 - c = (12 - (c + 1)) + 1 by omega] at tm
                   exact ih _ (by omega) (c + 1) _ _ _ M112 rfl (by omega) lk.1 o2 (by rw [o4]; omega) o3 lk.2 (by
                     rw [apM, o5.1, o5.2.1, apM_x (Q := M1 (m + 4)) c (fun j _ hj => by rw [o6 j hj, g1 _ (by omega)]), ha]
                     exact apL_x o5.2.2) (fun i hi => by
                     by_cases z : i < c
                     · exact rok_x (fun j _ hj => by rw [o6 j (by omega), g1 _ (by omega)]) (hkk i z)
                     · rw [show i = c by omega]
                       unfold rok
                       rw [o5.1, o5.2.1, apM_x (Q := M1 (m + 4)) c (fun j _ hj => by rw [o6 j hj, g1 _ (by omega)]), ha]
                       exact lok_x o5.2.2 (ln_lok hw1 ok)) f112 (by rw [hR1, tm]) (by rw [hR2, tm]; show c + (_ + 1) = c + 1 + _; omega) (by rw [hR3, tm]))
              · skip
                refine A_aload_n dX8_fault_120 rfl ?_
                refine A_getI (ki := 15) dX8_fault_121 fl_RX8_85 (by assumption) (by rfl) rfl ?_
                first | rw [show M112 m 15 = (lnR x n (tkB x n p) T1).1 from (l2 (fun z => by have := (l3 z).1; omega)).2] | rw [d15]
                exact A_iret hR dX8_fault_124 rfl (by
      first
      | (have nf : (lnR x n (tkB x n p) T1).1 ≠ -1 := fun z => by have := (l3 z).1; omega
         have hu1 := hu.mp (by omega)
         have tm := tl_m (x := x) (n := n) (p := p) (f := 12 - c) (T := T1) (by omega) (by omega)
         rw [show 12 - c = (12 - (c + 1)) + 1 by omega] at tm
         have fe := rdR_f (f := 12 - (c + 1)) nf
         rw [← tm, ← show 12 - c = (12 - (c + 1)) + 1 by omega] at fe
         exact ⟨_, rfl, by rw [hR1, fe], f112, fun z => absurd z nf⟩)
      | (have tf := tl_f (x := x) (n := n) (p := p) (f := 12 - c) (T := T1) (by omega) (by
           by_cases z : x (tkA x n p) = 59
           · right
             by_cases z2 : c < 12
             · have := hu.mpr ⟨z, z2⟩; omega
             · omega
           · exact Or.inl z)
         exact ⟨_, rfl, by rw [hR1, tf], hf, fun z => by omega⟩))
          refine A_aload_n dX8_fault_61 rfl ?_
          refine A_getI (ki := 16) dX8_fault_62 fl_RX8_92 (by assumption) (by rfl) rfl ?_
          rw [d16]
          refine A_aload_n dX8_fault_65 rfl ?_
          refine A_getI (ki := 15) dX8_fault_66 fl_RX8_85 (by assumption) (by rfl) rfl ?_
          rw [d15]
          refine A_isub dX8_fault_69 ⟨by omega, by omega⟩ ?_
          refine A_iconst dX8_fault_70 (by decide) ?_
          refine A_icmp_ne (tgt := 101) dX8_fault_71 (by decide) (fun h71 => ?_) (fun h71 => ?_)
          · skip
            refine A_iconst dX8_fault_101 (by decide) ?_
            first | exact j102 1 (Or.inr rfl) ⟨fun _ => ⟨by omega, by omega⟩, fun _ => rfl⟩ | exact j102 0 (Or.inl rfl) ⟨fun z => by omega, fun z => by omega⟩ | exact j102 0 (Or.inl rfl) ⟨fun z => by omega, fun z => by have := tk_semi an z.1; omega⟩
          · skip
            refine A_aload_n dX8_fault_74 rfl ?_
            refine A_getR dX8_fault_75 fl_RX8_17 (by assumption) (by rfl) ?_
            refine A_aload_n dX8_fault_78 rfl ?_
            refine A_getI (ki := 15) dX8_fault_79 fl_RX8_85 (by assumption) (by rfl) rfl ?_
            rw [d15]
            refine A_iald dX8_fault_82 (by assumption) (by omega) (by omega) ?_
            rw [xs.2 _ (by omega) (by omega)]
            refine A_bipush dX8_fault_83 bp_59 (by decide) ?_
            refine A_icmp_ne (tgt := 101) dX8_fault_85 (by decide) (fun h85 => ?_) (fun h85 => ?_)
            · skip
              refine A_iconst dX8_fault_101 (by decide) ?_
              first | exact j102 1 (Or.inr rfl) ⟨fun _ => ⟨by omega, by omega⟩, fun _ => rfl⟩ | exact j102 0 (Or.inl rfl) ⟨fun z => by omega, fun z => by omega⟩ | exact j102 0 (Or.inl rfl) ⟨fun z => by omega, fun z => by have := tk_semi an z.1; omega⟩
            · skip
              refine A_aload_n dX8_fault_88 rfl ?_
              refine A_getI (ki := 5) dX8_fault_89 fl_RX8_112 (by assumption) (by rfl) rfl ?_
              rw [hc]
              refine A_bipush dX8_fault_92 bp_12 (by decide) ?_
              refine A_icmp_ge (tgt := 101) dX8_fault_94 (by decide) (fun h94 => ?_) (fun h94 => ?_)
              · skip
                refine A_iconst dX8_fault_101 (by decide) ?_
                first | exact j102 1 (Or.inr rfl) ⟨fun _ => ⟨by omega, by omega⟩, fun _ => rfl⟩ | exact j102 0 (Or.inl rfl) ⟨fun z => by omega, fun z => by omega⟩ | exact j102 0 (Or.inl rfl) ⟨fun z => by omega, fun z => by have := tk_semi an z.1; omega⟩
              · skip
                refine A_iconst dX8_fault_97 (by decide) ?_
                refine A_goto (tgt := 102) dX8_fault_98 (by decide) ?_
                first | exact j102 1 (Or.inr rfl) ⟨fun _ => ⟨by omega, by omega⟩, fun _ => rfl⟩ | exact j102 0 (Or.inl rfl) ⟨fun z => by omega, fun z => by omega⟩ | exact j102 0 (Or.inl rfl) ⟨fun z => by omega, fun z => by have := tk_semi an z.1; omega⟩
    exact lp _ 1 _ _ _ M39 rfl (by omega) lk.1 o2 (by rw [o4]; omega) o3 lk.2 (by
      show apL _ _ _ _ T = apL _ _ _ _ T
      rw [show (4 : Int) * ((0 : Nat) : Int) = 4 * (0 : Nat) from rfl] at o5
      rw [o5.1, o5.2.1]
      exact apL_x o5.2.2) (fun i hi => by
      rw [show i = 0 by omega]
      have o5 := o5
      rw [show (4 : Int) * ((0 : Nat) : Int) = 4 * (0 : Nat) from rfl] at o5
      unfold rok
      rw [o5.1, o5.2.1]
      exact lok_x o5.2.2 (ln_lok hw ok)) f39 (by rw [lr]) (by rw [lr]; exact Nat.add_comm _ _) (by rw [lr])
  · skip
    refine A_aload_n dX8_fault_45 rfl ?_
    refine A_getI (ki := 15) dX8_fault_46 fl_RX8_85 (by assumption) (by rfl) rfl ?_
    rw [show M39 m 15 = (lnR x n 0 T).1 from (l2 (fun z => by have := (l3 z).1; omega)).2]
    exact A_iret hR dX8_fault_49 rfl ⟨_, rfl, (rdR_f (fun z => by have := (l3 z).1; omega)).symm, f39, fun z => by have := (l3 z).1; omega⟩

