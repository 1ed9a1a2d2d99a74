/-! THE TEXT: tokens -/
def srt (v : Int) : Int := if 97 ≤ v ∧ v ≤ 122 then 1 else if 48 ≤ v ∧ v ≤ 57 then 2 else 0
theorem srt_r (v : Int) : 0 ≤ srt v ∧ srt v ≤ 2 := by unfold srt; split <;> (try split) <;> omega
def skN (x : Fn) (n : Nat) : Nat → Nat → Nat
  | 0, p => p
  | k + 1, p => if p < n ∧ x p = 32 then skN x n k (p + 1) else p
def ruN (x : Fn) (n : Nat) (s : Int) : Nat → Nat → Nat
  | 0, p => p
  | k + 1, p => if p < n ∧ srt (x p) = s then ruN x n s k (p + 1) else p
/-- where the next token begins -/
def tkA (x : Fn) (n p : Nat) : Nat := skN x n (n - p) p
/-- where it ends -/
def tkB (x : Fn) (n p : Nat) : Nat := if tkA x n p < n then (if srt (x (tkA x n p)) = 0 then tkA x n p + 1 else ruN x n (srt (x (tkA x n p))) (n - (tkA x n p + 1)) (tkA x n p + 1)) else tkA x n p
theorem skN_r (x : Fn) (n : Nat) : ∀ k p : Nat, p ≤ skN x n k p ∧ skN x n k p ≤ p + k
  | 0, p => ⟨Nat.le_refl _, Nat.le_refl _⟩
  | k + 1, p => by
    have := skN_r x n k (p + 1)
    unfold skN
    split <;> omega
theorem ruN_r (x : Fn) (n : Nat) (s : Int) : ∀ k p : Nat, p ≤ ruN x n s k p ∧ ruN x n s k p ≤ p + k
  | 0, p => ⟨Nat.le_refl _, Nat.le_refl _⟩
  | k + 1, p => by
    have := ruN_r x n s k (p + 1)
    unfold ruN
    split <;> omega
theorem tk_r {x : Fn} {n p : Nat} (h : p ≤ n) : p ≤ tkA x n p ∧ tkA x n p ≤ tkB x n p ∧ tkB x n p ≤ n ∧ (tkA x n p < n → tkA x n p < tkB x n p) := by
  have h1 := skN_r x n (n - p) p
  have h2 := ruN_r x n (srt (x (tkA x n p))) (n - (tkA x n p + 1)) (tkA x n p + 1)
  have h3 : tkA x n p = skN x n (n - p) p := rfl
  unfold tkB
  split
  · split <;> omega
  · omega
theorem sk_1 {x : Fn} {n q : Nat} (h : q < n) (hx : x q = 32) : skN x n (n - (q + 1)) (q + 1) = skN x n (n - q) q := by
  rw [show n - q = (n - (q + 1)) + 1 by omega, skN, if_pos ⟨h, hx⟩]
theorem sk_0 {x : Fn} {n q : Nat} (h : ¬ (q < n ∧ x q = 32)) : skN x n (n - q) q = q := by
  by_cases e : q < n
  · rw [show n - q = (n - (q + 1)) + 1 by omega, skN, if_neg h]
  · rw [show n - q = 0 by omega]; rfl
theorem ru_1 {x : Fn} {n q : Nat} {s : Int} (h : q < n) (hx : srt (x q) = s) : ruN x n s (n - (q + 1)) (q + 1) = ruN x n s (n - q) q := by
  rw [show n - q = (n - (q + 1)) + 1 by omega, ruN, if_pos ⟨h, hx⟩]
theorem ru_0 {x : Fn} {n q : Nat} {s : Int} (h : ¬ (q < n ∧ srt (x q) = s)) : ruN x n s (n - q) q = q := by
  by_cases e : q < n
  · rw [show n - q = (n - (q + 1)) + 1 by omega, ruN, if_neg h]
  · rw [show n - q = 0 by omega]; rfl
/-- while a token is run through -/
def tkI (x : Fn) (n p q c : Nat) : Prop := (q < n → srt (x q) = 0 → c = q + 1) ∧ (q < n → srt (x q) ≠ 0 → q < c ∧ ruN x n (srt (x q)) (n - c) c = tkB x n p) ∧ (n ≤ q → c = q)
theorem tkI_0 {x : Fn} {n p q : Nat} (h : tkA x n p = q) : tkI x n p q (if q < n then q + 1 else q) := by
  refine ⟨fun a b => if_pos a, fun a b => ?_, fun a => if_neg (by omega)⟩
  rw [if_pos a]
  refine ⟨by omega, ?_⟩
  unfold tkB
  rw [h, if_pos a, if_neg b]
theorem tkI_1 {x : Fn} {n p q c : Nat} (hc : tkI x n p q c) (hn : c < n) (hq : q < n) (h0 : srt (x q) ≠ 0) (h : srt (x c) = srt (x q)) : tkI x n p q (c + 1) := by
  have h2 := hc.2.1 hq h0
  exact ⟨fun _ b => absurd b h0, fun _ _ => ⟨by omega, by rw [ru_1 hn h]; exact h2.2⟩, fun a => by omega⟩
theorem tkI_e {x : Fn} {n p q c : Nat} (h : tkA x n p = q) (hc : tkI x n p q c) (he : n ≤ c ∨ (q < n ∧ srt (x q) = 0) ∨ (q < n ∧ srt (x c) ≠ srt (x q))) : tkB x n p = c := by
  by_cases hq : q < n
  · by_cases h0 : srt (x q) = 0
    · rw [hc.1 hq h0]; unfold tkB; rw [h, if_pos hq, if_pos h0]
    · have h2 := hc.2.1 hq h0
      rw [← h2.2]
      exact ru_0 (fun z => by
        rcases he with e | e | e
        · omega
        · exact h0 e.2
        · exact e.2 z.2)
  · rw [hc.2.2 (by omega)]; unfold tkB; rw [h, if_neg hq]
set_option maxRecDepth 100000 in
set_option maxHeartbeats 4000000 in
theorem m_sort {E : EN} {l : Launch} {M : Mem} {v : Int} : Cn E l mX8_sort 0 [vI v] M (fun r M1 => ∃ z, r = vI z ∧ (M1 = M ∧ z = srt v)) := by
  refine Cn.of (by decide) rfl (Nat.le_of_ble_eq_true rfl) 0 rfl (fun oka okm G hR => ?_)
  refine A_iload_n dX8_sort_0 rfl ?_
  refine A_bipush dX8_sort_1 bp_97 (by decide) ?_
  refine A_icmp_lt (tgt := 16) dX8_sort_3 (by decide) (fun h3 => ?_) (fun h3 => ?_)
  · skip
    refine A_iload_n dX8_sort_16 rfl ?_
    refine A_bipush dX8_sort_17 bp_48 (by decide) ?_
    refine A_icmp_lt (tgt := 32) dX8_sort_19 (by decide) (fun h19 => ?_) (fun h19 => ?_)
    · skip
      refine A_iconst dX8_sort_32 (by decide) ?_
      exact A_iret hR dX8_sort_33 rfl ⟨_, rfl, rfl, by unfold srt; first | (exfalso; omega) | rw [if_pos (by omega)] | rw [if_neg (by omega), if_pos (by omega)] | rw [if_neg (by omega), if_neg (by omega)]⟩
    · skip
      refine A_iload_n dX8_sort_22 rfl ?_
      refine A_bipush dX8_sort_23 bp_57 (by decide) ?_
      refine A_icmp_gt (tgt := 32) dX8_sort_25 (by decide) (fun h25 => ?_) (fun h25 => ?_)
      · skip
        refine A_iconst dX8_sort_32 (by decide) ?_
        exact A_iret hR dX8_sort_33 rfl ⟨_, rfl, rfl, by unfold srt; first | (exfalso; omega) | rw [if_pos (by omega)] | rw [if_neg (by omega), if_pos (by omega)] | rw [if_neg (by omega), if_neg (by omega)]⟩
      · skip
        refine A_iconst dX8_sort_28 (by decide) ?_
        refine A_goto (tgt := 33) dX8_sort_29 (by decide) ?_
        exact A_iret hR dX8_sort_33 rfl ⟨_, rfl, rfl, by unfold srt; first | (exfalso; omega) | rw [if_pos (by omega)] | rw [if_neg (by omega), if_pos (by omega)] | rw [if_neg (by omega), if_neg (by omega)]⟩
  · skip
    refine A_iload_n dX8_sort_6 rfl ?_
    refine A_bipush dX8_sort_7 bp_122 (by decide) ?_
    refine A_icmp_gt (tgt := 16) dX8_sort_9 (by decide) (fun h9 => ?_) (fun h9 => ?_)
    · skip
      refine A_iload_n dX8_sort_16 rfl ?_
      refine A_bipush dX8_sort_17 bp_48 (by decide) ?_
      refine A_icmp_lt (tgt := 32) dX8_sort_19 (by decide) (fun h19 => ?_) (fun h19 => ?_)
      · skip
        refine A_iconst dX8_sort_32 (by decide) ?_
        exact A_iret hR dX8_sort_33 rfl ⟨_, rfl, rfl, by unfold srt; first | (exfalso; omega) | rw [if_pos (by omega)] | rw [if_neg (by omega), if_pos (by omega)] | rw [if_neg (by omega), if_neg (by omega)]⟩
      · skip
        refine A_iload_n dX8_sort_22 rfl ?_
        refine A_bipush dX8_sort_23 bp_57 (by decide) ?_
        refine A_icmp_gt (tgt := 32) dX8_sort_25 (by decide) (fun h25 => ?_) (fun h25 => ?_)
        · skip
          refine A_iconst dX8_sort_32 (by decide) ?_
          exact A_iret hR dX8_sort_33 rfl ⟨_, rfl, rfl, by unfold srt; first | (exfalso; omega) | rw [if_pos (by omega)] | rw [if_neg (by omega), if_pos (by omega)] | rw [if_neg (by omega), if_neg (by omega)]⟩
        · skip
          refine A_iconst dX8_sort_28 (by decide) ?_
          refine A_goto (tgt := 33) dX8_sort_29 (by decide) ?_
          exact A_iret hR dX8_sort_33 rfl ⟨_, rfl, rfl, by unfold srt; first | (exfalso; omega) | rw [if_pos (by omega)] | rw [if_neg (by omega), if_pos (by omega)] | rw [if_neg (by omega), if_neg (by omega)]⟩
    · skip
      refine A_iconst dX8_sort_12 (by decide) ?_
      refine A_goto (tgt := 33) dX8_sort_13 (by decide) ?_
      exact A_iret hR dX8_sort_33 rfl ⟨_, rfl, rfl, by unfold srt; first | (exfalso; omega) | rw [if_pos (by omega)] | rw [if_neg (by omega), if_pos (by omega)] | rw [if_neg (by omega), if_neg (by omega)]⟩

set_option maxRecDepth 100000 in
set_option maxHeartbeats 4000000 in
theorem m_token {E : EN} {l : Launch} {M : Mem} {m n p : Nat} {x : Fn} (hO : isMod E m) (hn : M m 3 = n) (hn2 : n ≤ 200) (hx : ∀ k : Int, 0 ≤ k → k < n → M (m + 3) k = x k) (hp : M m 14 = p) (hp2 : p ≤ n) : Cn E l mX8_token 1 [vR m] M (fun r M1 => r = vU ∧ ((∀ y, y ≠ m → M1 y = M y) ∧ (∀ k : Int, k ≠ 14 → k ≠ 15 → k ≠ 16 → M1 m k = M m k) ∧ M1 m 14 = tkB x n p ∧ M1 m 15 = tkA x n p ∧ M1 m 16 = tkB x n p)) := by
  refine Cn.of (by decide) rfl (Nat.le_of_ble_eq_true rfl) 0 rfl (fun oka okm G hR => ?_)
  obtain ⟨a0, a1, a2, a3, a4, a5, a6, a7, a8, a9, a10, a11, a12⟩ := id hO
  have tr := tk_r (x := x) hp2
  have lp : ∀ (k : Nat) (q : Nat) (M1 : Mem), n - q = k → (∀ y, y ≠ m → M1 y = M y) → (∀ k : Int, k ≠ 14 → M1 m k = M m k) → (M1 m 14 = q) → (q ≤ n) → (skN x n (n - q) q = tkA x n p) → AW E mX8_token G 0 0 0 [vR m] [] M1 := by
    intro k
    induction k using Nat.strongRecOn with
    | ind k ih =>
      intro q M1 hk hf hk h14 hq hs
      refine A_aload_n dX8_token_0 rfl ?_
      refine A_getI (ki := 14) dX8_token_1 fl_RX8_82 (by assumption) (by rfl) rfl ?_
      rw [h14]
      have j38 : tkA x n p = q → AW E mX8_token G 0 0 38 [vR m] [] M1 := by
        intro ha
        refine A_aload_n dX8_token_38 rfl ?_
        refine A_aload_n dX8_token_39 rfl ?_
        refine A_getI (ki := 14) dX8_token_40 fl_RX8_82 (by assumption) (by rfl) rfl ?_
        rw [h14]
        refine A_putI (ki := 15) dX8_token_43 fl_RX8_85 fi8_15 (by assumption) (by rfl) rfl (fun M43 e43 k43 => ?_)
        refine A_aload_n dX8_token_46 rfl ?_
        refine A_dup dX8_token_47 rfl ?_
        refine A_getI (ki := 14) dX8_token_48 fl_RX8_82 (by assumption) (by rfl) rfl ?_
        rw [show M43 m 14 = q by rw [e43, upm_k (by omega)]; exact h14]
        have j67 : ∀ u : Int, ((q : Int) + u = ((if q < n then q + 1 else q : Nat) : Int)) → AW E mX8_token G 0 0 67 [vR m] [vI u, vI q, vR m] M43 := by
          intro u hu
          have hu2 : (if q < n then q + 1 else q : Nat) ≤ 201 := by split <;> omega
          refine A_iadd dX8_token_67 ⟨by omega, by omega⟩ ?_
          refine A_putI (ki := 14) dX8_token_68 fl_RX8_82 fi8_14 (by assumption) (by rfl) rfl (fun M68 e68 k68 => ?_)
          have lq : ∀ (k : Nat) (c : Nat) (M2 : Mem), n - c = k → (∀ y, y ≠ m → M2 y = M y) → (∀ k : Int, k ≠ 14 → k ≠ 15 → M2 m k = M m k) → (M2 m 15 = q) → (M2 m 14 = c) → (c ≤ n) → (tkI x n p q c) → AW E mX8_token G 0 0 71 [vR m] [] M2 := by
            intro k
            induction k using Nat.strongRecOn with
            | ind k2 ih2 =>
              intro c M2 hk hf2 hk2 h15 g14 hc hi
              refine A_aload_n dX8_token_71 rfl ?_
              refine A_getI (ki := 14) dX8_token_72 fl_RX8_82 (by assumption) (by rfl) rfl ?_
              rw [g14]
              have j137 : tkB x n p = c → AW E mX8_token G 0 0 137 [vR m] [] M2 := by
                intro hb
                refine A_aload_n dX8_token_137 rfl ?_
                refine A_aload_n dX8_token_138 rfl ?_
                refine A_getI (ki := 14) dX8_token_139 fl_RX8_82 (by assumption) (by rfl) rfl ?_
                rw [g14]
                refine A_putI (ki := 16) dX8_token_142 fl_RX8_92 fi8_16 (by assumption) (by rfl) rfl (fun M142 e142 k142 => ?_)
                exact A_vret hR dX8_token_145 rfl ⟨rfl, fun y hy => by rw [e142, upm_c hy]; exact hf2 y hy, fun k ka kb kc => by rw [e142, upm_k kc]; exact hk2 k ka kb, by rw [e142, upm_k (by omega), g14, hb], by rw [e142, upm_k (by omega), h15, ha], by rw [e142, upm_s, hb]⟩
              refine A_aload_n dX8_token_75 rfl ?_
              refine A_getI (ki := 3) dX8_token_76 fl_RX8_77 (by assumption) (by rfl) rfl ?_
              rw [hk2 3 (by omega) (by omega), hn]
              refine A_icmp_ge (tgt := 137) dX8_token_79 (by decide) (fun h79 => ?_) (fun h79 => ?_)
              · skip
                first | exact j137 (tkI_e ha hi (Or.inl (by omega))) | exact j137 (tkI_e ha hi (Or.inr (Or.inl ⟨qn, by omega⟩))) | exact j137 (tkI_e ha hi (Or.inr (Or.inr ⟨qn, by omega⟩)))
              · skip
                have qn : q < n := by
                  by_cases z : q < n
                  · exact z
                  · have := hi.2.2 (by omega); omega
                have sr := srt_r (x q)
                refine A_aload_n dX8_token_82 rfl ?_
                refine A_getR dX8_token_83 fl_RX8_17 (by assumption) (by rfl) ?_
                refine A_aload_n dX8_token_86 rfl ?_
                refine A_getI (ki := 15) dX8_token_87 fl_RX8_85 (by assumption) (by rfl) rfl ?_
                rw [h15]
                refine A_iald dX8_token_90 (by assumption) (by omega) (by omega) ?_
                rw [hf2 _ (by omega), hx q (by omega) (by omega)]
                refine A_sI1 (mj := mX8_sort) dX8_token_91 hR.rm (by decide) ok_X8_sort st_X8_sort ml_RX8_88 rfl (m_sort (v := x q)) (fun z91 M91 g91 k91 q91 => ?_)
                obtain ⟨e91, q91⟩ := q91
                subst M91
                subst z91
                refine A_if_le (tgt := 137) dX8_token_94 (by decide) (fun h94 => ?_) (fun h94 => ?_)
                · skip
                  first | exact j137 (tkI_e ha hi (Or.inl (by omega))) | exact j137 (tkI_e ha hi (Or.inr (Or.inl ⟨qn, by omega⟩))) | exact j137 (tkI_e ha hi (Or.inr (Or.inr ⟨qn, by omega⟩)))
                · skip
                  refine A_aload_n dX8_token_97 rfl ?_
                  refine A_getR dX8_token_98 fl_RX8_17 (by assumption) (by rfl) ?_
                  refine A_aload_n dX8_token_101 rfl ?_
                  refine A_getI (ki := 14) dX8_token_102 fl_RX8_82 (by assumption) (by rfl) rfl ?_
                  rw [g14]
                  refine A_iald dX8_token_105 (by assumption) (by omega) (by omega) ?_
                  rw [hf2 _ (by omega), hx c (by omega) (by omega)]
                  refine A_sI1 (mj := mX8_sort) dX8_token_106 hR.rm (by decide) ok_X8_sort st_X8_sort ml_RX8_88 rfl (m_sort (v := x c)) (fun z106 M106 g106 k106 q106 => ?_)
                  obtain ⟨e106, q106⟩ := q106
                  subst M106
                  subst z106
                  refine A_aload_n dX8_token_109 rfl ?_
                  refine A_getR dX8_token_110 fl_RX8_17 (by assumption) (by rfl) ?_
                  refine A_aload_n dX8_token_113 rfl ?_
                  refine A_getI (ki := 15) dX8_token_114 fl_RX8_85 (by assumption) (by rfl) rfl ?_
                  rw [h15]
                  refine A_iald dX8_token_117 (by assumption) (by omega) (by omega) ?_
                  rw [hf2 _ (by omega), hx q (by omega) (by omega)]
                  refine A_sI1 (mj := mX8_sort) dX8_token_118 hR.rm (by decide) ok_X8_sort st_X8_sort ml_RX8_88 rfl (m_sort (v := x q)) (fun z118 M118 g118 k118 q118 => ?_)
                  obtain ⟨e118, q118⟩ := q118
                  subst M118
                  subst z118
                  refine A_icmp_ne (tgt := 137) dX8_token_121 (by decide) (fun h121 => ?_) (fun h121 => ?_)
                  · skip
                    first | exact j137 (tkI_e ha hi (Or.inl (by omega))) | exact j137 (tkI_e ha hi (Or.inr (Or.inl ⟨qn, by omega⟩))) | exact j137 (tkI_e ha hi (Or.inr (Or.inr ⟨qn, by omega⟩)))
                  · skip
                    refine A_aload_n dX8_token_124 rfl ?_
                    refine A_dup dX8_token_125 rfl ?_
                    refine A_getI (ki := 14) dX8_token_126 fl_RX8_82 (by assumption) (by rfl) rfl ?_
                    rw [g14]
                    refine A_iconst dX8_token_129 (by decide) ?_
                    refine A_iadd dX8_token_130 ⟨by omega, by omega⟩ ?_
                    refine A_putI (ki := 14) dX8_token_131 fl_RX8_82 fi8_14 (by assumption) (by rfl) rfl (fun M131 e131 k131 => ?_)
                    refine A_goto (tgt := 71) dX8_token_134 (by decide) ?_
                    exact ih2 _ (by omega) (c + 1) M131 rfl (fun y hy => by rw [e131, upm_c hy]; exact hf2 y hy) (fun k ka kb => by rw [e131, upm_k ka]; exact hk2 k ka kb) (by rw [e131, upm_k (by omega)]; exact h15) (by rw [e131, upm_s]; omega) (by omega) (tkI_1 hi (by omega) qn (by omega) (by omega))
          exact lq _ (if q < n then q + 1 else q) M68 rfl (fun y hy => by rw [e68, upm_c hy, e43, upm_c hy]; exact hf y hy) (fun k ka kb => by rw [e68, upm_k ka, e43, upm_k kb]; exact hk k ka) (by rw [e68, upm_k (by omega), e43, upm_s]) (by rw [e68, upm_s, hu]) (by split <;> omega) (tkI_0 ha)
        refine A_aload_n dX8_token_51 rfl ?_
        refine A_getI (ki := 14) dX8_token_52 fl_RX8_82 (by assumption) (by rfl) rfl ?_
        rw [show M43 m 14 = q by rw [e43, upm_k (by omega)]; exact h14]
        refine A_aload_n dX8_token_55 rfl ?_
        refine A_getI (ki := 3) dX8_token_56 fl_RX8_77 (by assumption) (by rfl) rfl ?_
        rw [show M43 m 3 = n by rw [e43, upm_k (by omega), hk 3 (by omega)]; exact hn]
        refine A_icmp_ge (tgt := 66) dX8_token_59 (by decide) (fun h59 => ?_) (fun h59 => ?_)
        · skip
          refine A_iconst dX8_token_66 (by decide) ?_
          first | exact j67 1 (by rw [if_pos (by omega)]; omega) | exact j67 0 (by rw [if_neg (by omega)]; omega)
        · skip
          refine A_iconst dX8_token_62 (by decide) ?_
          refine A_goto (tgt := 67) dX8_token_63 (by decide) ?_
          first | exact j67 1 (by rw [if_pos (by omega)]; omega) | exact j67 0 (by rw [if_neg (by omega)]; omega)
      refine A_aload_n dX8_token_4 rfl ?_
      refine A_getI (ki := 3) dX8_token_5 fl_RX8_77 (by assumption) (by rfl) rfl ?_
      rw [hk 3 (by omega), hn]
      refine A_icmp_ge (tgt := 38) dX8_token_8 (by decide) (fun h8 => ?_) (fun h8 => ?_)
      · skip
        first | exact j38 (by rw [← hs]; exact sk_0 (fun z => by omega))
      · skip
        refine A_aload_n dX8_token_11 rfl ?_
        refine A_getR dX8_token_12 fl_RX8_17 (by assumption) (by rfl) ?_
        refine A_aload_n dX8_token_15 rfl ?_
        refine A_getI (ki := 14) dX8_token_16 fl_RX8_82 (by assumption) (by rfl) rfl ?_
        rw [h14]
        refine A_iald dX8_token_19 (by assumption) (by omega) (by omega) ?_
        rw [hf _ (by omega), hx q (by omega) (by omega)]
        refine A_bipush dX8_token_20 bp_32 (by decide) ?_
        refine A_icmp_ne (tgt := 38) dX8_token_22 (by decide) (fun h22 => ?_) (fun h22 => ?_)
        · skip
          first | exact j38 (by rw [← hs]; exact sk_0 (fun z => by omega))
        · skip
          refine A_aload_n dX8_token_25 rfl ?_
          refine A_dup dX8_token_26 rfl ?_
          refine A_getI (ki := 14) dX8_token_27 fl_RX8_82 (by assumption) (by rfl) rfl ?_
          rw [h14]
          refine A_iconst dX8_token_30 (by decide) ?_
          refine A_iadd dX8_token_31 ⟨by omega, by omega⟩ ?_
          refine A_putI (ki := 14) dX8_token_32 fl_RX8_82 fi8_14 (by assumption) (by rfl) rfl (fun M32 e32 k32 => ?_)
          refine A_goto (tgt := 0) dX8_token_35 (by decide) ?_
          exact ih _ (by omega) (q + 1) M32 rfl (fun y hy => by rw [e32, upm_c hy]; exact hf y hy) (fun k hk2 => by rw [e32, upm_k hk2]; exact hk k hk2) (by rw [e32, upm_s]; omega) (by omega) (by rw [sk_1 (by omega) (by omega)]; exact hs)
  exact lp _ p M rfl (fun _ _ => rfl) (fun _ _ => rfl) hp hp2 rfl

