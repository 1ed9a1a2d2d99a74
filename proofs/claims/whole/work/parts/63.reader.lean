/-! THE READER: tokens -/
def isRdr (E : EN) : Prop := isTxt E 1 ∧ isTold E 12 ∧ At E 11 (.inl (3, [rf 1, rf 12, none, none, none, none]))
def tX (M : Mem) (n : Nat) (x : Fn) : Prop := M 1 1 = n ∧ ∀ k : Int, 0 ≤ k → k < n → M 2 k = x k
theorem tX_f {M M1 : Mem} {n : Nat} {x : Fn} (h : tX M n x) (f : ∀ y, y ≤ 2 → M1 y = M y) : tX M1 n x := ⟨by rw [f 1 (by omega)]; exact h.1, by rw [f 2 (by omega)]; exact h.2⟩
set_option maxRecDepth 100000 in
set_option maxHeartbeats 4000000 in
theorem c_isLetter {E : EN} {l : Launch} {M : Mem} {v : Int} : Cn E l mX3_isLetter 0 [vI v] M (fun r M1 => ∃ z, r = vI z ∧ (M1 = M ∧ (z = 0 ∨ z = 1) ∧ (z = 1 ↔ srt v = 1))) := by
  refine Cn.of (by decide) rfl (Nat.le_of_ble_eq_true rfl) 0 rfl (fun oka okm G hR => ?_)
  refine A_iload_n dX3_isLetter_0 rfl ?_
  refine A_bipush dX3_isLetter_1 bp_97 (by decide) ?_
  refine A_icmp_lt (tgt := 16) dX3_isLetter_3 (by decide) (fun h3 => ?_) (fun h3 => ?_)
  · skip
    refine A_iconst dX3_isLetter_16 (by decide) ?_
    exact A_zret hR dX3_isLetter_17 rfl (by first | exact Or.inl rfl | exact Or.inr rfl | omega) ⟨_, rfl, rfl, by omega, by unfold srt; constructor <;> intro q <;> (try split at q) <;> (try split at q) <;> (try split) <;> (try split) <;> first | rfl | omega⟩
  · skip
    refine A_iload_n dX3_isLetter_6 rfl ?_
    refine A_bipush dX3_isLetter_7 bp_122 (by decide) ?_
    refine A_icmp_gt (tgt := 16) dX3_isLetter_9 (by decide) (fun h9 => ?_) (fun h9 => ?_)
    · skip
      refine A_iconst dX3_isLetter_16 (by decide) ?_
      exact A_zret hR dX3_isLetter_17 rfl (by first | exact Or.inl rfl | exact Or.inr rfl | omega) ⟨_, rfl, rfl, by omega, by unfold srt; constructor <;> intro q <;> (try split at q) <;> (try split at q) <;> (try split) <;> (try split) <;> first | rfl | omega⟩
    · skip
      refine A_iconst dX3_isLetter_12 (by decide) ?_
      refine A_goto (tgt := 17) dX3_isLetter_13 (by decide) ?_
      exact A_zret hR dX3_isLetter_17 rfl (by first | exact Or.inl rfl | exact Or.inr rfl | omega) ⟨_, rfl, rfl, by omega, by unfold srt; constructor <;> intro q <;> (try split at q) <;> (try split at q) <;> (try split) <;> (try split) <;> first | rfl | omega⟩

set_option maxRecDepth 100000 in
set_option maxHeartbeats 4000000 in
theorem c_isDigit {E : EN} {l : Launch} {M : Mem} {v : Int} : Cn E l mX3_isDigit 0 [vI v] M (fun r M1 => ∃ z, r = vI z ∧ (M1 = M ∧ (z = 0 ∨ z = 1) ∧ (z = 1 ↔ srt v = 2))) := by
  refine Cn.of (by decide) rfl (Nat.le_of_ble_eq_true rfl) 0 rfl (fun oka okm G hR => ?_)
  refine A_iload_n dX3_isDigit_0 rfl ?_
  refine A_bipush dX3_isDigit_1 bp_48 (by decide) ?_
  refine A_icmp_lt (tgt := 16) dX3_isDigit_3 (by decide) (fun h3 => ?_) (fun h3 => ?_)
  · skip
    refine A_iconst dX3_isDigit_16 (by decide) ?_
    exact A_zret hR dX3_isDigit_17 rfl (by first | exact Or.inl rfl | exact Or.inr rfl | omega) ⟨_, rfl, rfl, by omega, by unfold srt; constructor <;> intro q <;> (try split at q) <;> (try split at q) <;> (try split) <;> (try split) <;> first | rfl | omega⟩
  · skip
    refine A_iload_n dX3_isDigit_6 rfl ?_
    refine A_bipush dX3_isDigit_7 bp_57 (by decide) ?_
    refine A_icmp_gt (tgt := 16) dX3_isDigit_9 (by decide) (fun h9 => ?_) (fun h9 => ?_)
    · skip
      refine A_iconst dX3_isDigit_16 (by decide) ?_
      exact A_zret hR dX3_isDigit_17 rfl (by first | exact Or.inl rfl | exact Or.inr rfl | omega) ⟨_, rfl, rfl, by omega, by unfold srt; constructor <;> intro q <;> (try split at q) <;> (try split at q) <;> (try split) <;> (try split) <;> first | rfl | omega⟩
    · skip
      refine A_iconst dX3_isDigit_12 (by decide) ?_
      refine A_goto (tgt := 17) dX3_isDigit_13 (by decide) ?_
      exact A_zret hR dX3_isDigit_17 rfl (by first | exact Or.inl rfl | exact Or.inr rfl | omega) ⟨_, rfl, rfl, by omega, by unfold srt; constructor <;> intro q <;> (try split at q) <;> (try split at q) <;> (try split) <;> (try split) <;> first | rfl | omega⟩

set_option maxRecDepth 100000 in
set_option maxHeartbeats 4000000 in
theorem c_takeToken {E : EN} {l : Launch} {M : Mem} {n p : Nat} {x : Fn} (hO : isRdr E) (hn2 : n ≤ 200) (hx : tX M n x) (hp : M 11 5 = p) (hp2 : p ≤ n) : Cn E l mX3_takeToken 1 [vR 11] M (fun r M1 => r = vU ∧ ((∀ y, y ≠ 11 → M1 y = M y) ∧ (∀ k : Int, k ≠ 4 → k ≠ 5 → M1 11 k = M 11 k) ∧ M1 11 4 = tkA x n p ∧ M1 11 5 = tkB x n p)) := by
  refine Cn.of (by decide) rfl (Nat.le_of_ble_eq_true rfl) 1 rfl (fun oka okm G hR => ?_)
  obtain ⟨rt, rd, ra⟩ := id hO
  obtain ⟨ta, tb⟩ := id rt
  obtain ⟨b0, b1, b2, b3, b4, b5, b6, b7⟩ := id rd
  have tr := tk_r (x := x) hp2
  refine A_aload_n dX3_takeToken_0 rfl ?_
  refine A_aload_n dX3_takeToken_1 rfl ?_
  refine A_getI (ki := 5) dX3_takeToken_2 fl_RX3_30 (by assumption) (by rfl) rfl ?_
  rw [hp]
  refine A_putI (ki := 4) dX3_takeToken_5 fl_RX3_43 fi3_4 (by assumption) (by rfl) rfl (fun M5 e5 k5 => ?_)
  have lp : ∀ (k : Nat) (q : Nat) (M1 : Mem), n - q = k → (∀ y, y ≠ 11 → M1 y = M y) → (∀ k : Int, k ≠ 4 → M1 11 k = M 11 k) → (M1 11 4 = q) → (q ≤ n) → (skN x n (n - q) q = tkA x n p) → AW E mX3_takeToken G 0 0 8 [vR 11, vU] [] M1 := by
    intro k
    induction k using Nat.strongRecOn with
    | ind k ih =>
      intro q M1 hk hf hk h4 hq hs
      have xs : tX M1 n x := tX_f hx (fun y hy => hf y (by omega))
      refine A_aload_n dX3_takeToken_8 rfl ?_
      refine A_getI (ki := 4) dX3_takeToken_9 fl_RX3_43 (by assumption) (by rfl) rfl ?_
      rw [h4]
      have j51 : tkA x n p = q → AW E mX3_takeToken G 0 0 51 [vR 11, vU] [] M1 := by
        intro ha
        refine A_aload_n dX3_takeToken_51 rfl ?_
        refine A_aload_n dX3_takeToken_52 rfl ?_
        refine A_getI (ki := 4) dX3_takeToken_53 fl_RX3_43 (by assumption) (by rfl) rfl ?_
        rw [h4]
        refine A_putI (ki := 5) dX3_takeToken_56 fl_RX3_30 fi3_5 (by assumption) (by rfl) rfl (fun M56 e56 k56 => ?_)
        refine A_aload_n dX3_takeToken_59 rfl ?_
        refine A_getI (ki := 5) dX3_takeToken_60 fl_RX3_30 (by assumption) (by rfl) rfl ?_
        rw [show M56 11 5 = q by rw [e56, upm_s]]
        refine A_aload_n dX3_takeToken_63 rfl ?_
        refine A_getR dX3_takeToken_64 fl_RX3_18 (by assumption) (by rfl) ?_
        refine A_getI (ki := 1) dX3_takeToken_67 fl_RX3_46 (by assumption) (by rfl) rfl ?_
        rw [show M56 1 1 = n by rw [e56, upm_c (by omega)]; exact xs.1]
        refine A_icmp_lt (tgt := 74) dX3_takeToken_70 (by decide) (fun h70 => ?_) (fun h70 => ?_)
        · skip
          have qn : q < n := by omega
          refine A_aload_n dX3_takeToken_74 rfl ?_
          refine A_dup dX3_takeToken_75 rfl ?_
          refine A_getI (ki := 5) dX3_takeToken_76 fl_RX3_30 (by assumption) (by rfl) rfl ?_
          rw [show M56 11 5 = q by rw [e56, upm_s]]
          refine A_iconst dX3_takeToken_79 (by decide) ?_
          refine A_iadd dX3_takeToken_80 ⟨by omega, by omega⟩ ?_
          refine A_putI (ki := 5) dX3_takeToken_81 fl_RX3_30 fi3_5 (by assumption) (by rfl) rfl (fun M81 e81 k81 => ?_)
          refine A_aload_n dX3_takeToken_84 rfl ?_
          refine A_getR dX3_takeToken_85 fl_RX3_18 (by assumption) (by rfl) ?_
          refine A_aload_n dX3_takeToken_88 rfl ?_
          refine A_getI (ki := 4) dX3_takeToken_89 fl_RX3_43 (by assumption) (by rfl) rfl ?_
          rw [show M81 11 4 = q by rw [e81, upm_k (by omega), e56, upm_k (by omega)]; exact h4]
          have xs : tX M81 n x := tX_f xs (fun y hy => by rw [e81, upm_c (by omega), e56, upm_c (by omega)])
          refine A_vI1 (mj := mX5_at) dX3_takeToken_92 hR.rm (by decide) ok_X5_at mv_X5_at ml_RX3_51 (by assumption) rfl rfl rfl (c_txtAt rt (i := q) (by have := xs.1; omega)) (fun z92 M92 g92 k92 q92 => ?_)
          obtain ⟨e92, q92⟩ := q92
          subst M92
          rw [xs.1, if_pos ⟨by omega, by omega⟩, show M81 (1 + 1) q = x q from xs.2 _ (by omega) (by omega)] at q92
          subst z92
          refine A_istore_n dX3_takeToken_95 (by decide) rfl ?_
          have sr := srt_r (x q)
          refine A_iload_n dX3_takeToken_96 rfl ?_
          refine A_sI1 (mj := mX3_isLetter) dX3_takeToken_97 hR.rm (by decide) ok_X3_isLetter st_X3_isLetter ml_RX3_137 rfl (c_isLetter (v := x q)) (fun z97 M97 g97 k97 q97 => ?_)
          obtain ⟨e97, z97r, q97⟩ := q97
          subst M97
          refine A_if_eq (tgt := 147) dX3_takeToken_100 (by decide) (fun h100 => ?_) (fun h100 => ?_)
          · skip
            refine A_iload_n dX3_takeToken_147 rfl ?_
            refine A_sI1 (mj := mX3_isDigit) dX3_takeToken_148 hR.rm (by decide) ok_X3_isDigit st_X3_isDigit ml_RX3_134 rfl (c_isDigit (v := x q)) (fun z148 M148 g148 k148 q148 => ?_)
            obtain ⟨e148, z148r, q148⟩ := q148
            subst M148
            refine A_if_eq (tgt := 198) dX3_takeToken_151 (by decide) (fun h151 => ?_) (fun h151 => ?_)
            · skip
              exact A_vret hR dX3_takeToken_198 rfl (by
      first
      | exact ⟨rfl, hf2, hk2, by rw [g4, ha], by rw [g5, tkI_e ha hi (Or.inl (by omega))]⟩
      | exact ⟨rfl, hf2, hk2, by rw [g4, ha], by rw [g5, tkI_e ha hi (Or.inr (Or.inr ⟨qn, by omega⟩))]⟩
      | exact ⟨rfl, fun y hy => by rw [e81, upm_c hy, e56, upm_c hy]; exact hf y hy, fun k ka kb => by rw [e81, upm_k kb, e56, upm_k kb]; exact hk k ka, by rw [e81, upm_k (by omega), e56, upm_k (by omega), h4, ha], by
          have t0 := tkI_0 ha
          rw [if_pos qn] at t0
          rw [e81, upm_s, tkI_e ha t0 (Or.inr (Or.inl ⟨qn, by omega⟩))]; omega⟩)
            · skip
              have lr : ∀ (k : Nat) (c : Nat) (M2 : Mem), n - c = k → (∀ y, y ≠ 11 → M2 y = M y) → (∀ k : Int, k ≠ 4 → k ≠ 5 → M2 11 k = M 11 k) → (M2 11 4 = q) → (M2 11 5 = c) → (c ≤ n) → (tkI x n p q c) → AW E mX3_takeToken G 0 0 154 [vR 11, vI (x q)] [] M2 := by
                intro k
                induction k using Nat.strongRecOn with
                | ind k2 ih2 =>
                  intro c M2 hk hf2 hk2 g4 g5 hc hi
                  have xs : tX M2 n x := tX_f hx (fun y hy => hf2 y (by omega))
                  refine A_aload_n dX3_takeToken_154 rfl ?_
                  refine A_getI (ki := 5) dX3_takeToken_155 fl_RX3_30 (by assumption) (by rfl) rfl ?_
                  rw [g5]
                  refine A_aload_n dX3_takeToken_158 rfl ?_
                  refine A_getR dX3_takeToken_159 fl_RX3_18 (by assumption) (by rfl) ?_
                  refine A_getI (ki := 1) dX3_takeToken_162 fl_RX3_46 (by assumption) (by rfl) rfl ?_
                  rw [xs.1]
                  refine A_icmp_ge (tgt := 198) dX3_takeToken_165 (by decide) (fun h165 => ?_) (fun h165 => ?_)
                  · skip
                    exact A_vret hR dX3_takeToken_198 rfl (by
      first
      | exact ⟨rfl, hf2, hk2, by rw [g4, ha], by rw [g5, tkI_e ha hi (Or.inl (by omega))]⟩
      | exact ⟨rfl, hf2, hk2, by rw [g4, ha], by rw [g5, tkI_e ha hi (Or.inr (Or.inr ⟨qn, by omega⟩))]⟩
      | exact ⟨rfl, fun y hy => by rw [e81, upm_c hy, e56, upm_c hy]; exact hf y hy, fun k ka kb => by rw [e81, upm_k kb, e56, upm_k kb]; exact hk k ka, by rw [e81, upm_k (by omega), e56, upm_k (by omega), h4, ha], by
          have t0 := tkI_0 ha
          rw [if_pos qn] at t0
          rw [e81, upm_s, tkI_e ha t0 (Or.inr (Or.inl ⟨qn, by omega⟩))]; omega⟩)
                  · skip
                    refine A_aload_n dX3_takeToken_168 rfl ?_
                    refine A_getR dX3_takeToken_169 fl_RX3_18 (by assumption) (by rfl) ?_
                    refine A_aload_n dX3_takeToken_172 rfl ?_
                    refine A_getI (ki := 5) dX3_takeToken_173 fl_RX3_30 (by assumption) (by rfl) rfl ?_
                    rw [g5]
                    refine A_vI1 (mj := mX5_at) dX3_takeToken_176 hR.rm (by decide) ok_X5_at mv_X5_at ml_RX3_51 (by assumption) rfl rfl rfl (c_txtAt rt (i := c) (by have := xs.1; omega)) (fun z176 M176 g176 k176 q176 => ?_)
                    obtain ⟨e176, q176⟩ := q176
                    subst M176
                    rw [xs.1, if_pos ⟨by omega, by omega⟩, show M2 (1 + 1) c = x c from xs.2 _ (by omega) (by omega)] at q176
                    subst z176
                    refine A_sI1 (mj := mX3_isDigit) dX3_takeToken_179 hR.rm (by decide) ok_X3_isDigit st_X3_isDigit ml_RX3_134 rfl (c_isDigit (v := x c)) (fun z179 M179 g179 k179 q179 => ?_)
                    obtain ⟨e179, z179r, q179⟩ := q179
                    subst M179
                    refine A_if_eq (tgt := 198) dX3_takeToken_182 (by decide) (fun h182 => ?_) (fun h182 => ?_)
                    · skip
                      exact A_vret hR dX3_takeToken_198 rfl (by
      first
      | exact ⟨rfl, hf2, hk2, by rw [g4, ha], by rw [g5, tkI_e ha hi (Or.inl (by omega))]⟩
      | exact ⟨rfl, hf2, hk2, by rw [g4, ha], by rw [g5, tkI_e ha hi (Or.inr (Or.inr ⟨qn, by omega⟩))]⟩
      | exact ⟨rfl, fun y hy => by rw [e81, upm_c hy, e56, upm_c hy]; exact hf y hy, fun k ka kb => by rw [e81, upm_k kb, e56, upm_k kb]; exact hk k ka, by rw [e81, upm_k (by omega), e56, upm_k (by omega), h4, ha], by
          have t0 := tkI_0 ha
          rw [if_pos qn] at t0
          rw [e81, upm_s, tkI_e ha t0 (Or.inr (Or.inl ⟨qn, by omega⟩))]; omega⟩)
                    · skip
                      refine A_aload_n dX3_takeToken_185 rfl ?_
                      refine A_dup dX3_takeToken_186 rfl ?_
                      refine A_getI (ki := 5) dX3_takeToken_187 fl_RX3_30 (by assumption) (by rfl) rfl ?_
                      rw [g5]
                      refine A_iconst dX3_takeToken_190 (by decide) ?_
                      refine A_iadd dX3_takeToken_191 ⟨by omega, by omega⟩ ?_
                      refine A_putI (ki := 5) dX3_takeToken_192 fl_RX3_30 fi3_5 (by assumption) (by rfl) rfl (fun M192 e192 k192 => ?_)
                      refine A_goto (tgt := 154) dX3_takeToken_195 (by decide) ?_
                      exact ih2 _ (by omega) (c + 1) M192 rfl (fun y hy => by rw [e192, upm_c hy]; exact hf2 y hy) (fun k ka kb => by rw [e192, upm_k kb]; exact hk2 k ka kb) (by rw [e192, upm_k (by omega)]; exact g4) (by rw [e192, upm_s]; omega) (by omega) (tkI_1 hi (by omega) qn (by omega) (by omega))
              exact lr _ (q + 1) M81 rfl (fun y hy => by rw [e81, upm_c hy, e56, upm_c hy]; exact hf y hy) (fun k ka kb => by rw [e81, upm_k kb, e56, upm_k kb]; exact hk k ka) (by rw [e81, upm_k (by omega), e56, upm_k (by omega)]; exact h4) (by rw [e81, upm_s]; omega) (by omega) (by have := tkI_0 ha; rw [if_pos qn] at this; exact this)
          · skip
            have lq : ∀ (k : Nat) (c : Nat) (M2 : Mem), n - c = k → (∀ y, y ≠ 11 → M2 y = M y) → (∀ k : Int, k ≠ 4 → k ≠ 5 → M2 11 k = M 11 k) → (M2 11 4 = q) → (M2 11 5 = c) → (c ≤ n) → (tkI x n p q c) → AW E mX3_takeToken G 0 0 103 [vR 11, vI (x q)] [] M2 := by
              intro k
              induction k using Nat.strongRecOn with
              | ind k2 ih2 =>
                intro c M2 hk hf2 hk2 g4 g5 hc hi
                have xs : tX M2 n x := tX_f hx (fun y hy => hf2 y (by omega))
                refine A_aload_n dX3_takeToken_103 rfl ?_
                refine A_getI (ki := 5) dX3_takeToken_104 fl_RX3_30 (by assumption) (by rfl) rfl ?_
                rw [g5]
                refine A_aload_n dX3_takeToken_107 rfl ?_
                refine A_getR dX3_takeToken_108 fl_RX3_18 (by assumption) (by rfl) ?_
                refine A_getI (ki := 1) dX3_takeToken_111 fl_RX3_46 (by assumption) (by rfl) rfl ?_
                rw [xs.1]
                refine A_icmp_ge (tgt := 198) dX3_takeToken_114 (by decide) (fun h114 => ?_) (fun h114 => ?_)
                · skip
                  exact A_vret hR dX3_takeToken_198 rfl (by
      first
      | exact ⟨rfl, hf2, hk2, by rw [g4, ha], by rw [g5, tkI_e ha hi (Or.inl (by omega))]⟩
      | exact ⟨rfl, hf2, hk2, by rw [g4, ha], by rw [g5, tkI_e ha hi (Or.inr (Or.inr ⟨qn, by omega⟩))]⟩
      | exact ⟨rfl, fun y hy => by rw [e81, upm_c hy, e56, upm_c hy]; exact hf y hy, fun k ka kb => by rw [e81, upm_k kb, e56, upm_k kb]; exact hk k ka, by rw [e81, upm_k (by omega), e56, upm_k (by omega), h4, ha], by
          have t0 := tkI_0 ha
          rw [if_pos qn] at t0
          rw [e81, upm_s, tkI_e ha t0 (Or.inr (Or.inl ⟨qn, by omega⟩))]; omega⟩)
                · skip
                  refine A_aload_n dX3_takeToken_117 rfl ?_
                  refine A_getR dX3_takeToken_118 fl_RX3_18 (by assumption) (by rfl) ?_
                  refine A_aload_n dX3_takeToken_121 rfl ?_
                  refine A_getI (ki := 5) dX3_takeToken_122 fl_RX3_30 (by assumption) (by rfl) rfl ?_
                  rw [g5]
                  refine A_vI1 (mj := mX5_at) dX3_takeToken_125 hR.rm (by decide) ok_X5_at mv_X5_at ml_RX3_51 (by assumption) rfl rfl rfl (c_txtAt rt (i := c) (by have := xs.1; omega)) (fun z125 M125 g125 k125 q125 => ?_)
                  obtain ⟨e125, q125⟩ := q125
                  subst M125
                  rw [xs.1, if_pos ⟨by omega, by omega⟩, show M2 (1 + 1) c = x c from xs.2 _ (by omega) (by omega)] at q125
                  subst z125
                  refine A_sI1 (mj := mX3_isLetter) dX3_takeToken_128 hR.rm (by decide) ok_X3_isLetter st_X3_isLetter ml_RX3_137 rfl (c_isLetter (v := x c)) (fun z128 M128 g128 k128 q128 => ?_)
                  obtain ⟨e128, z128r, q128⟩ := q128
                  subst M128
                  refine A_if_eq (tgt := 198) dX3_takeToken_131 (by decide) (fun h131 => ?_) (fun h131 => ?_)
                  · skip
                    exact A_vret hR dX3_takeToken_198 rfl (by
      first
      | exact ⟨rfl, hf2, hk2, by rw [g4, ha], by rw [g5, tkI_e ha hi (Or.inl (by omega))]⟩
      | exact ⟨rfl, hf2, hk2, by rw [g4, ha], by rw [g5, tkI_e ha hi (Or.inr (Or.inr ⟨qn, by omega⟩))]⟩
      | exact ⟨rfl, fun y hy => by rw [e81, upm_c hy, e56, upm_c hy]; exact hf y hy, fun k ka kb => by rw [e81, upm_k kb, e56, upm_k kb]; exact hk k ka, by rw [e81, upm_k (by omega), e56, upm_k (by omega), h4, ha], by
          have t0 := tkI_0 ha
          rw [if_pos qn] at t0
          rw [e81, upm_s, tkI_e ha t0 (Or.inr (Or.inl ⟨qn, by omega⟩))]; omega⟩)
                  · skip
                    refine A_aload_n dX3_takeToken_134 rfl ?_
                    refine A_dup dX3_takeToken_135 rfl ?_
                    refine A_getI (ki := 5) dX3_takeToken_136 fl_RX3_30 (by assumption) (by rfl) rfl ?_
                    rw [g5]
                    refine A_iconst dX3_takeToken_139 (by decide) ?_
                    refine A_iadd dX3_takeToken_140 ⟨by omega, by omega⟩ ?_
                    refine A_putI (ki := 5) dX3_takeToken_141 fl_RX3_30 fi3_5 (by assumption) (by rfl) rfl (fun M141 e141 k141 => ?_)
                    refine A_goto (tgt := 103) dX3_takeToken_144 (by decide) ?_
                    exact ih2 _ (by omega) (c + 1) M141 rfl (fun y hy => by rw [e141, upm_c hy]; exact hf2 y hy) (fun k ka kb => by rw [e141, upm_k kb]; exact hk2 k ka kb) (by rw [e141, upm_k (by omega)]; exact g4) (by rw [e141, upm_s]; omega) (by omega) (tkI_1 hi (by omega) qn (by omega) (by omega))
            exact lq _ (q + 1) M81 rfl (fun y hy => by rw [e81, upm_c hy, e56, upm_c hy]; exact hf y hy) (fun k ka kb => by rw [e81, upm_k kb, e56, upm_k kb]; exact hk k ka) (by rw [e81, upm_k (by omega), e56, upm_k (by omega)]; exact h4) (by rw [e81, upm_s]; omega) (by omega) (by have := tkI_0 ha; rw [if_pos qn] at this; exact this)
        · skip
          exact A_vret hR dX3_takeToken_73 rfl ⟨rfl, fun y hy => by rw [e56, upm_c hy]; exact hf y hy, fun k ka kb => by rw [e56, upm_k kb]; exact hk k ka, by rw [e56, upm_k (by omega), h4, ha], by rw [e56, upm_s, ← ha]; unfold tkB; rw [if_neg (by omega)]⟩
      refine A_aload_n dX3_takeToken_12 rfl ?_
      refine A_getR dX3_takeToken_13 fl_RX3_18 (by assumption) (by rfl) ?_
      refine A_getI (ki := 1) dX3_takeToken_16 fl_RX3_46 (by assumption) (by rfl) rfl ?_
      rw [xs.1]
      refine A_icmp_ge (tgt := 51) dX3_takeToken_19 (by decide) (fun h19 => ?_) (fun h19 => ?_)
      · skip
        first | exact j51 (by rw [← hs]; exact sk_0 (fun z => by omega))
      · skip
        refine A_aload_n dX3_takeToken_22 rfl ?_
        refine A_getR dX3_takeToken_23 fl_RX3_18 (by assumption) (by rfl) ?_
        refine A_aload_n dX3_takeToken_26 rfl ?_
        refine A_getI (ki := 4) dX3_takeToken_27 fl_RX3_43 (by assumption) (by rfl) rfl ?_
        rw [h4]
        refine A_vI1 (mj := mX5_at) dX3_takeToken_30 hR.rm (by decide) ok_X5_at mv_X5_at ml_RX3_51 (by assumption) rfl rfl rfl (c_txtAt rt (i := q) (by have := xs.1; omega)) (fun z30 M30 g30 k30 q30 => ?_)
        obtain ⟨e30, q30⟩ := q30
        subst M30
        rw [xs.1, if_pos ⟨by omega, by omega⟩, show M1 (1 + 1) q = x q from xs.2 _ (by omega) (by omega)] at q30
        subst z30
        refine A_bipush dX3_takeToken_33 bp_32 (by decide) ?_
        refine A_icmp_ne (tgt := 51) dX3_takeToken_35 (by decide) (fun h35 => ?_) (fun h35 => ?_)
        · skip
          first | exact j51 (by rw [← hs]; exact sk_0 (fun z => by omega))
        · skip
          refine A_aload_n dX3_takeToken_38 rfl ?_
          refine A_dup dX3_takeToken_39 rfl ?_
          refine A_getI (ki := 4) dX3_takeToken_40 fl_RX3_43 (by assumption) (by rfl) rfl ?_
          rw [h4]
          refine A_iconst dX3_takeToken_43 (by decide) ?_
          refine A_iadd dX3_takeToken_44 ⟨by omega, by omega⟩ ?_
          refine A_putI (ki := 4) dX3_takeToken_45 fl_RX3_43 fi3_4 (by assumption) (by rfl) rfl (fun M45 e45 k45 => ?_)
          refine A_goto (tgt := 8) dX3_takeToken_48 (by decide) ?_
          exact ih _ (by omega) (q + 1) M45 rfl (fun y hy => by rw [e45, upm_c hy]; exact hf y hy) (fun k hk2 => by rw [e45, upm_k hk2]; exact hk k hk2) (by rw [e45, upm_s]; omega) (by omega) (by rw [sk_1 (by omega) (by omega)]; exact hs)
  exact lp _ p M5 rfl (fun y hy => by rw [e5, upm_c hy]) (fun k ka => by rw [e5, upm_k ka]) (by rw [e5, upm_s]) hp2 rfl

set_option maxRecDepth 100000 in
set_option maxHeartbeats 4000000 in
theorem c_refuse {E : EN} {l : Launch} {M : Mem} {a : Nat} (hO : isRdr E) (ha : M 11 4 = a) : Cn E l mX3_refuseToken 0 [vR 11] M (fun r M1 => ∃ z, r = vI z ∧ (z = 0 ∧ M1 = upm M 11 2 a)) := by
  refine Cn.of (by decide) rfl (Nat.le_of_ble_eq_true rfl) 0 rfl (fun oka okm G hR => ?_)
  obtain ⟨rt, rd, ra⟩ := id hO
  obtain ⟨ta, tb⟩ := id rt
  obtain ⟨b0, b1, b2, b3, b4, b5, b6, b7⟩ := id rd
  refine A_aload_n dX3_refuseToken_0 rfl ?_
  refine A_aload_n dX3_refuseToken_1 rfl ?_
  refine A_getI (ki := 4) dX3_refuseToken_2 fl_RX3_43 (by assumption) (by rfl) rfl ?_
  rw [ha]
  refine A_putI (ki := 2) dX3_refuseToken_5 fl_RX3_26 fi3_2 (by assumption) (by rfl) rfl (fun M5 e5 k5 => ?_)
  refine A_iconst dX3_refuseToken_8 (by decide) ?_
  exact A_zret hR dX3_refuseToken_9 rfl (by first | exact Or.inl rfl | exact Or.inr rfl | omega) ⟨_, rfl, rfl, e5⟩

set_option maxRecDepth 100000 in
set_option maxHeartbeats 4000000 in
theorem c_addFile {E : EN} {l : Launch} {M : Mem} {t : Nat} {a b s : Int} (hT : isTold E t) (h0 : 0 ≤ M t 2) (h1 : M t 2 < 6) : Cn E l mX6_addFile 0 [vR t, vI a, vI b, vI s] M (fun r M1 => r = vU ∧ M1 = upm (upm (upm (upm M (t + 5) (M t 2) a) (t + 6) (M t 2) b) (t + 7) (M t 2) s) t 2 (M t 2 + 1)) := by
  refine Cn.of (by decide) rfl (Nat.le_of_ble_eq_true rfl) 0 rfl (fun oka okm G hR => ?_)
  obtain ⟨b0, b1, b2, b3, b4, b5, b6, b7⟩ := id hT
  refine A_aload_n dX6_addFile_0 rfl ?_
  refine A_getI (ki := 2) dX6_addFile_1 fl_RX6_44 (by assumption) (by rfl) rfl ?_
  refine A_bipush dX6_addFile_4 bp_6 (by decide) ?_
  refine A_icmp_lt (tgt := 10) dX6_addFile_6 (by decide) (fun h6 => ?_) (fun h6 => ?_)
  · skip
    refine A_aload_n dX6_addFile_10 rfl ?_
    refine A_getR dX6_addFile_11 fl_RX6_24 (by assumption) (by rfl) ?_
    refine A_aload_n dX6_addFile_14 rfl ?_
    refine A_getI (ki := 2) dX6_addFile_15 fl_RX6_44 (by assumption) (by rfl) rfl ?_
    refine A_iload_n dX6_addFile_18 rfl ?_
    refine A_iast dX6_addFile_19 (by assumption) (by omega) (by omega) (fun M19 e19 k19 => ?_)
    refine A_aload_n dX6_addFile_20 rfl ?_
    refine A_getR dX6_addFile_21 fl_RX6_27 (by assumption) (by rfl) ?_
    refine A_aload_n dX6_addFile_24 rfl ?_
    refine A_getI (ki := 2) dX6_addFile_25 fl_RX6_44 (by assumption) (by rfl) rfl ?_
    rw [show M19 t 2 = M t 2 by rw [e19, upm_c (by omega)]]
    refine A_iload_n dX6_addFile_28 rfl ?_
    refine A_iast dX6_addFile_29 (by assumption) (by omega) (by omega) (fun M29 e29 k29 => ?_)
    refine A_aload_n dX6_addFile_30 rfl ?_
    refine A_getR dX6_addFile_31 fl_RX6_30 (by assumption) (by rfl) ?_
    refine A_aload_n dX6_addFile_34 rfl ?_
    refine A_getI (ki := 2) dX6_addFile_35 fl_RX6_44 (by assumption) (by rfl) rfl ?_
    rw [show M29 t 2 = M t 2 by rw [e29, upm_c (by omega), e19, upm_c (by omega)]]
    refine A_iload_n dX6_addFile_38 rfl ?_
    refine A_iast dX6_addFile_39 (by assumption) (by omega) (by omega) (fun M39 e39 k39 => ?_)
    refine A_aload_n dX6_addFile_40 rfl ?_
    refine A_dup dX6_addFile_41 rfl ?_
    refine A_getI (ki := 2) dX6_addFile_42 fl_RX6_44 (by assumption) (by rfl) rfl ?_
    rw [show M39 t 2 = M t 2 by rw [e39, upm_c (by omega), e29, upm_c (by omega), e19, upm_c (by omega)]]
    refine A_iconst dX6_addFile_45 (by decide) ?_
    refine A_iadd dX6_addFile_46 ⟨by omega, by omega⟩ ?_
    refine A_putI (ki := 2) dX6_addFile_47 fl_RX6_44 fi6_2 (by assumption) (by rfl) rfl (fun M47 e47 k47 => ?_)
    exact A_vret hR dX6_addFile_50 rfl ⟨rfl, by rw [e47, e39, e29, e19]⟩
  · skip
    exfalso; omega

