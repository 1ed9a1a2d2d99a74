/-! THE TEXT: the rest of a line -/
def rsP (M M1 : Mem) (m : Nat) (x : Fn) (n q : Nat) (w : Int) (D c : Nat) (z : Int) : Prop := frR M M1 m ∧ ((rsR x n q w D).1 ≠ -1 → z = 0 ∧ M1 m 15 = (rsR x n q w D).1) ∧ ((rsR x n q w D).1 = -1 → z = 1 ∧ hdM M1 m x n (rsR x n q w D).2.1 ∧ M1 (m + 4) (4 * c + 1) = (rsR x n q w D).2.2.1 ∧ (w = 5 ∨ w = 6 → M1 (m + 4) (4 * c + 2) = (rsR x n q w D).2.2.2.1 ∧ M1 (m + 4) (4 * c + 3) = (rsR x n q w D).2.2.2.2)) ∧ ∀ j : Int, j < 4 * c + 1 ∨ 4 * c + 3 < j → M1 (m + 4) j = M (m + 4) j
def rdP (M M1 : Mem) (m : Nat) (x : Fn) (n p c : Nat) (ix lo hi un z : Int) : Prop := (rdN x n p lo hi = -1 ∨ rdN x n p lo hi = un) ∧ z = 0 ∧ M1 = M ∨ (¬ (rdN x n p lo hi = -1 ∨ rdN x n p lo hi = un)) ∧ z = 1 ∧ frR M M1 m ∧ hdM M1 m x n (tkB x n p) ∧ ∀ j : Int, M1 (m + 4) j = if j = 4 * c + 1 + ix then rdN x n p lo hi else M (m + 4) j
theorem rs_1 {M M1 : Mem} {m n q D c : Nat} {x : Fn} {w lo hi z : Int} (hd : hdM M m x n q) (hw : ¬ (w = 5 ∨ w = 6)) (hlo : lo = if w = 0 then 2 else 0) (hhi : hi = if w = 0 then 8 else if w = 7 then 9 else if w = 8 then 99 else (D : Int) - 1) (h : rdP M M1 m x n q c 0 lo hi (-1) z) : rsP M M1 m x n q w D c z := by
  have e : rsR x n q w D = if rdN x n q lo hi = -1 then (((tkA x n q : Nat) : Int), (0 : Nat), (0 : Int), (0 : Int), (0 : Int)) else (-1, tkB x n q, rdN x n q lo hi, 0, 0) := by
    unfold rsR
    rw [if_neg hw, ← hlo, ← hhi]
  rcases h with ⟨h1, h2, h3⟩ | ⟨h1, h2, h3, h4, h5⟩
  · have h1 : rdN x n q lo hi = -1 := h1.elim id id
    rw [if_pos h1] at e
    subst h3
    unfold rsP
    rw [e]
    exact ⟨frR_r, fun _ => ⟨h2, hd.2.1⟩, fun z => by have z : ((tkA x n q : Nat) : Int) = -1 := z; omega, fun _ _ => rfl⟩
  · have h1 : ¬ rdN x n q lo hi = -1 := fun z => h1 (Or.inl z)
    rw [if_neg h1] at e
    unfold rsP
    rw [e]
    exact ⟨h3, fun z => absurd rfl z, fun _ => ⟨h2, h4, by rw [h5, if_pos (by omega)], fun z => absurd z hw⟩, fun j hj => by rw [h5, if_neg (by omega)]⟩
theorem rs_f1 {M : Mem} {m n q D c : Nat} {x : Fn} {w : Int} (hd : hdM M m x n q) (hw : w = 5 ∨ w = 6) (h1 : rdN x n q 0 (D - 1) = -1) : rsP M M m x n q w D c 0 := by
  unfold rsP rsR
  rw [if_pos hw, if_pos h1]
  exact ⟨frR_r, fun _ => ⟨rfl, hd.2.1⟩, fun z => by have z : ((tkA x n q : Nat) : Int) = -1 := z; omega, fun _ _ => rfl⟩
theorem rs_f2 {M M1 : Mem} {m n q D c : Nat} {x : Fn} {w : Int} (hf : frR M M1 m) (hd : hdM M1 m x n (tkB x n q)) (hw : w = 5 ∨ w = 6) (h1 : ¬ rdN x n q 0 (D - 1) = -1) (h2 : rdN x n (tkB x n q) 0 (D - 1) = -1 ∨ rdN x n (tkB x n q) 0 (D - 1) = rdN x n q 0 (D - 1)) (hr : ∀ j : Int, j < 4 * c + 1 ∨ 4 * c + 3 < j → M1 (m + 4) j = M (m + 4) j) : rsP M M1 m x n q w D c 0 := by
  unfold rsP rsR
  rw [if_pos hw, if_neg h1, if_pos h2]
  exact ⟨hf, fun _ => ⟨rfl, hd.2.1⟩, fun z => by have z : ((tkA x n (tkB x n q) : Nat) : Int) = -1 := z; omega, hr⟩
theorem rs_f3 {M M1 : Mem} {m n q D c : Nat} {x : Fn} {w hi : Int} (hf : frR M M1 m) (hd : hdM M1 m x n (tkB x n (tkB x n q))) (hw : w = 5 ∨ w = 6) (hh : hi = if w = 5 then 99 else 9) (h1 : ¬ rdN x n q 0 (D - 1) = -1) (h2 : ¬ (rdN x n (tkB x n q) 0 (D - 1) = -1 ∨ rdN x n (tkB x n q) 0 (D - 1) = rdN x n q 0 (D - 1))) (h3 : rdN x n (tkB x n (tkB x n q)) 0 hi = -1) (hr : ∀ j : Int, j < 4 * c + 1 ∨ 4 * c + 3 < j → M1 (m + 4) j = M (m + 4) j) : rsP M M1 m x n q w D c 0 := by
  unfold rsP rsR
  rw [if_pos hw, if_neg h1, if_neg h2, ← hh, if_pos h3]
  exact ⟨hf, fun _ => ⟨rfl, hd.2.1⟩, fun z => by have z : ((tkA x n (tkB x n (tkB x n q)) : Nat) : Int) = -1 := z; omega, hr⟩
theorem rs_ok {M M1 : Mem} {m n q D c : Nat} {x : Fn} {w hi : Int} (hf : frR M M1 m) (hd : hdM M1 m x n (tkB x n (tkB x n (tkB x n q)))) (hw : w = 5 ∨ w = 6) (hh : hi = if w = 5 then 99 else 9) (h1 : ¬ rdN x n q 0 (D - 1) = -1) (h2 : ¬ (rdN x n (tkB x n q) 0 (D - 1) = -1 ∨ rdN x n (tkB x n q) 0 (D - 1) = rdN x n q 0 (D - 1))) (h3 : ¬ rdN x n (tkB x n (tkB x n q)) 0 hi = -1) (hr : ∀ j : Int, j < 4 * c + 1 ∨ 4 * c + 3 < j → M1 (m + 4) j = M (m + 4) j) (r1 : M1 (m + 4) (4 * c + 1) = rdN x n q 0 (D - 1)) (r2 : M1 (m + 4) (4 * c + 2) = rdN x n (tkB x n q) 0 (D - 1)) (r3 : M1 (m + 4) (4 * c + 3) = rdN x n (tkB x n (tkB x n q)) 0 hi) : rsP M M1 m x n q w D c 1 := by
  unfold rsP rsR
  rw [if_pos hw, if_neg h1, if_neg h2, ← hh, if_neg h3]
  exact ⟨hf, fun z => absurd rfl z, fun _ => ⟨rfl, hd, r1, fun _ => ⟨r2, r3⟩⟩, hr⟩
set_option maxRecDepth 100000 in
set_option maxHeartbeats 4000000 in
theorem m_readsRest {E : EN} {l : Launch} {M : Mem} {m n q c D : Nat} {x : Fn} (hO : isMod E m) (hn2 : n ≤ 200) (hq2 : q ≤ n) (hby : ∀ k : Int, 0 ≤ k → k < n → 0 ≤ x k ∧ x k ≤ 255) (hx : txM M m n x) (hd : hdM M m x n q) (hc : M m 5 = c) (hc2 : c ≤ 11) {w : Int} (hD : M m 17 = D) (hD2 : 2 ≤ D ∧ D ≤ 8) : Cn E l mX8_readsRest 3 [vR m, vI w] M (fun r M1 => ∃ z, r = vI z ∧ rsP M M1 m x n q w D c z) := by
  refine Cn.of (by decide) rfl (Nat.le_of_ble_eq_true rfl) 1 rfl (fun oka okm G hR => ?_)
  obtain ⟨a0, a1, a2, a3, a4, a5, a6, a7, a8, a9, a10, a11, a12⟩ := id hO
  have tq := tk_r (x := x) hq2
  have tq1 := tk_r (x := x) (show tkB x n q ≤ n by omega)
  have tq2 := tk_r (x := x) (show tkB x n (tkB x n q) ≤ n by omega)
  refine A_aload_n dX8_readsRest_0 rfl ?_
  refine A_getI (ki := 17) dX8_readsRest_1 fl_RX8_118 (by assumption) (by rfl) rfl ?_
  rw [hD]
  refine A_iconst dX8_readsRest_4 (by decide) ?_
  refine A_isub dX8_readsRest_5 ⟨by omega, by omega⟩ ?_
  refine A_istore_n dX8_readsRest_6 (by decide) rfl ?_
  refine A_iload_n dX8_readsRest_7 rfl ?_
  rcases (show w = 0 ∨ w = 1 ∨ w = 2 ∨ w = 3 ∨ w = 4 ∨ w = 5 ∨ w = 6 ∨ w = 7 ∨ w = 8 ∨ (w < 0 ∨ 8 < w) by omega) with h8 | h8 | h8 | h8 | h8 | h8 | h8 | h8 | h8 | h8
  · refine A_tsIn (tgt := 60) dX8_readsRest_8 0 (by omega) (by omega) rfl (by decide) ?_
    refine A_aload_n dX8_readsRest_60 rfl ?_
    refine A_iconst dX8_readsRest_61 (by decide) ?_
    refine A_iconst dX8_readsRest_62 (by decide) ?_
    refine A_bipush dX8_readsRest_63 bp_8 (by decide) ?_
    refine A_iconst dX8_readsRest_65 (by decide) ?_
    refine A_vI4 (mj := mX8_reads) dX8_readsRest_66 hR.rm (by decide) ok_X8_reads mv_X8_reads ml_RX8_121 (by assumption) rfl rfl rfl (m_reads (un := -1) hO hn2 hq2 hby hx hd hc hc2 (by decide) (by decide) (by decide)) (fun z66 M66 g66 k66 q66 => ?_)
    have q66 : rdP M M66 m x n q c 0 _ _ (-1) z66 := q66
    exact A_zret hR dX8_readsRest_69 rfl (by first | exact Or.inl rfl | exact Or.inr rfl | omega) ⟨_, rfl, rs_1 hd (by omega) (by repeat (first | rw [if_pos (by omega)] | rw [if_neg (by omega)])) (by repeat (first | rw [if_pos (by omega)] | rw [if_neg (by omega)])) q66⟩
  · refine A_tsIn (tgt := 152) dX8_readsRest_8 1 (by omega) (by omega) rfl (by decide) ?_
    refine A_aload_n dX8_readsRest_152 rfl ?_
    refine A_iconst dX8_readsRest_153 (by decide) ?_
    refine A_iconst dX8_readsRest_154 (by decide) ?_
    refine A_iload_n dX8_readsRest_155 rfl ?_
    refine A_iconst dX8_readsRest_156 (by decide) ?_
    refine A_vI4 (mj := mX8_reads) dX8_readsRest_157 hR.rm (by decide) ok_X8_reads mv_X8_reads ml_RX8_121 (by assumption) rfl rfl rfl (m_reads (un := -1) hO hn2 hq2 hby hx hd hc hc2 (by decide) (by decide) (by decide)) (fun z157 M157 g157 k157 q157 => ?_)
    have q157 : rdP M M157 m x n q c 0 _ _ (-1) z157 := q157
    exact A_zret hR dX8_readsRest_160 rfl (by first | exact Or.inl rfl | exact Or.inr rfl | omega) ⟨_, rfl, rs_1 hd (by omega) (by repeat (first | rw [if_pos (by omega)] | rw [if_neg (by omega)])) (by repeat (first | rw [if_pos (by omega)] | rw [if_neg (by omega)])) q157⟩
  · refine A_tsIn (tgt := 152) dX8_readsRest_8 2 (by omega) (by omega) rfl (by decide) ?_
    refine A_aload_n dX8_readsRest_152 rfl ?_
    refine A_iconst dX8_readsRest_153 (by decide) ?_
    refine A_iconst dX8_readsRest_154 (by decide) ?_
    refine A_iload_n dX8_readsRest_155 rfl ?_
    refine A_iconst dX8_readsRest_156 (by decide) ?_
    refine A_vI4 (mj := mX8_reads) dX8_readsRest_157 hR.rm (by decide) ok_X8_reads mv_X8_reads ml_RX8_121 (by assumption) rfl rfl rfl (m_reads (un := -1) hO hn2 hq2 hby hx hd hc hc2 (by decide) (by decide) (by decide)) (fun z157 M157 g157 k157 q157 => ?_)
    have q157 : rdP M M157 m x n q c 0 _ _ (-1) z157 := q157
    exact A_zret hR dX8_readsRest_160 rfl (by first | exact Or.inl rfl | exact Or.inr rfl | omega) ⟨_, rfl, rs_1 hd (by omega) (by repeat (first | rw [if_pos (by omega)] | rw [if_neg (by omega)])) (by repeat (first | rw [if_pos (by omega)] | rw [if_neg (by omega)])) q157⟩
  · refine A_tsIn (tgt := 152) dX8_readsRest_8 3 (by omega) (by omega) rfl (by decide) ?_
    refine A_aload_n dX8_readsRest_152 rfl ?_
    refine A_iconst dX8_readsRest_153 (by decide) ?_
    refine A_iconst dX8_readsRest_154 (by decide) ?_
    refine A_iload_n dX8_readsRest_155 rfl ?_
    refine A_iconst dX8_readsRest_156 (by decide) ?_
    refine A_vI4 (mj := mX8_reads) dX8_readsRest_157 hR.rm (by decide) ok_X8_reads mv_X8_reads ml_RX8_121 (by assumption) rfl rfl rfl (m_reads (un := -1) hO hn2 hq2 hby hx hd hc hc2 (by decide) (by decide) (by decide)) (fun z157 M157 g157 k157 q157 => ?_)
    have q157 : rdP M M157 m x n q c 0 _ _ (-1) z157 := q157
    exact A_zret hR dX8_readsRest_160 rfl (by first | exact Or.inl rfl | exact Or.inr rfl | omega) ⟨_, rfl, rs_1 hd (by omega) (by repeat (first | rw [if_pos (by omega)] | rw [if_neg (by omega)])) (by repeat (first | rw [if_pos (by omega)] | rw [if_neg (by omega)])) q157⟩
  · refine A_tsIn (tgt := 152) dX8_readsRest_8 4 (by omega) (by omega) rfl (by decide) ?_
    refine A_aload_n dX8_readsRest_152 rfl ?_
    refine A_iconst dX8_readsRest_153 (by decide) ?_
    refine A_iconst dX8_readsRest_154 (by decide) ?_
    refine A_iload_n dX8_readsRest_155 rfl ?_
    refine A_iconst dX8_readsRest_156 (by decide) ?_
    refine A_vI4 (mj := mX8_reads) dX8_readsRest_157 hR.rm (by decide) ok_X8_reads mv_X8_reads ml_RX8_121 (by assumption) rfl rfl rfl (m_reads (un := -1) hO hn2 hq2 hby hx hd hc hc2 (by decide) (by decide) (by decide)) (fun z157 M157 g157 k157 q157 => ?_)
    have q157 : rdP M M157 m x n q c 0 _ _ (-1) z157 := q157
    exact A_zret hR dX8_readsRest_160 rfl (by first | exact Or.inl rfl | exact Or.inr rfl | omega) ⟨_, rfl, rs_1 hd (by omega) (by repeat (first | rw [if_pos (by omega)] | rw [if_neg (by omega)])) (by repeat (first | rw [if_pos (by omega)] | rw [if_neg (by omega)])) q157⟩
  · refine A_tsIn (tgt := 70) dX8_readsRest_8 5 (by omega) (by omega) rfl (by decide) ?_
    refine A_aload_n dX8_readsRest_70 rfl ?_
    refine A_iconst dX8_readsRest_71 (by decide) ?_
    refine A_iconst dX8_readsRest_72 (by decide) ?_
    refine A_iload_n dX8_readsRest_73 rfl ?_
    refine A_iconst dX8_readsRest_74 (by decide) ?_
    refine A_vI4 (mj := mX8_reads) dX8_readsRest_75 hR.rm (by decide) ok_X8_reads mv_X8_reads ml_RX8_121 (by assumption) rfl rfl rfl (m_reads (un := -1) hO hn2 hq2 hby hx hd hc hc2 (by decide) (by decide) (by decide)) (fun z75 M75 g75 k75 q75 => ?_)
    obtain ⟨u1, u2, u3⟩ | ⟨u1, u2, u3, u4, u5⟩ := q75
    · subst u3
      rw [u2]
      refine A_if_eq (tgt := 130) dX8_readsRest_78 (by decide) (fun h78 => ?_) (fun h78 => absurd rfl h78)
      refine A_iconst dX8_readsRest_130 (by decide) ?_
      exact A_zret hR dX8_readsRest_131 rfl (by first | exact Or.inl rfl | exact Or.inr rfl | omega) ⟨_, rfl, rs_f1 hd (by omega) (u1.elim id id)⟩
    rw [u2]
    have u1 : ¬ rdN x n q 0 ((D : Int) - 1) = -1 := fun z => u1 (Or.inl z)
    have c75 : M75 m 5 = c := by rw [u3.2 5 (by omega) (by omega) (by omega)]; exact hc
    have hx75 := txM_f hx u3
    refine A_if_eq (tgt := 130) dX8_readsRest_78 (by decide) (fun h78 => ?_) (fun h78 => ?_)
    · skip
      exact absurd h78 (by decide)
    · skip
      refine A_aload_n dX8_readsRest_81 rfl ?_
      refine A_iconst dX8_readsRest_82 (by decide) ?_
      refine A_iconst dX8_readsRest_83 (by decide) ?_
      refine A_iload_n dX8_readsRest_84 rfl ?_
      refine A_aload_n dX8_readsRest_85 rfl ?_
      refine A_getR dX8_readsRest_86 fl_RX8_20 (by assumption) (by rfl) ?_
      refine A_iconst dX8_readsRest_89 (by decide) ?_
      refine A_aload_n dX8_readsRest_90 rfl ?_
      refine A_getI (ki := 5) dX8_readsRest_91 fl_RX8_112 (by assumption) (by rfl) rfl ?_
      rw [c75]
      refine A_imul dX8_readsRest_94 ⟨by omega, by omega⟩ ?_
      refine A_iconst dX8_readsRest_95 (by decide) ?_
      refine A_iadd dX8_readsRest_96 ⟨by omega, by omega⟩ ?_
      refine A_iald dX8_readsRest_97 (by assumption) (by omega) (by omega) ?_
      rw [show M75 (m + 4) (4 * c + 1) = rdN x n q 0 ((D : Int) - 1) by rw [u5, if_pos (by omega)]]
      refine A_vI4 (mj := mX8_reads) dX8_readsRest_98 hR.rm (by decide) ok_X8_reads mv_X8_reads ml_RX8_121 (by assumption) rfl rfl rfl (m_reads (p := tkB x n q) hO hn2 (by omega) hby hx75 u4 c75 hc2 (by decide) (by decide) (by decide)) (fun z98 M98 g98 k98 q98 => ?_)
      obtain ⟨v1, v2, v3⟩ | ⟨v1, v2, v3, v4, v5⟩ := q98
      · subst v3
        rw [v2]
        refine A_if_eq (tgt := 130) dX8_readsRest_101 (by decide) (fun h101 => ?_) (fun h101 => absurd rfl h101)
        refine A_iconst dX8_readsRest_130 (by decide) ?_
        exact A_zret hR dX8_readsRest_131 rfl (by first | exact Or.inl rfl | exact Or.inr rfl | omega) ⟨_, rfl, rs_f2 u3 u4 (by omega) u1 v1 (fun j hj => by rw [u5, if_neg (by omega)])⟩
      rw [v2]
      have c98 : M98 m 5 = c := by rw [v3.2 5 (by omega) (by omega) (by omega)]; exact c75
      have hx98 := txM_f hx75 v3
      have f98 := frR_t u3 v3
      refine A_if_eq (tgt := 130) dX8_readsRest_101 (by decide) (fun h101 => ?_) (fun h101 => ?_)
      · skip
        exact absurd h101 (by decide)
      · skip
        have j119 : ∀ hi : Int, (hi = if w = 5 then 99 else 9) → AW E mX8_readsRest G 0 0 119 [vR m, vI w, vI ((D : Int) - 1)] [vI hi, vI 0, vI 2, vR m] M98 := by
          intro hi hhi
          refine A_iconst dX8_readsRest_119 (by decide) ?_
          refine A_vI4 (mj := mX8_reads) dX8_readsRest_120 hR.rm (by decide) ok_X8_reads mv_X8_reads ml_RX8_121 (by assumption) rfl rfl rfl (m_reads (p := tkB x n (tkB x n q)) (un := -1) hO hn2 (by omega) hby hx98 v4 c98 hc2 (by decide) (by decide) (by decide)) (fun z120 M120 g120 k120 q120 => ?_)
          obtain ⟨t1, t2, t3⟩ | ⟨t1, t2, t3, t4, t5⟩ := q120
          · subst t3
            rw [t2]
            refine A_if_eq (tgt := 130) dX8_readsRest_123 (by decide) (fun h123 => ?_) (fun h123 => absurd rfl h123)
            refine A_iconst dX8_readsRest_130 (by decide) ?_
            exact A_zret hR dX8_readsRest_131 rfl (by first | exact Or.inl rfl | exact Or.inr rfl | omega) ⟨_, rfl, rs_f3 f98 v4 (by omega) hhi u1 v1 (t1.elim id id) (fun j hj => by rw [v5, if_neg (by omega), u5, if_neg (by omega)])⟩
          rw [t2]
          refine A_if_eq (tgt := 130) dX8_readsRest_123 (by decide) (fun h123 => ?_) (fun h123 => ?_)
          · skip
            exact absurd h123 (by decide)
          · skip
            refine A_iconst dX8_readsRest_126 (by decide) ?_
            refine A_goto (tgt := 131) dX8_readsRest_127 (by decide) ?_
            exact A_zret hR dX8_readsRest_131 rfl (by first | exact Or.inl rfl | exact Or.inr rfl | omega) ⟨_, rfl, rs_ok (frR_t f98 t3) t4 (by omega) hhi u1 v1 (fun z => t1 (Or.inl z)) (fun j hj => by rw [t5, if_neg (by omega), v5, if_neg (by omega), u5, if_neg (by omega)]) (by rw [t5, if_neg (by omega), v5, if_neg (by omega), u5, if_pos (by omega)]) (by rw [t5, if_neg (by omega), v5, if_pos (by omega)]) (by rw [t5, if_pos (by omega)])⟩
        refine A_aload_n dX8_readsRest_104 rfl ?_
        refine A_iconst dX8_readsRest_105 (by decide) ?_
        refine A_iconst dX8_readsRest_106 (by decide) ?_
        refine A_iload_n dX8_readsRest_107 rfl ?_
        refine A_iconst dX8_readsRest_108 (by decide) ?_
        refine A_icmp_ne (tgt := 117) dX8_readsRest_109 (by decide) (fun h109 => ?_) (fun h109 => ?_)
        · skip
          refine A_bipush dX8_readsRest_117 bp_9 (by decide) ?_
          first | exact j119 99 (by rw [if_pos (by omega)]) | exact j119 9 (by rw [if_neg (by omega)])
        · skip
          refine A_bipush dX8_readsRest_112 bp_99 (by decide) ?_
          refine A_goto (tgt := 119) dX8_readsRest_114 (by decide) ?_
          first | exact j119 99 (by rw [if_pos (by omega)]) | exact j119 9 (by rw [if_neg (by omega)])
  · refine A_tsIn (tgt := 70) dX8_readsRest_8 6 (by omega) (by omega) rfl (by decide) ?_
    refine A_aload_n dX8_readsRest_70 rfl ?_
    refine A_iconst dX8_readsRest_71 (by decide) ?_
    refine A_iconst dX8_readsRest_72 (by decide) ?_
    refine A_iload_n dX8_readsRest_73 rfl ?_
    refine A_iconst dX8_readsRest_74 (by decide) ?_
    refine A_vI4 (mj := mX8_reads) dX8_readsRest_75 hR.rm (by decide) ok_X8_reads mv_X8_reads ml_RX8_121 (by assumption) rfl rfl rfl (m_reads (un := -1) hO hn2 hq2 hby hx hd hc hc2 (by decide) (by decide) (by decide)) (fun z75 M75 g75 k75 q75 => ?_)
    obtain ⟨u1, u2, u3⟩ | ⟨u1, u2, u3, u4, u5⟩ := q75
    · subst u3
      rw [u2]
      refine A_if_eq (tgt := 130) dX8_readsRest_78 (by decide) (fun h78 => ?_) (fun h78 => absurd rfl h78)
      refine A_iconst dX8_readsRest_130 (by decide) ?_
      exact A_zret hR dX8_readsRest_131 rfl (by first | exact Or.inl rfl | exact Or.inr rfl | omega) ⟨_, rfl, rs_f1 hd (by omega) (u1.elim id id)⟩
    rw [u2]
    have u1 : ¬ rdN x n q 0 ((D : Int) - 1) = -1 := fun z => u1 (Or.inl z)
    have c75 : M75 m 5 = c := by rw [u3.2 5 (by omega) (by omega) (by omega)]; exact hc
    have hx75 := txM_f hx u3
    refine A_if_eq (tgt := 130) dX8_readsRest_78 (by decide) (fun h78 => ?_) (fun h78 => ?_)
    · skip
      exact absurd h78 (by decide)
    · skip
      refine A_aload_n dX8_readsRest_81 rfl ?_
      refine A_iconst dX8_readsRest_82 (by decide) ?_
      refine A_iconst dX8_readsRest_83 (by decide) ?_
      refine A_iload_n dX8_readsRest_84 rfl ?_
      refine A_aload_n dX8_readsRest_85 rfl ?_
      refine A_getR dX8_readsRest_86 fl_RX8_20 (by assumption) (by rfl) ?_
      refine A_iconst dX8_readsRest_89 (by decide) ?_
      refine A_aload_n dX8_readsRest_90 rfl ?_
      refine A_getI (ki := 5) dX8_readsRest_91 fl_RX8_112 (by assumption) (by rfl) rfl ?_
      rw [c75]
      refine A_imul dX8_readsRest_94 ⟨by omega, by omega⟩ ?_
      refine A_iconst dX8_readsRest_95 (by decide) ?_
      refine A_iadd dX8_readsRest_96 ⟨by omega, by omega⟩ ?_
      refine A_iald dX8_readsRest_97 (by assumption) (by omega) (by omega) ?_
      rw [show M75 (m + 4) (4 * c + 1) = rdN x n q 0 ((D : Int) - 1) by rw [u5, if_pos (by omega)]]
      refine A_vI4 (mj := mX8_reads) dX8_readsRest_98 hR.rm (by decide) ok_X8_reads mv_X8_reads ml_RX8_121 (by assumption) rfl rfl rfl (m_reads (p := tkB x n q) hO hn2 (by omega) hby hx75 u4 c75 hc2 (by decide) (by decide) (by decide)) (fun z98 M98 g98 k98 q98 => ?_)
      obtain ⟨v1, v2, v3⟩ | ⟨v1, v2, v3, v4, v5⟩ := q98
      · subst v3
        rw [v2]
        refine A_if_eq (tgt := 130) dX8_readsRest_101 (by decide) (fun h101 => ?_) (fun h101 => absurd rfl h101)
        refine A_iconst dX8_readsRest_130 (by decide) ?_
        exact A_zret hR dX8_readsRest_131 rfl (by first | exact Or.inl rfl | exact Or.inr rfl | omega) ⟨_, rfl, rs_f2 u3 u4 (by omega) u1 v1 (fun j hj => by rw [u5, if_neg (by omega)])⟩
      rw [v2]
      have c98 : M98 m 5 = c := by rw [v3.2 5 (by omega) (by omega) (by omega)]; exact c75
      have hx98 := txM_f hx75 v3
      have f98 := frR_t u3 v3
      refine A_if_eq (tgt := 130) dX8_readsRest_101 (by decide) (fun h101 => ?_) (fun h101 => ?_)
      · skip
        exact absurd h101 (by decide)
      · skip
        have j119 : ∀ hi : Int, (hi = if w = 5 then 99 else 9) → AW E mX8_readsRest G 0 0 119 [vR m, vI w, vI ((D : Int) - 1)] [vI hi, vI 0, vI 2, vR m] M98 := by
          intro hi hhi
          refine A_iconst dX8_readsRest_119 (by decide) ?_
          refine A_vI4 (mj := mX8_reads) dX8_readsRest_120 hR.rm (by decide) ok_X8_reads mv_X8_reads ml_RX8_121 (by assumption) rfl rfl rfl (m_reads (p := tkB x n (tkB x n q)) (un := -1) hO hn2 (by omega) hby hx98 v4 c98 hc2 (by decide) (by decide) (by decide)) (fun z120 M120 g120 k120 q120 => ?_)
          obtain ⟨t1, t2, t3⟩ | ⟨t1, t2, t3, t4, t5⟩ := q120
          · subst t3
            rw [t2]
            refine A_if_eq (tgt := 130) dX8_readsRest_123 (by decide) (fun h123 => ?_) (fun h123 => absurd rfl h123)
            refine A_iconst dX8_readsRest_130 (by decide) ?_
            exact A_zret hR dX8_readsRest_131 rfl (by first | exact Or.inl rfl | exact Or.inr rfl | omega) ⟨_, rfl, rs_f3 f98 v4 (by omega) hhi u1 v1 (t1.elim id id) (fun j hj => by rw [v5, if_neg (by omega), u5, if_neg (by omega)])⟩
          rw [t2]
          refine A_if_eq (tgt := 130) dX8_readsRest_123 (by decide) (fun h123 => ?_) (fun h123 => ?_)
          · skip
            exact absurd h123 (by decide)
          · skip
            refine A_iconst dX8_readsRest_126 (by decide) ?_
            refine A_goto (tgt := 131) dX8_readsRest_127 (by decide) ?_
            exact A_zret hR dX8_readsRest_131 rfl (by first | exact Or.inl rfl | exact Or.inr rfl | omega) ⟨_, rfl, rs_ok (frR_t f98 t3) t4 (by omega) hhi u1 v1 (fun z => t1 (Or.inl z)) (fun j hj => by rw [t5, if_neg (by omega), v5, if_neg (by omega), u5, if_neg (by omega)]) (by rw [t5, if_neg (by omega), v5, if_neg (by omega), u5, if_pos (by omega)]) (by rw [t5, if_neg (by omega), v5, if_pos (by omega)]) (by rw [t5, if_pos (by omega)])⟩
        refine A_aload_n dX8_readsRest_104 rfl ?_
        refine A_iconst dX8_readsRest_105 (by decide) ?_
        refine A_iconst dX8_readsRest_106 (by decide) ?_
        refine A_iload_n dX8_readsRest_107 rfl ?_
        refine A_iconst dX8_readsRest_108 (by decide) ?_
        refine A_icmp_ne (tgt := 117) dX8_readsRest_109 (by decide) (fun h109 => ?_) (fun h109 => ?_)
        · skip
          refine A_bipush dX8_readsRest_117 bp_9 (by decide) ?_
          first | exact j119 99 (by rw [if_pos (by omega)]) | exact j119 9 (by rw [if_neg (by omega)])
        · skip
          refine A_bipush dX8_readsRest_112 bp_99 (by decide) ?_
          refine A_goto (tgt := 119) dX8_readsRest_114 (by decide) ?_
          first | exact j119 99 (by rw [if_pos (by omega)]) | exact j119 9 (by rw [if_neg (by omega)])
  · refine A_tsIn (tgt := 132) dX8_readsRest_8 7 (by omega) (by omega) rfl (by decide) ?_
    refine A_aload_n dX8_readsRest_132 rfl ?_
    refine A_iconst dX8_readsRest_133 (by decide) ?_
    refine A_iconst dX8_readsRest_134 (by decide) ?_
    refine A_bipush dX8_readsRest_135 bp_9 (by decide) ?_
    refine A_iconst dX8_readsRest_137 (by decide) ?_
    refine A_vI4 (mj := mX8_reads) dX8_readsRest_138 hR.rm (by decide) ok_X8_reads mv_X8_reads ml_RX8_121 (by assumption) rfl rfl rfl (m_reads (un := -1) hO hn2 hq2 hby hx hd hc hc2 (by decide) (by decide) (by decide)) (fun z138 M138 g138 k138 q138 => ?_)
    have q138 : rdP M M138 m x n q c 0 _ _ (-1) z138 := q138
    exact A_zret hR dX8_readsRest_141 rfl (by first | exact Or.inl rfl | exact Or.inr rfl | omega) ⟨_, rfl, rs_1 hd (by omega) (by repeat (first | rw [if_pos (by omega)] | rw [if_neg (by omega)])) (by repeat (first | rw [if_pos (by omega)] | rw [if_neg (by omega)])) q138⟩
  · refine A_tsIn (tgt := 142) dX8_readsRest_8 8 (by omega) (by omega) rfl (by decide) ?_
    refine A_aload_n dX8_readsRest_142 rfl ?_
    refine A_iconst dX8_readsRest_143 (by decide) ?_
    refine A_iconst dX8_readsRest_144 (by decide) ?_
    refine A_bipush dX8_readsRest_145 bp_99 (by decide) ?_
    refine A_iconst dX8_readsRest_147 (by decide) ?_
    refine A_vI4 (mj := mX8_reads) dX8_readsRest_148 hR.rm (by decide) ok_X8_reads mv_X8_reads ml_RX8_121 (by assumption) rfl rfl rfl (m_reads (un := -1) hO hn2 hq2 hby hx hd hc hc2 (by decide) (by decide) (by decide)) (fun z148 M148 g148 k148 q148 => ?_)
    have q148 : rdP M M148 m x n q c 0 _ _ (-1) z148 := q148
    exact A_zret hR dX8_readsRest_151 rfl (by first | exact Or.inl rfl | exact Or.inr rfl | omega) ⟨_, rfl, rs_1 hd (by omega) (by repeat (first | rw [if_pos (by omega)] | rw [if_neg (by omega)])) (by repeat (first | rw [if_pos (by omega)] | rw [if_neg (by omega)])) q148⟩
  · refine A_tsOut (tgt := 152) dX8_readsRest_8 (by omega) (by decide) ?_
    refine A_aload_n dX8_readsRest_152 rfl ?_
    refine A_iconst dX8_readsRest_153 (by decide) ?_
    refine A_iconst dX8_readsRest_154 (by decide) ?_
    refine A_iload_n dX8_readsRest_155 rfl ?_
    refine A_iconst dX8_readsRest_156 (by decide) ?_
    refine A_vI4 (mj := mX8_reads) dX8_readsRest_157 hR.rm (by decide) ok_X8_reads mv_X8_reads ml_RX8_121 (by assumption) rfl rfl rfl (m_reads (un := -1) hO hn2 hq2 hby hx hd hc hc2 (by decide) (by decide) (by decide)) (fun z157 M157 g157 k157 q157 => ?_)
    have q157 : rdP M M157 m x n q c 0 _ _ (-1) z157 := q157
    exact A_zret hR dX8_readsRest_160 rfl (by first | exact Or.inl rfl | exact Or.inr rfl | omega) ⟨_, rfl, rs_1 hd (by omega) (by repeat (first | rw [if_pos (by omega)] | rw [if_neg (by omega)])) (by repeat (first | rw [if_pos (by omega)] | rw [if_neg (by omega)])) q157⟩

