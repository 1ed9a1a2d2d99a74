/-! THE TEXT: a line, of the Model -/
def apL (w v1 v2 v3 : Int) (T : TD) : TD :=
  if w = 0 then (v1.toNat, 0, 0, 1, 0, fun _ => 0, oA T, oB T, oS T, oSt T, oE T, oSw T)
  else if w = 5 then (oD T, oT T + 1, oF T, oFa T, oW T, oK T, fun k => if k = oT T then v1 else oA T k, fun k => if k = oT T then v2 else oB T k, fun k => if k = oT T then v3 else oS T k, oSt T, oE T, oSw T)
  else if w = 6 then (oD T, oT T, oF T + 1, oFa T, oW T, oK T, oA T, oB T, oS T, fun k => if k = oF T then v1 else oSt T k, fun k => if k = oF T then v2 else oE T k, fun k => if k = oF T then v3 else oSw T k)
  else if w = 7 then (oD T, oT T, oF T, v1, oW T, oK T, oA T, oB T, oS T, oSt T, oE T, oSw T)
  else if w = 8 then (oD T, oT T, oF T, oFa T, v1, oK T, oA T, oB T, oS T, oSt T, oE T, oSw T)
  else (oD T, oT T, oF T, oFa T, oW T, fun k => if k = v1 then w - 1 else oK T k, oA T, oB T, oS T, oSt T, oE T, oSw T)
theorem apL_n (w v1 v2 v3 : Int) (T : TD) : oD (apL w v1 v2 v3 T) = (if w = 0 then v1.toNat else oD T) ∧ oT (apL w v1 v2 v3 T) = (if w = 0 then 0 else if w = 5 then oT T + 1 else oT T) ∧ oF (apL w v1 v2 v3 T) = (if w = 0 then 0 else if w = 6 then oF T + 1 else oF T) := by
  unfold apL
  by_cases h0 : w = 0
  · rw [if_pos h0, if_pos h0, if_pos h0, if_pos h0]; exact ⟨rfl, rfl, rfl⟩
  · rw [if_neg h0, if_neg h0, if_neg h0, if_neg h0]
    by_cases h5 : w = 5
    · rw [if_pos h5, if_pos h5, if_neg (by omega)]; exact ⟨rfl, rfl, rfl⟩
    · rw [if_neg h5, if_neg h5]
      by_cases h6 : w = 6
      · rw [if_pos h6, if_pos h6]; exact ⟨rfl, rfl, rfl⟩
      · rw [if_neg h6, if_neg h6]
        by_cases h7 : w = 7
        · rw [if_pos h7]; exact ⟨rfl, rfl, rfl⟩
        · rw [if_neg h7]
          by_cases h8 : w = 8
          · rw [if_pos h8]; exact ⟨rfl, rfl, rfl⟩
          · rw [if_neg h8]; exact ⟨rfl, rfl, rfl⟩
theorem rs_v {x : Fn} {n q : Nat} {w : Int} {D : Nat} (h : (rsR x n q w D).1 = -1) : (w = 0 → 2 ≤ (rsR x n q w D).2.2.1 ∧ (rsR x n q w D).2.2.1 ≤ 8) ∧ (w = 5 ∨ w = 6 → (0 ≤ (rsR x n q w D).2.2.1 ∧ (rsR x n q w D).2.2.1 ≤ (D : Int) - 1) ∧ (0 ≤ (rsR x n q w D).2.2.2.1 ∧ (rsR x n q w D).2.2.2.1 ≤ (D : Int) - 1) ∧ (rsR x n q w D).2.2.2.1 ≠ (rsR x n q w D).2.2.1 ∧ 0 ≤ (rsR x n q w D).2.2.2.2 ∧ (rsR x n q w D).2.2.2.2 ≤ if w = 5 then 99 else 9) ∧ (w = 7 → 0 ≤ (rsR x n q w D).2.2.1 ∧ (rsR x n q w D).2.2.1 ≤ 9) ∧ (w = 8 → 0 ≤ (rsR x n q w D).2.2.1 ∧ (rsR x n q w D).2.2.1 ≤ 99) ∧ (w ≠ 0 → w ≠ 5 → w ≠ 6 → w ≠ 7 → w ≠ 8 → 0 ≤ (rsR x n q w D).2.2.1 ∧ (rsR x n q w D).2.2.1 ≤ (D : Int) - 1) := by
  by_cases hw : w = 5 ∨ w = 6
  · refine ⟨fun z => by omega, fun _ => ?_, fun z => by omega, fun z => by omega, fun _ z z' => by omega⟩
    have r1 := rdN_r x n q (lo := 0) (hi := (D : Int) - 1) (by decide)
    have r2 := rdN_r x n (tkB x n q) (lo := 0) (hi := (D : Int) - 1) (by decide)
    have r3 := rdN_r x n (tkB x n (tkB x n q)) (lo := 0) (hi := if w = 5 then 99 else 9) (by decide)
    unfold rsR at h ⊢
    rw [if_pos hw] at h ⊢
    by_cases h1 : rdN x n q 0 ((D : Int) - 1) = -1
    · rw [if_pos h1] at h
      have h : ((tkA x n q : Nat) : Int) = -1 := h
      omega
    · rw [if_neg h1] at h ⊢
      by_cases h2 : rdN x n (tkB x n q) 0 ((D : Int) - 1) = -1 ∨ rdN x n (tkB x n q) 0 ((D : Int) - 1) = rdN x n q 0 ((D : Int) - 1)
      · rw [if_pos h2] at h
        have h : ((tkA x n (tkB x n q) : Nat) : Int) = -1 := h
        omega
      · rw [if_neg h2] at h ⊢
        by_cases h3 : rdN x n (tkB x n (tkB x n q)) 0 (if w = 5 then 99 else 9) = -1
        · rw [if_pos h3] at h
          have h : ((tkA x n (tkB x n (tkB x n q)) : Nat) : Int) = -1 := h
          omega
        · rw [if_neg h3]
          exact ⟨r1.resolve_left h1, r2.resolve_left (fun z => h2 (Or.inl z)), fun z => h2 (Or.inr z), (r3.resolve_left h3).1, (r3.resolve_left h3).2⟩
  · have r := rdN_r x n q (lo := if w = 0 then 2 else 0) (hi := if w = 0 then 8 else if w = 7 then 9 else if w = 8 then 99 else (D : Int) - 1) (by split <;> decide)
    unfold rsR at h ⊢
    rw [if_neg hw] at h ⊢
    by_cases h1 : rdN x n q (if w = 0 then 2 else 0) (if w = 0 then 8 else if w = 7 then 9 else if w = 8 then 99 else (D : Int) - 1) = -1
    · rw [if_pos h1] at h
      have h : ((tkA x n q : Nat) : Int) = -1 := h
      omega
    · rw [if_neg h1]
      have r := r.resolve_left h1
      refine ⟨fun z => ?_, fun z => absurd z hw, fun z => ?_, fun z => ?_, fun a _ _ b c => ?_⟩
      · rw [if_pos z, if_pos z] at r ⊢; exact r
      · rw [if_neg (by omega), if_neg (by omega), if_pos z] at r ⊢; exact r
      · rw [if_neg (by omega), if_neg (by omega), if_neg (by omega), if_pos z] at r ⊢; exact r
      · rw [if_neg a, if_neg a, if_neg b, if_neg c] at r ⊢; exact r
noncomputable def lnR (x : Fn) (n p : Nat) (T : TD) : Int × Nat × Int × Int × Int × Int :=
  if wdN x (tkA x n p) (tkB x n p) = -1 ∨ (wdN x (tkA x n p) (tkB x n p) = 5 ∧ oT T = 12) ∨ (wdN x (tkA x n p) (tkB x n p) = 6 ∧ oF T = 6) then ((tkA x n p : Nat), 0, 0, 0, 0, 0)
  else ((rsR x n (tkB x n p) (wdN x (tkA x n p) (tkB x n p)) (oD T)).1, (rsR x n (tkB x n p) (wdN x (tkA x n p) (tkB x n p)) (oD T)).2.1, wdN x (tkA x n p) (tkB x n p), (rsR x n (tkB x n p) (wdN x (tkA x n p) (tkB x n p)) (oD T)).2.2)
abbrev lnT (L : Int × Nat × Int × Int × Int × Int) (T : TD) : TD := apL L.2.2.1 L.2.2.2.1 L.2.2.2.2.1 L.2.2.2.2.2 T
/-- what is told so far while the Model reads -/
def rdC (M : Mem) (m : Nat) (T : TD) : Prop := M m 17 = oD T ∧ M m 18 = oT T ∧ M m 19 = oF T
def frL (M M1 : Mem) (m : Nat) : Prop := (∀ y, y ≠ m → y ≠ m + 4 → M1 y = M y) ∧ ∀ k : Int, k ≠ 5 → k < 14 ∨ 19 < k → M1 m k = M m k
theorem frL_t {M M1 M2 : Mem} {m : Nat} (h1 : frL M M1 m) (h2 : frL M1 M2 m) : frL M M2 m := ⟨fun y a b => (h2.1 y a b).trans (h1.1 y a b), fun k a b => (h2.2 k a b).trans (h1.2 k a b)⟩
def lnP (M M1 : Mem) (m : Nat) (x : Fn) (n p : Nat) (T : TD) (c : Nat) (z : Int) : Prop := frL M M1 m ∧ ((lnR x n p T).1 ≠ -1 → z = 0 ∧ M1 m 15 = (lnR x n p T).1) ∧ ((lnR x n p T).1 = -1 → z = 1 ∧ hdM M1 m x n (lnR x n p T).2.1 ∧ rdC M1 m (lnT (lnR x n p T) T) ∧ M1 m 5 = c + 1 ∧ (M1 (m + 4) (4 * c) = (lnR x n p T).2.2.1 ∧ M1 (m + 4) (4 * c + 1) = (lnR x n p T).2.2.2.1 ∧ ((lnR x n p T).2.2.1 = 5 ∨ (lnR x n p T).2.2.1 = 6 → M1 (m + 4) (4 * c + 2) = (lnR x n p T).2.2.2.2.1 ∧ M1 (m + 4) (4 * c + 3) = (lnR x n p T).2.2.2.2.2)) ∧ ∀ j : Int, j < 4 * c → M1 (m + 4) j = M (m + 4) j)
set_option maxRecDepth 100000 in
set_option maxHeartbeats 4000000 in
theorem m_readsLine {E : EN} {l : Launch} {M : Mem} {m n p c : Nat} {x : Fn} {T : TD} (hO : isMod E m) (hn2 : n ≤ 200) (hp2 : p ≤ n) (hby : ∀ k : Int, 0 ≤ k → k < n → 0 ≤ x k ∧ x k ≤ 255) (hx : txM M m n x) (hd : hdM M m x n p) (hc : M m 5 = c) (hc2 : c ≤ 11) (hT : rdC M m T) (hD2 : 2 ≤ oD T ∧ oD T ≤ 8) (hT2 : oT T ≤ 12 ∧ oF T ≤ 6) : Cn E l mX8_readsLine 4 [vR m] M (fun r M1 => ∃ z, r = vI z ∧ lnP M M1 m x n p T c z) := by
  refine Cn.of (by decide) rfl (Nat.le_of_ble_eq_true rfl) 1 rfl (fun oka okm G hR => ?_)
  obtain ⟨a0, a1, a2, a3, a4, a5, a6, a7, a8, a9, a10, a11, a12⟩ := id hO
  have tr := tk_r (x := x) hp2
  obtain ⟨x3, xt⟩ := id hx
  obtain ⟨d14, d15, d16⟩ := id hd
  obtain ⟨t17, t18, t19⟩ := id hT
  obtain ⟨w, hwd⟩ : ∃ w, w = wdN x (tkA x n p) (tkB x n p) := ⟨_, rfl⟩
  have eL0 : (w = -1 ∨ (w = 5 ∧ oT T = 12) ∨ (w = 6 ∧ oF T = 6)) → lnR x n p T = (((tkA x n p : Nat) : Int), (0 : Nat), (0 : Int), (0 : Int), (0 : Int), (0 : Int)) := fun q => by unfold lnR; rw [if_pos (by rw [← hwd]; exact q)]
  have eL1 : ¬ (w = -1 ∨ (w = 5 ∧ oT T = 12) ∨ (w = 6 ∧ oF T = 6)) → lnR x n p T = ((rsR x n (tkB x n p) w (oD T)).1, (rsR x n (tkB x n p) w (oD T)).2.1, w, (rsR x n (tkB x n p) w (oD T)).2.2) := fun q => by unfold lnR; rw [if_neg (by rw [← hwd]; exact q), ← hwd]
  have j39 : (w = -1 ∨ (w = 5 ∧ oT T = 12) ∨ (w = 6 ∧ oF T = 6)) → AW E mX8_readsLine G 0 0 39 [vR m, vI w] [] M := by
    intro q
    refine A_iconst dX8_readsLine_39 (by decide) ?_
    exact A_zret hR dX8_readsLine_40 rfl (by first | exact Or.inl rfl | exact Or.inr rfl | omega) (by
      refine ⟨_, rfl, ?_⟩
      unfold lnP
      rw [eL0 q]
      exact ⟨⟨fun _ _ _ => rfl, fun _ _ _ => rfl⟩, fun _ => ⟨rfl, d15⟩, fun z => by have z : ((tkA x n p : Nat) : Int) = -1 := z; omega⟩)
  have j41 : ¬ (w = -1 ∨ (w = 5 ∧ oT T = 12) ∨ (w = 6 ∧ oF T = 6)) → AW E mX8_readsLine G 0 0 41 [vR m, vI w] [] M := by
    intro q
    have eL := eL1 q
    refine A_aload_n dX8_readsLine_41 rfl ?_
    refine A_vV0 (mj := mX8_token) dX8_readsLine_42 hR.rm (by decide) ok_X8_token mv_X8_token ml_RX8_115 (by assumption) rfl rfl rfl (m_token (p := tkB x n p) hO x3 hn2 xt d14 (by omega)) (fun M42 k42 q42 => ?_)
    obtain ⟨y1, y2, y3⟩ := q42
    refine A_aload_n dX8_readsLine_45 rfl ?_
    refine A_getR dX8_readsLine_46 fl_RX8_20 (by assumption) (by rfl) ?_
    refine A_iconst dX8_readsLine_49 (by decide) ?_
    refine A_aload_n dX8_readsLine_50 rfl ?_
    refine A_getI (ki := 5) dX8_readsLine_51 fl_RX8_112 (by assumption) (by rfl) rfl ?_
    rw [show M42 m 5 = c by rw [y2 5 (by omega) (by omega) (by omega)]; exact hc]
    refine A_imul dX8_readsLine_54 ⟨by omega, by omega⟩ ?_
    refine A_iload_n dX8_readsLine_55 rfl ?_
    refine A_iast dX8_readsLine_56 (by assumption) (by omega) (by omega) (fun M56 e56 k56 => ?_)
    have hx56 : txM M56 m n x := ⟨by rw [e56, upm_c (by omega), y2 3 (by omega) (by omega) (by omega)]; exact x3, by rw [e56, upm_c (by omega), y1 (m + 3) (by omega)]; exact xt⟩
    have hd56 : hdM M56 m x n (tkB x n p) := by rw [e56]; exact ⟨by rw [upm_c (by omega)]; exact y3.1, by rw [upm_c (by omega)]; exact y3.2.1, by rw [upm_c (by omega)]; exact y3.2.2⟩
    have hc56 : M56 m 5 = c := by rw [e56, upm_c (by omega), y2 5 (by omega) (by omega) (by omega)]; exact hc
    have hD56 : M56 m 17 = oD T := by rw [e56, upm_c (by omega), y2 17 (by omega) (by omega) (by omega)]; exact t17
    refine A_aload_n dX8_readsLine_57 rfl ?_
    refine A_iload_n dX8_readsLine_58 rfl ?_
    refine A_vI1 (mj := mX8_readsRest) dX8_readsLine_59 hR.rm (by decide) ok_X8_readsRest mv_X8_readsRest ml_RX8_134 (by assumption) rfl rfl rfl (m_readsRest (q := tkB x n p) (w := w) (D := oD T) hO hn2 (by omega) hby hx56 hd56 hc56 hc2 hD56 hD2) (fun z59 M59 g59 k59 q59 => ?_)
    obtain ⟨s1, s2, s3, s4⟩ := q59
    have fL : frL M M59 m := ⟨fun y ya yb => by rw [s1.1 y ya yb, e56, upm_c yb, y1 y ya], fun k ka kb => by rw [s1.2 k (by omega) (by omega) (by omega), e56, upm_c (by omega), y2 k (by omega) (by omega) (by omega)]⟩
    have fL17 : ∀ k : Int, k < 14 ∨ 16 < k → M59 m k = M m k := fun k hk => by rw [s1.2 k (by omega) (by omega) (by omega), e56, upm_c (by omega), y2 k (by omega) (by omega) (by omega)]
    refine A_if_ne (tgt := 67) dX8_readsLine_62 (by decide) (fun h62 => ?_) (fun h62 => ?_)
    · skip
      have ok : (rsR x n (tkB x n p) w (oD T)).1 = -1 := by
        by_cases z : (rsR x n (tkB x n p) w (oD T)).1 = -1
        · exact z
        · exact absurd (s2 z).1 h62
      obtain ⟨k1, k2, k3, k4⟩ := s3 ok
      have vs := rs_v ok
      obtain ⟨v1, hv1⟩ : ∃ v1, v1 = (rsR x n (tkB x n p) w (oD T)).2.2.1 := ⟨_, rfl⟩
      have a17 : M59 m 17 = oD T := by rw [fL17 17 (by omega)]; exact t17
      have a18 : M59 m 18 = oT T := by rw [fL17 18 (by omega)]; exact t18
      have a19 : M59 m 19 = oF T := by rw [fL17 19 (by omega)]; exact t19
      have a5 : M59 m 5 = c := by rw [fL17 5 (by omega)]; exact hc
      refine A_aload_n dX8_readsLine_67 rfl ?_
      refine A_iload_n dX8_readsLine_68 rfl ?_
      have j92 : ∀ v : Int, (v = if w = 0 then v1 else (oD T : Int)) → AW E mX8_readsLine G 0 0 92 [vR m, vI w] [vI v, vR m] M59 := by
        intro v hv
        skip
        refine A_putI (ki := 17) dX8_readsLine_92 fl_RX8_118 fi8_17 (by assumption) (by rfl) rfl (fun M92 e92 k92 => ?_)
        refine A_aload_n dX8_readsLine_95 rfl ?_
        refine A_iload_n dX8_readsLine_96 rfl ?_
        have j122 : ∀ v : Int, (v = if w = 0 then ((0 : Nat) : Int) else if w = 5 then ((oT T + 1 : Nat) : Int) else (oT T : Int)) → AW E mX8_readsLine G 0 0 122 [vR m, vI w] [vI v, vR m] M92 := by
          intro u hu
          refine A_putI (ki := 18) dX8_readsLine_122 fl_RX8_128 fi8_18 (by assumption) (by rfl) rfl (fun M122 e122 k122 => ?_)
          refine A_aload_n dX8_readsLine_125 rfl ?_
          refine A_iload_n dX8_readsLine_126 rfl ?_
          have j153 : ∀ v : Int, (v = if w = 0 then ((0 : Nat) : Int) else if w = 6 then ((oF T + 1 : Nat) : Int) else (oF T : Int)) → AW E mX8_readsLine G 0 0 153 [vR m, vI w] [vI v, vR m] M122 := by
            intro s hs
            refine A_putI (ki := 19) dX8_readsLine_153 fl_RX8_131 fi8_19 (by assumption) (by rfl) rfl (fun M153 e153 k153 => ?_)
            refine A_aload_n dX8_readsLine_156 rfl ?_
            refine A_dup dX8_readsLine_157 rfl ?_
            refine A_getI (ki := 5) dX8_readsLine_158 fl_RX8_112 (by assumption) (by rfl) rfl ?_
            rw [show M153 m 5 = c by rw [e153, upm_k (by omega), e122, upm_k (by omega), e92, upm_k (by omega)]; exact a5]
            refine A_iconst dX8_readsLine_161 (by decide) ?_
            refine A_iadd dX8_readsLine_162 ⟨by omega, by omega⟩ ?_
            refine A_putI (ki := 5) dX8_readsLine_163 fl_RX8_112 fi8_5 (by assumption) (by rfl) rfl (fun M163 e163 k163 => ?_)
            refine A_iconst dX8_readsLine_166 (by decide) ?_
            exact A_zret hR dX8_readsLine_167 rfl (by first | exact Or.inl rfl | exact Or.inr rfl | omega) (by
      have kk : ∀ k : Int, k ≠ 5 → k ≠ 17 → k ≠ 18 → k ≠ 19 → M163 m k = M59 m k := fun k ka kb kc kd => by rw [e163, upm_k ka, e153, upm_k kd, e122, upm_k kc, e92, upm_k kb]
      have ky : ∀ y, y ≠ m → M163 y = M59 y := fun y ya => by rw [e163, upm_c ya, e153, upm_c ya, e122, upm_c ya, e92, upm_c ya]
      refine ⟨_, rfl, ?_⟩
      unfold lnP
      rw [eL]
      refine ⟨⟨fun y ya yb => (ky y ya).trans (fL.1 y ya yb), fun k ka kb => (kk k ka (by omega) (by omega) (by omega)).trans (fL.2 k ka kb)⟩, fun z => absurd ok z, fun _ => ⟨rfl, ?_, ?_, by rw [e163, upm_s], ⟨?_, ?_, ?_⟩, fun j hj => ?_⟩⟩
      · unfold hdM
        rw [kk 14 (by omega) (by omega) (by omega) (by omega), kk 15 (by omega) (by omega) (by omega) (by omega), kk 16 (by omega) (by omega) (by omega) (by omega)]
        exact k2
      · obtain ⟨n1, n2, n3⟩ := apL_n w (rsR x n (tkB x n p) w (oD T)).2.2.1 (rsR x n (tkB x n p) w (oD T)).2.2.2.1 (rsR x n (tkB x n p) w (oD T)).2.2.2.2 T
        refine ⟨?_, ?_, ?_⟩
        · show _ = ((oD (apL w _ _ _ T) : Nat) : Int)
          rw [n1, e163, upm_k (by omega), e153, upm_k (by omega), e122, upm_k (by omega), e92, upm_s, hv]
          split
          · next z => have := vs.1 z; rw [hv1]; omega
          · rfl
        · show _ = ((oT (apL w _ _ _ T) : Nat) : Int)
          rw [n2, e163, upm_k (by omega), e153, upm_k (by omega), e122, upm_s, hu]
          split
          · rfl
          · split <;> rfl
        · show _ = ((oF (apL w _ _ _ T) : Nat) : Int)
          rw [n3, e163, upm_k (by omega), e153, upm_s, hs]
          split
          · rfl
          · split <;> rfl
      · rw [ky _ (by omega), s4 _ (by omega), e56, upm_s]
      · rw [ky _ (by omega)]; exact k3
      · rw [ky _ (by omega)]; exact k4
      · rw [ky _ (by omega), s4 _ (by omega), e56, upm_k (by omega), y1 _ (by omega)])
          refine A_if_ne (tgt := 134) dX8_readsLine_127 (by decide) (fun h127 => ?_) (fun h127 => ?_)
          · skip
            refine A_iload_n dX8_readsLine_134 rfl ?_
            refine A_bipush dX8_readsLine_135 bp_6 (by decide) ?_
            refine A_icmp_ne (tgt := 149) dX8_readsLine_137 (by decide) (fun h137 => ?_) (fun h137 => ?_)
            · skip
              refine A_aload_n dX8_readsLine_149 rfl ?_
              refine A_getI (ki := 19) dX8_readsLine_150 fl_RX8_131 (by assumption) (by rfl) rfl ?_
              first | exact j153 _ (by rw [if_pos (by omega)]; rfl) | exact j153 _ (by rw [if_neg (by omega), if_pos (by omega)]; omega) | exact j153 _ (by rw [if_neg (by omega), if_neg (by omega), e122, upm_k (by omega), e92, upm_k (by omega)]; exact a19)
            · skip
              refine A_aload_n dX8_readsLine_140 rfl ?_
              refine A_getI (ki := 19) dX8_readsLine_141 fl_RX8_131 (by assumption) (by rfl) rfl ?_
              rw [show M122 m 19 = oF T by rw [e122, upm_k (by omega), e92, upm_k (by omega)]; exact a19]
              refine A_iconst dX8_readsLine_144 (by decide) ?_
              refine A_iadd dX8_readsLine_145 ⟨by omega, by omega⟩ ?_
              refine A_goto (tgt := 153) dX8_readsLine_146 (by decide) ?_
              first | exact j153 _ (by rw [if_pos (by omega)]; rfl) | exact j153 _ (by rw [if_neg (by omega), if_pos (by omega)]; omega) | exact j153 _ (by rw [if_neg (by omega), if_neg (by omega), e122, upm_k (by omega), e92, upm_k (by omega)]; exact a19)
          · skip
            refine A_iconst dX8_readsLine_130 (by decide) ?_
            refine A_goto (tgt := 153) dX8_readsLine_131 (by decide) ?_
            first | exact j153 _ (by rw [if_pos (by omega)]; rfl) | exact j153 _ (by rw [if_neg (by omega), if_pos (by omega)]; omega) | exact j153 _ (by rw [if_neg (by omega), if_neg (by omega), e122, upm_k (by omega), e92, upm_k (by omega)]; exact a19)
        refine A_if_ne (tgt := 104) dX8_readsLine_97 (by decide) (fun h97 => ?_) (fun h97 => ?_)
        · skip
          refine A_iload_n dX8_readsLine_104 rfl ?_
          refine A_iconst dX8_readsLine_105 (by decide) ?_
          refine A_icmp_ne (tgt := 118) dX8_readsLine_106 (by decide) (fun h106 => ?_) (fun h106 => ?_)
          · skip
            refine A_aload_n dX8_readsLine_118 rfl ?_
            refine A_getI (ki := 18) dX8_readsLine_119 fl_RX8_128 (by assumption) (by rfl) rfl ?_
            first | exact j122 _ (by rw [if_pos (by omega)]; rfl) | exact j122 _ (by rw [if_neg (by omega), if_pos (by omega)]; omega) | exact j122 _ (by rw [if_neg (by omega), if_neg (by omega), e92, upm_k (by omega)]; exact a18)
          · skip
            refine A_aload_n dX8_readsLine_109 rfl ?_
            refine A_getI (ki := 18) dX8_readsLine_110 fl_RX8_128 (by assumption) (by rfl) rfl ?_
            rw [show M92 m 18 = oT T by rw [e92, upm_k (by omega)]; exact a18]
            refine A_iconst dX8_readsLine_113 (by decide) ?_
            refine A_iadd dX8_readsLine_114 ⟨by omega, by omega⟩ ?_
            refine A_goto (tgt := 122) dX8_readsLine_115 (by decide) ?_
            first | exact j122 _ (by rw [if_pos (by omega)]; rfl) | exact j122 _ (by rw [if_neg (by omega), if_pos (by omega)]; omega) | exact j122 _ (by rw [if_neg (by omega), if_neg (by omega), e92, upm_k (by omega)]; exact a18)
        · skip
          refine A_iconst dX8_readsLine_100 (by decide) ?_
          refine A_goto (tgt := 122) dX8_readsLine_101 (by decide) ?_
          first | exact j122 _ (by rw [if_pos (by omega)]; rfl) | exact j122 _ (by rw [if_neg (by omega), if_pos (by omega)]; omega) | exact j122 _ (by rw [if_neg (by omega), if_neg (by omega), e92, upm_k (by omega)]; exact a18)
      refine A_if_ne (tgt := 88) dX8_readsLine_69 (by decide) (fun h69 => ?_) (fun h69 => ?_)
      · skip
        refine A_aload_n dX8_readsLine_88 rfl ?_
        refine A_getI (ki := 17) dX8_readsLine_89 fl_RX8_118 (by assumption) (by rfl) rfl ?_
        first | exact j92 _ (by rw [if_pos (by omega)]) | exact j92 _ (by rw [if_neg (by omega)]; exact a17)
      · skip
        refine A_aload_n dX8_readsLine_72 rfl ?_
        refine A_getR dX8_readsLine_73 fl_RX8_20 (by assumption) (by rfl) ?_
        refine A_iconst dX8_readsLine_76 (by decide) ?_
        refine A_aload_n dX8_readsLine_77 rfl ?_
        refine A_getI (ki := 5) dX8_readsLine_78 fl_RX8_112 (by assumption) (by rfl) rfl ?_
        rw [a5]
        refine A_imul dX8_readsLine_81 ⟨by omega, by omega⟩ ?_
        refine A_iconst dX8_readsLine_82 (by decide) ?_
        refine A_iadd dX8_readsLine_83 ⟨by omega, by omega⟩ ?_
        refine A_iald dX8_readsLine_84 (by assumption) (by omega) (by omega) ?_
        rw [k3, ← hv1]
        refine A_goto (tgt := 92) dX8_readsLine_85 (by decide) ?_
        first | exact j92 _ (by rw [if_pos (by omega)]) | exact j92 _ (by rw [if_neg (by omega)]; exact a17)
    · skip
      refine A_iconst dX8_readsLine_65 (by decide) ?_
      exact A_zret hR dX8_readsLine_66 rfl (by first | exact Or.inl rfl | exact Or.inr rfl | omega) (by
      have nok : (rsR x n (tkB x n p) w (oD T)).1 ≠ -1 := fun z => by have := (s3 z).1; omega
      refine ⟨_, rfl, ?_⟩
      unfold lnP
      rw [eL]
      exact ⟨fL, fun _ => ⟨rfl, (s2 nok).2⟩, fun z => absurd z nok⟩)
  refine A_aload_n dX8_readsLine_0 rfl ?_
  refine A_vI0 (mj := mX8_wordOf) dX8_readsLine_1 hR.rm (by decide) ok_X8_wordOf mv_X8_wordOf ml_RX8_125 (by assumption) rfl rfl rfl (m_wordOf hO hn2 xt d15 d16 (by omega) (by omega)) (fun z1 M1 g1 k1 q1 => ?_)
  obtain ⟨e1, wr, q1⟩ := q1
  subst M1
  rw [← hwd] at q1
  subst z1
  refine A_istore_n dX8_readsLine_4 (by decide) rfl ?_
  refine A_iload_n dX8_readsLine_5 rfl ?_
  refine A_iconst dX8_readsLine_6 (by decide) ?_
  refine A_icmp_eq (tgt := 39) dX8_readsLine_7 (by decide) (fun h7 => ?_) (fun h7 => ?_)
  · skip
    exact j39 (by omega)
  · skip
    refine A_iload_n dX8_readsLine_10 rfl ?_
    refine A_iconst dX8_readsLine_11 (by decide) ?_
    refine A_icmp_ne (tgt := 24) dX8_readsLine_12 (by decide) (fun h12 => ?_) (fun h12 => ?_)
    · skip
      refine A_iload_n dX8_readsLine_24 rfl ?_
      refine A_bipush dX8_readsLine_25 bp_6 (by decide) ?_
      refine A_icmp_ne (tgt := 41) dX8_readsLine_27 (by decide) (fun h27 => ?_) (fun h27 => ?_)
      · skip
        exact j41 (by omega)
      · skip
        refine A_aload_n dX8_readsLine_30 rfl ?_
        refine A_getI (ki := 19) dX8_readsLine_31 fl_RX8_131 (by assumption) (by rfl) rfl ?_
        rw [t19]
        refine A_bipush dX8_readsLine_34 bp_6 (by decide) ?_
        refine A_icmp_ne (tgt := 41) dX8_readsLine_36 (by decide) (fun h36 => ?_) (fun h36 => ?_)
        · skip
          exact j41 (by omega)
        · skip
          exact j39 (by omega)
    · skip
      refine A_aload_n dX8_readsLine_15 rfl ?_
      refine A_getI (ki := 18) dX8_readsLine_16 fl_RX8_128 (by assumption) (by rfl) rfl ?_
      rw [t18]
      refine A_bipush dX8_readsLine_19 bp_12 (by decide) ?_
      skip
      refine A_icmp_eq (tgt := 39) dX8_readsLine_21 (by decide) (fun h21 => ?_) (fun h21 => ?_)
      · skip
        exact j39 (by omega)
      · skip
        refine A_iload_n dX8_readsLine_24 rfl ?_
        refine A_bipush dX8_readsLine_25 bp_6 (by decide) ?_
        refine A_icmp_ne (tgt := 41) dX8_readsLine_27 (by decide) (fun h27 => ?_) (fun h27 => ?_)
        · skip
          exact j41 (by omega)
        · skip
          refine A_aload_n dX8_readsLine_30 rfl ?_
          refine A_getI (ki := 19) dX8_readsLine_31 fl_RX8_131 (by assumption) (by rfl) rfl ?_
          rw [t19]
          refine A_bipush dX8_readsLine_34 bp_6 (by decide) ?_
          refine A_icmp_ne (tgt := 41) dX8_readsLine_36 (by decide) (fun h36 => ?_) (fun h36 => ?_)
          · skip
            exact j41 (by omega)
          · skip
            exact j39 (by omega)

