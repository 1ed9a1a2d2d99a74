/-! THE LAW: its walk from the entry -/
theorem isApp_lt {E E' : EN} (u : ∀ c sh, c < 65 → At E c sh → At E' c sh) (h : isApp E) : isApp E' := by
  obtain ⟨p0, pX, pT, pD, pN, p28, pk0, pk1, p45, pF, pS, pR, p11⟩ := h
  exact ⟨u _ _ (by omega) p0, isTxt_lt (q := 65) u (by omega) pX, isTold_lt (q := 65) u (by omega) pT, isTold_lt (q := 65) u (by omega) pD, isCrs_lt (q := 65) u (by omega) pN, u _ _ (by omega) p28, isCrs_lt (q := 65) u (by omega) pk0, isCrs_lt (q := 65) u (by omega) pk1, u _ _ (by omega) p45, isFor_lt (q := 65) u (by omega) pF, isSgt_lt (q := 65) u (by omega) pS, isCrm_lt (q := 65) u (by omega) pR, u _ _ (by omega) p11⟩
set_option maxRecDepth 100000 in
set_option maxHeartbeats 4000000 in
theorem law_walk {E : EN} {G : CX} {n : Nat} {xs : Nat → Int32} (hE : eN E = 0) (hw : wE E) (hf : Fr G) (hN : Nst (gs G)) (hX : va_X (eSa E 40) n xs (gs G) (gs G).heap) (hb : eSa E 40 < (gs G).heap.size) (hbA : ¬ gA G (eSa E 40)) (hn : n ≤ 2048) (hR : ∀ kc ns, kc ≤ 78 → ns ≤ 1218 → Rm G 20 kc ns) (hend : ∀ (E' : EN) (M : Mem) (L : List AV), AW E' mL_law G 78 1218 1045 L [vI 1] M) : AW E mL_law G 0 0 0 [vS 40, vU, vU, vU] [] (fun _ _ => 0) := by
  have hc : ∀ k, k ≤ 78 → k ≤ (gR G).cells := fun k hk => (hR k 0 hk (Nat.zero_le _)).2.2.1
  have hs : ∀ k, k ≤ 1218 → k ≤ (gR G).slots := fun k hk => (hR 0 k (Nat.zero_le _) hk).2.2.2
  refine A_new (n := 0) (N := 9) dL_law_0 nw_RL_7 rfl hE hw (fun _ => rfl) hf (hc _ (by decide)) (hs _ (by decide)) (bn_c trivial (bn_c trivial (bn_c trivial (bn_c trivial bn_n)))) bn_n (fun E1 x1 n1 a1 u1 w1 => ?_)
  refine A_dup dL_law_3 rfl ?_
  refine A_ctor (y := yX7_init) (bc := cX7_init) (nl := 2) (As := []) (b := 0) (N := 1) dL_law_4 (hR _ _ (by decide) (by decide)) (by decide) ok_X7_init rfl in_X7_init ml_RL_9 rfl rfl hf (hc _ (by decide)) (hs _ (by decide)) n1 (bn_c trivial (bn_c trivial (bn_c trivial (bn_c trivial bn_n)))) (bn_c (by show _ < _; omega) bn_n) hN (i_app n1 w1 a1 (fun _ _ => rfl)) (fun E2 M2 k2 x2 w2 q2 => ?_)
  obtain ⟨n2, pA, rx, hz⟩ := q2
  refine A_astore_n dL_law_7 (by decide) rfl ?_
  refine A_new (n := 65) (N := 25) dL_law_8 nw_RL_10 rfl n2 w2 (fun k => hz 65 k (Nat.le_refl _)) hf (hc _ (by decide)) (hs _ (by decide)) (bn_c trivial (bn_c (by show _ < _; omega) (bn_c trivial (bn_c trivial bn_n)))) bn_n (fun E3 x3 n3 a3 u3 w3 => ?_)
  refine A_dup dL_law_11 rfl ?_
  refine A_ctor (y := yX8_init) (bc := cX8_init) (nl := 1) (As := []) (b := 65) (N := 66) dL_law_12 (hR _ _ (by decide) (by decide)) (by decide) ok_X8_init rfl in_X8_init ml_RL_12 rfl rfl hf (hc _ (by decide)) (hs _ (by decide)) n3 (bn_c trivial (bn_c (by show _ < _; omega) (bn_c trivial (bn_c trivial bn_n)))) (bn_c (by show _ < _; omega) bn_n) hN (i_mod (m := 65) n3 w3 a3 hz) (fun E4 M4 k4 x4 w4 q4 => ?_)
  obtain ⟨n4, pM, u4, f4, ry⟩ := q4
  have ex := xt_t (xt_t (xt_t x1 x2) x3) x4
  have pA4 : isApp E4 := isApp_lt u4 (isApp_lt (fun c sh _ h => u3 c sh h) pA)
  refine A_astore_n dL_law_15 (by decide) rfl ?_
  refine A_iconst dL_law_16 (by decide) ?_
  refine A_istore_n dL_law_17 (by decide) rfl ?_
  exact lw_loop (E := E4) (xs := xs) (n := n) ⟨pA4, pM, hR _ _ (by decide) (by decide), by rw [ex.2.1]; exact hX, by rw [ex.2.1]; exact hb, by rw [ex.2.1]; exact hbA, hn⟩ (hend E4) _ 0 M4 S0 rfl ⟨rX_65 rx f4, ry, wS_0.1, wS_0.2⟩
