/-! THE LAW: its loop -/
set_option maxRecDepth 100000 in
set_option maxHeartbeats 8000000 in
theorem lw_loop {E : EN} {G : CX} {n : Nat} {xs : Nat → Int32} (H : lwH E G n xs) (hend : ∀ (M : Mem) (L : List AV), AW E mL_law G 78 1218 1045 L [vI 1] M) : ∀ (k i : Nat) (M : Mem) (S : GS), n + 4 - i = k → lwS M S → AW E mL_law G 78 1218 18 [vS 40, vR 0, vR 65, vI i] [] M := by
  intro k
  induction k using Nat.strongRecOn with
  | ind k ih =>
    intro i M S hk hS
    obtain ⟨pA, pM, hR, hX, hb, hbA, hL⟩ := id H
    refine A_iload_n dL_law_18 rfl ?_
    refine A_aload_nS dL_law_19 rfl ?_
    refine A_slen dL_law_20 hX hb hbA hL ?_
    refine A_iconst dL_law_21 (by decide) ?_
    refine A_isub dL_law_22 ⟨by omega, by omega⟩ ?_
    refine A_icmp_gt (tgt := 1044) dL_law_23 (by decide) (fun h23 => ?_) (fun h23 => ?_)
    · refine A_iconst dL_law_1044 (by decide) ?_
      exact hend M _
    · have hi : i + 4 ≤ n := by omega
      have kk : ∀ (M' : Mem) (S' : GS), lwS M' S' → AW E mL_law G 78 1218 1038 [vS 40, vR 0, vR 65, vI i] [] M' := by
        intro M' S' hS'
        refine A_iinc dL_law_1038 (by decide) rfl rfl ⟨by omega, by omega⟩ ?_
        refine A_goto (tgt := 18) dL_law_1041 (by decide) ?_
        exact ih _ (by omega) (i + 4) M' S' rfl hS'
      refine A_aload_nS dL_law_26 rfl ?_
      refine A_iload_n dL_law_27 rfl ?_
      refine A_sld dL_law_28 hX hb hbA (by omega) (by omega) ?_
      refine A_bipush dL_law_29 bp_31 (by decide) ?_
      refine A_iand (z := (i32 (sx xs i) &&& i32 31).toInt) dL_law_31 (i32_of _).symm (rng_toInt _) ?_
      generalize (i32 (sx xs i) &&& i32 31).toInt = z
      rcases (show z = 0 ∨ z = 1 ∨ z = 2 ∨ z = 3 ∨ z = 4 ∨ z = 5 ∨ z = 6 ∨ z = 7 ∨ z = 8 ∨ z = 9 ∨ z = 10 ∨ z = 11 ∨ z = 12 ∨ z = 13 ∨ z = 14 ∨ z = 15 ∨ z = 16 ∨ z = 17 ∨ z = 18 ∨ z = 19 ∨ z = 20 ∨ z = 21 ∨ z = 22 ∨ z = 23 ∨ z = 24 ∨ z = 25 ∨ z = 26 ∨ z = 27 ∨ z = 28 ∨ z = 29 ∨ (z < 0 ∨ 29 < z) by omega) with h | h | h | h | h | h | h | h | h | h | h | h | h | h | h | h | h | h | h | h | h | h | h | h | h | h | h | h | h | h | h
      · refine A_tsIn (tgt := 168) dL_law_32 0 (by omega) (by omega) rfl (by decide) ?_
        exact lw_write H hS hi kk
      · refine A_tsIn (tgt := 231) dL_law_32 1 (by omega) (by omega) rfl (by decide) ?_
        exact lw_erase H hS hi kk
      · refine A_tsIn (tgt := 244) dL_law_32 2 (by omega) (by omega) rfl (by decide) ?_
        exact lw_fault H hS hi kk
      · refine A_tsIn (tgt := 257) dL_law_32 3 (by omega) (by omega) rfl (by decide) ?_
        exact lw_office H hS hi kk
      · refine A_tsIn (tgt := 270) dL_law_32 4 (by omega) (by omega) rfl (by decide) ?_
        exact lw_desk H hS hi kk
      · refine A_tsIn (tgt := 303) dL_law_32 5 (by omega) (by omega) rfl (by decide) ?_
        exact lw_trail H hS hi kk
      · refine A_tsIn (tgt := 336) dL_law_32 6 (by omega) (by omega) rfl (by decide) ?_
        exact lw_file H hS hi kk
      · refine A_tsIn (tgt := 369) dL_law_32 7 (by omega) (by omega) rfl (by decide) ?_
        exact lw_as H hS hi kk
      · refine A_tsIn (tgt := 402) dL_law_32 8 (by omega) (by omega) rfl (by decide) ?_
        exact lw_go H hS hi kk
      · refine A_tsIn (tgt := 425) dL_law_32 9 (by omega) (by omega) rfl (by decide) ?_
        exact lw_next H hS hi kk
      · refine A_tsIn (tgt := 448) dL_law_32 10 (by omega) (by omega) rfl (by decide) ?_
        exact lw_spill H hS hi kk
      · refine A_tsIn (tgt := 481) dL_law_32 11 (by omega) (by omega) rfl (by decide) ?_
        exact lw_stamp H hS hi kk
      · refine A_tsIn (tgt := 514) dL_law_32 12 (by omega) (by omega) rfl (by decide) ?_
        exact lw_rain H hS hi kk
      · refine A_tsIn (tgt := 527) dL_law_32 13 (by omega) (by omega) rfl (by decide) ?_
        exact lw_sit H hS hi kk
      · refine A_tsIn (tgt := 550) dL_law_32 14 (by omega) (by omega) rfl (by decide) ?_
        exact lw_keep H hS hi kk
      · refine A_tsIn (tgt := 573) dL_law_32 15 (by omega) (by omega) rfl (by decide) ?_
        exact lw_back H hS hi kk
      · refine A_tsIn (tgt := 596) dL_law_32 16 (by omega) (by omega) rfl (by decide) ?_
        exact lw_later H hS hi kk
      · refine A_tsIn (tgt := 639) dL_law_32 17 (by omega) (by omega) rfl (by decide) ?_
        exact lw_filed H hS hi kk
      · refine A_tsIn (tgt := 662) dL_law_32 18 (by omega) (by omega) rfl (by decide) ?_
        exact lw_queue H hS hi kk
      · refine A_tsIn (tgt := 695) dL_law_32 19 (by omega) (by omega) rfl (by decide) ?_
        exact lw_honey H hS hi kk
      · refine A_tsIn (tgt := 738) dL_law_32 20 (by omega) (by omega) rfl (by decide) ?_
        exact lw_smear H hS hi kk
      · refine A_tsIn (tgt := 781) dL_law_32 21 (by omega) (by omega) rfl (by decide) ?_
        exact lw_quiet H hS hi kk
      · refine A_tsIn (tgt := 814) dL_law_32 22 (by omega) (by omega) rfl (by decide) ?_
        exact lw_harm H hS hi kk
      · refine A_tsIn (tgt := 847) dL_law_32 23 (by omega) (by omega) rfl (by decide) ?_
        exact lw_worst H hS hi kk
      · refine A_tsIn (tgt := 870) dL_law_32 24 (by omega) (by omega) rfl (by decide) ?_
        exact lw_seen H hS hi kk
      · refine A_tsIn (tgt := 913) dL_law_32 25 (by omega) (by omega) rfl (by decide) ?_
        exact lw_forget H hS hi kk
      · refine A_tsIn (tgt := 926) dL_law_32 26 (by omega) (by omega) rfl (by decide) ?_
        exact lw_stamps H hS hi kk
      · refine A_tsIn (tgt := 949) dL_law_32 27 (by omega) (by omega) rfl (by decide) ?_
        exact lw_crumbs H hS hi kk
      · refine A_tsIn (tgt := 982) dL_law_32 28 (by omega) (by omega) rfl (by decide) ?_
        exact lw_odds H hS hi kk
      · refine A_tsIn (tgt := 1015) dL_law_32 29 (by omega) (by omega) rfl (by decide) ?_
        exact lw_count H hS hi kk
      · refine A_tsOut (tgt := 1038) dL_law_32 (by omega) (by decide) ?_
        exact kk M S hS
