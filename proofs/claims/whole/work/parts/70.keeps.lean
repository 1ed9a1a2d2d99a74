/-! what is told stays well told -/
theorem wT_ap {w v1 v2 v3 : Int} {T : TD} (hT : wT T) (h : lok w v1 v2 v3 T) : wT (apL w v1 v2 v3 T) := by
  obtain ⟨⟨t1, t2, t3, t4, t5, t6, t7, t8⟩, tk, tt, tf⟩ := hT
  obtain ⟨k0, k1, k2, k3, k4, k5, k6, k7⟩ := h
  unfold apL
  by_cases e0 : w = 0
  · rw [if_pos e0]
    have r := k1 e0
    refine ⟨⟨by show 2 ≤ v1.toNat; omega, by show v1.toNat ≤ 8; omega, by show 0 ≤ 12; omega, by show 0 ≤ 6; omega, by show (0 : Int) ≤ 1; decide, by show (1 : Int) ≤ 9; decide, by show (0 : Int) ≤ 0; decide, by show (0 : Int) ≤ 99; decide⟩, fun k _ _ => by show (0 : Int) ≤ 0 ∧ (0 : Int) ≤ 3; decide, fun k x y => by have y : k < ((0 : Nat) : Int) := y; omega, fun k x y => by have y : k < ((0 : Nat) : Int) := y; omega⟩
  · rw [if_neg e0]
    by_cases e5 : w = 5
    · rw [if_pos e5]
      have r := k4 (Or.inl e5)
      rw [if_pos e5] at r
      have r5 := k2 e5
      refine ⟨⟨t1, t2, by show oT T + 1 ≤ 12; omega, t4, t5, t6, t7, t8⟩, tk, fun k x y => ?_, tf⟩
      have y : k < ((oT T + 1 : Nat) : Int) := y
      show 0 ≤ (if k = oT T then v1 else oA T k) ∧ (if k = oT T then v1 else oA T k) < oD T ∧ 0 ≤ (if k = oT T then v2 else oB T k) ∧ (if k = oT T then v2 else oB T k) < oD T ∧ (if k = oT T then v1 else oA T k) ≠ (if k = oT T then v2 else oB T k) ∧ 0 ≤ (if k = oT T then v3 else oS T k) ∧ (if k = oT T then v3 else oS T k) ≤ 99
      by_cases q : k = oT T
      · rw [if_pos q, if_pos q, if_pos q]; omega
      · rw [if_neg q, if_neg q, if_neg q]; exact tt k x (by omega)
    · rw [if_neg e5]
      by_cases e6 : w = 6
      · rw [if_pos e6]
        have r := k4 (Or.inr e6)
        rw [if_neg e5] at r
        have r6 := k3 e6
        refine ⟨⟨t1, t2, t3, by show oF T + 1 ≤ 6; omega, t5, t6, t7, t8⟩, tk, tt, fun k x y => ?_⟩
        have y : k < ((oF T + 1 : Nat) : Int) := y
        show 0 ≤ (if k = oF T then v1 else oSt T k) ∧ (if k = oF T then v1 else oSt T k) < oD T ∧ 0 ≤ (if k = oF T then v2 else oE T k) ∧ (if k = oF T then v2 else oE T k) < oD T ∧ (if k = oF T then v1 else oSt T k) ≠ (if k = oF T then v2 else oE T k) ∧ 0 ≤ (if k = oF T then v3 else oSw T k) ∧ (if k = oF T then v3 else oSw T k) ≤ 9
        by_cases q : k = oF T
        · rw [if_pos q, if_pos q, if_pos q]; omega
        · rw [if_neg q, if_neg q, if_neg q]; exact tf k x (by omega)
      · rw [if_neg e6]
        by_cases e7 : w = 7
        · rw [if_pos e7]
          exact ⟨⟨t1, t2, t3, t4, (k5 e7).1, (k5 e7).2, t7, t8⟩, tk, tt, tf⟩
        · rw [if_neg e7]
          by_cases e8 : w = 8
          · rw [if_pos e8]
            exact ⟨⟨t1, t2, t3, t4, t5, t6, (k6 e8).1, (k6 e8).2⟩, tk, tt, tf⟩
          · rw [if_neg e8]
            refine ⟨⟨t1, t2, t3, t4, t5, t6, t7, t8⟩, fun k x y => ?_, tt, tf⟩
            show 0 ≤ (if k = v1 then w - 1 else oK T k) ∧ (if k = v1 then w - 1 else oK T k) ≤ 3
            by_cases q : k = v1
            · rw [if_pos q]; omega
            · rw [if_neg q]; exact tk k x y
theorem wT_apM {R : Fn} {T : TD} (hT : wT T) : ∀ c : Nat, (∀ i : Nat, i < c → rok R T i) → wT (apM R T c)
  | 0, _ => hT
  | c + 1, h => wT_ap (wT_apM hT c (fun i hi => h i (by omega))) (h c (by omega))
noncomputable def f_fault (S : GS) : Int := (rdR (sX S) (sL S) 12 0 (sT S)).1
noncomputable def f_office (S : GS) : Int := if f_fault S = -1 then ((rdR (sX S) (sL S) 12 0 (sT S)).2.1 : Nat) else -4
noncomputable def g_office (S : GS) : GS := if f_fault S = -1 then ((rdR (sX S) (sL S) 12 0 (sT S)).2.2, bgC (rdR (sX S) (sL S) 12 0 (sT S)).2.2, S.2.2.1, (0, 0), (0, sX S), (0, sFl S, sDk S, sMn S), fun _ => 0) else S
