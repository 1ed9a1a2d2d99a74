/-! THE MODEL: a line is told -/
set_option maxRecDepth 100000 in
set_option maxHeartbeats 4000000 in
theorem m_tell {E : EN} {l : Launch} {M : Mem} {m r : Nat} {T : TD} {w v1 v2 v3 : Int} (hO : isMod E m) (hr : r ≤ 44) (e0 : M (m + 4) r = w) (e1 : M (m + 4) ((r : Int) + 1) = v1) (e2 : M (m + 4) ((r : Int) + 2) = v2) (e3 : M (m + 4) ((r : Int) + 3) = v3) (hI : rI M m T) (hW : rW M m T) (hn : wN3 T) (hw : 0 ≤ w ∧ w ≤ 8) (hv0 : w = 0 → 0 ≤ v1 ∧ v1 ≤ 8) (hv5 : w = 5 → oT T < 12) (hv6 : w = 6 → oF T < 6) (hvk : 1 ≤ w → w ≤ 4 → 0 ≤ v1 ∧ v1 < 8) : Cn E l mX8_tell 1 [vR m, vI r] M (fun r M1 => r = vU ∧ (frT M M1 m ∧ rI M1 m (apL w v1 v2 v3 T) ∧ rW M1 m (apL w v1 v2 v3 T))) := by
  refine Cn.of (by decide) rfl (Nat.le_of_ble_eq_true rfl) 3 rfl (fun oka okm G hR => ?_)
  obtain ⟨a0, a1, a2, a3, a4, a5, a6, a7, a8, a9, a10, a11, a12⟩ := id hO
  obtain ⟨⟨i0, i1, i2, i3⟩, ik, it, ie⟩ := id hI
  obtain ⟨w1, w2, w3⟩ := id hW
  obtain ⟨hn0, hn1, hn2⟩ := id hn
  refine A_aload_n dX8_tell_0 rfl ?_
  refine A_getR dX8_tell_1 fl_RX8_20 (by assumption) (by rfl) ?_
  refine A_iload_n dX8_tell_4 rfl ?_
  refine A_iconst dX8_tell_5 (by decide) ?_
  refine A_iadd dX8_tell_6 ⟨by omega, by omega⟩ ?_
  refine A_iald dX8_tell_7 (by assumption) (by omega) (by omega) ?_
  rw [e1]
  refine A_istore_n dX8_tell_8 (by decide) rfl ?_
  refine A_aload_n dX8_tell_9 rfl ?_
  refine A_getR dX8_tell_10 fl_RX8_20 (by assumption) (by rfl) ?_
  refine A_iload_n dX8_tell_13 rfl ?_
  refine A_iconst dX8_tell_14 (by decide) ?_
  refine A_iadd dX8_tell_15 ⟨by omega, by omega⟩ ?_
  refine A_iald dX8_tell_16 (by assumption) (by omega) (by omega) ?_
  rw [e2]
  refine A_istore_n dX8_tell_17 (by decide) rfl ?_
  refine A_sipush dX8_tell_18 sp_156 (by decide) ?_
  refine A_istore dX8_tell_21 (by decide) rfl ?_
  refine A_aload_n dX8_tell_23 rfl ?_
  refine A_getR dX8_tell_24 fl_RX8_20 (by assumption) (by rfl) ?_
  refine A_iload_n dX8_tell_27 rfl ?_
  refine A_iald dX8_tell_28 (by assumption) (by omega) (by omega) ?_
  rw [e0]
  rcases (show w = 0 ∨ w = 1 ∨ w = 2 ∨ w = 3 ∨ w = 4 ∨ w = 5 ∨ w = 6 ∨ w = 7 ∨ w = 8 ∨ (w < 0 ∨ 8 < w) by omega) with h29 | h29 | h29 | h29 | h29 | h29 | h29 | h29 | h29 | h29
  · refine A_tsIn (tgt := 80) dX8_tell_29 0 (by omega) (by omega) rfl (by decide) ?_
    obtain ⟨n, rfl⟩ : ∃ n : Nat, v1 = n := ⟨v1.toNat, by omega⟩
    have hv := hv0 (by omega)
    refine A_aload_n dX8_tell_80 rfl ?_
    refine A_iload_n dX8_tell_81 rfl ?_
    refine A_vV1 (mj := mX8_clear) dX8_tell_82 hR.rm (by decide) ok_X8_clear mv_X8_clear ml_RX8_54 (by assumption) rfl rfl rfl (m_clear (T := T) (n := n) (a := v2) (b := v3) hO (by omega)) (fun M82 k82 q82 => ?_)
    skip
    exact A_vret hR dX8_tell_85 rfl ⟨rfl, by rw [h29]; exact ⟨q82.1, q82.2.1, q82.2.2⟩⟩
  · refine A_tsIn (tgt := 216) dX8_tell_29 1 (by omega) (by omega) rfl (by decide) ?_
    have hv := hvk (by omega) (by omega)
    refine A_aload_n dX8_tell_216 rfl ?_
    refine A_getR dX8_tell_217 fl_RX8_27 (by assumption) (by rfl) ?_
    refine A_iload_n dX8_tell_220 rfl ?_
    refine A_aload_n dX8_tell_221 rfl ?_
    refine A_getR dX8_tell_222 fl_RX8_20 (by assumption) (by rfl) ?_
    refine A_iload_n dX8_tell_225 rfl ?_
    refine A_iald dX8_tell_226 (by assumption) (by omega) (by omega) ?_
    rw [e0]
    refine A_iconst dX8_tell_227 (by decide) ?_
    refine A_isub dX8_tell_228 ⟨by omega, by omega⟩ ?_
    refine A_iast dX8_tell_229 (by assumption) (by omega) (by omega) (fun M229 e229 k229 => ?_)
    exact A_vret hR dX8_tell_230 rfl (by
      refine ⟨rfl, ⟨fun y _ _ c _ _ _ => by rw [e229, upm_c c], fun k _ _ _ _ => by rw [e229, upm_c (by omega)], fun k hk => by rw [e229, upm_c (by omega)]⟩, ?_⟩
      unfold apL
      rw [if_neg (by omega), if_neg (by omega), if_neg (by omega), if_neg (by omega), if_neg (by omega)]
      refine ⟨⟨by rw [e229, upm_c (by omega)]; exact ⟨i0, i1, i2, i3⟩, fun k a b => ?_, by rw [e229, upm_c (by omega), upm_c (by omega)]; exact it, by rw [e229, upm_c (by omega)]; exact ie⟩, ?_⟩
      · show _ = if k = v1 then w - 1 else oK T k
        rw [e229, upm_x]
        by_cases q : k = v1
        · rw [if_pos ⟨rfl, q⟩, if_pos q]
        · rw [if_neg (fun z => q z.2), if_neg q]; exact ik k a b
      · unfold rW
        rw [e229, upm_c (by omega)]
        exact hW)
  · refine A_tsIn (tgt := 216) dX8_tell_29 2 (by omega) (by omega) rfl (by decide) ?_
    have hv := hvk (by omega) (by omega)
    refine A_aload_n dX8_tell_216 rfl ?_
    refine A_getR dX8_tell_217 fl_RX8_27 (by assumption) (by rfl) ?_
    refine A_iload_n dX8_tell_220 rfl ?_
    refine A_aload_n dX8_tell_221 rfl ?_
    refine A_getR dX8_tell_222 fl_RX8_20 (by assumption) (by rfl) ?_
    refine A_iload_n dX8_tell_225 rfl ?_
    refine A_iald dX8_tell_226 (by assumption) (by omega) (by omega) ?_
    rw [e0]
    refine A_iconst dX8_tell_227 (by decide) ?_
    refine A_isub dX8_tell_228 ⟨by omega, by omega⟩ ?_
    refine A_iast dX8_tell_229 (by assumption) (by omega) (by omega) (fun M229 e229 k229 => ?_)
    exact A_vret hR dX8_tell_230 rfl (by
      refine ⟨rfl, ⟨fun y _ _ c _ _ _ => by rw [e229, upm_c c], fun k _ _ _ _ => by rw [e229, upm_c (by omega)], fun k hk => by rw [e229, upm_c (by omega)]⟩, ?_⟩
      unfold apL
      rw [if_neg (by omega), if_neg (by omega), if_neg (by omega), if_neg (by omega), if_neg (by omega)]
      refine ⟨⟨by rw [e229, upm_c (by omega)]; exact ⟨i0, i1, i2, i3⟩, fun k a b => ?_, by rw [e229, upm_c (by omega), upm_c (by omega)]; exact it, by rw [e229, upm_c (by omega)]; exact ie⟩, ?_⟩
      · show _ = if k = v1 then w - 1 else oK T k
        rw [e229, upm_x]
        by_cases q : k = v1
        · rw [if_pos ⟨rfl, q⟩, if_pos q]
        · rw [if_neg (fun z => q z.2), if_neg q]; exact ik k a b
      · unfold rW
        rw [e229, upm_c (by omega)]
        exact hW)
  · refine A_tsIn (tgt := 216) dX8_tell_29 3 (by omega) (by omega) rfl (by decide) ?_
    have hv := hvk (by omega) (by omega)
    refine A_aload_n dX8_tell_216 rfl ?_
    refine A_getR dX8_tell_217 fl_RX8_27 (by assumption) (by rfl) ?_
    refine A_iload_n dX8_tell_220 rfl ?_
    refine A_aload_n dX8_tell_221 rfl ?_
    refine A_getR dX8_tell_222 fl_RX8_20 (by assumption) (by rfl) ?_
    refine A_iload_n dX8_tell_225 rfl ?_
    refine A_iald dX8_tell_226 (by assumption) (by omega) (by omega) ?_
    rw [e0]
    refine A_iconst dX8_tell_227 (by decide) ?_
    refine A_isub dX8_tell_228 ⟨by omega, by omega⟩ ?_
    refine A_iast dX8_tell_229 (by assumption) (by omega) (by omega) (fun M229 e229 k229 => ?_)
    exact A_vret hR dX8_tell_230 rfl (by
      refine ⟨rfl, ⟨fun y _ _ c _ _ _ => by rw [e229, upm_c c], fun k _ _ _ _ => by rw [e229, upm_c (by omega)], fun k hk => by rw [e229, upm_c (by omega)]⟩, ?_⟩
      unfold apL
      rw [if_neg (by omega), if_neg (by omega), if_neg (by omega), if_neg (by omega), if_neg (by omega)]
      refine ⟨⟨by rw [e229, upm_c (by omega)]; exact ⟨i0, i1, i2, i3⟩, fun k a b => ?_, by rw [e229, upm_c (by omega), upm_c (by omega)]; exact it, by rw [e229, upm_c (by omega)]; exact ie⟩, ?_⟩
      · show _ = if k = v1 then w - 1 else oK T k
        rw [e229, upm_x]
        by_cases q : k = v1
        · rw [if_pos ⟨rfl, q⟩, if_pos q]
        · rw [if_neg (fun z => q z.2), if_neg q]; exact ik k a b
      · unfold rW
        rw [e229, upm_c (by omega)]
        exact hW)
  · refine A_tsIn (tgt := 216) dX8_tell_29 4 (by omega) (by omega) rfl (by decide) ?_
    have hv := hvk (by omega) (by omega)
    refine A_aload_n dX8_tell_216 rfl ?_
    refine A_getR dX8_tell_217 fl_RX8_27 (by assumption) (by rfl) ?_
    refine A_iload_n dX8_tell_220 rfl ?_
    refine A_aload_n dX8_tell_221 rfl ?_
    refine A_getR dX8_tell_222 fl_RX8_20 (by assumption) (by rfl) ?_
    refine A_iload_n dX8_tell_225 rfl ?_
    refine A_iald dX8_tell_226 (by assumption) (by omega) (by omega) ?_
    rw [e0]
    refine A_iconst dX8_tell_227 (by decide) ?_
    refine A_isub dX8_tell_228 ⟨by omega, by omega⟩ ?_
    refine A_iast dX8_tell_229 (by assumption) (by omega) (by omega) (fun M229 e229 k229 => ?_)
    exact A_vret hR dX8_tell_230 rfl (by
      refine ⟨rfl, ⟨fun y _ _ c _ _ _ => by rw [e229, upm_c c], fun k _ _ _ _ => by rw [e229, upm_c (by omega)], fun k hk => by rw [e229, upm_c (by omega)]⟩, ?_⟩
      unfold apL
      rw [if_neg (by omega), if_neg (by omega), if_neg (by omega), if_neg (by omega), if_neg (by omega)]
      refine ⟨⟨by rw [e229, upm_c (by omega)]; exact ⟨i0, i1, i2, i3⟩, fun k a b => ?_, by rw [e229, upm_c (by omega), upm_c (by omega)]; exact it, by rw [e229, upm_c (by omega)]; exact ie⟩, ?_⟩
      · show _ = if k = v1 then w - 1 else oK T k
        rw [e229, upm_x]
        by_cases q : k = v1
        · rw [if_pos ⟨rfl, q⟩, if_pos q]
        · rw [if_neg (fun z => q z.2), if_neg q]; exact ik k a b
      · unfold rW
        rw [e229, upm_c (by omega)]
        exact hW)
  · refine A_tsIn (tgt := 86) dX8_tell_29 5 (by omega) (by omega) rfl (by decide) ?_
    have hv := hv5 (by omega)
    refine A_aload_n dX8_tell_86 rfl ?_
    refine A_getR dX8_tell_87 fl_RX8_30 (by assumption) (by rfl) ?_
    refine A_aload_n dX8_tell_90 rfl ?_
    refine A_getI (ki := 10) dX8_tell_91 fl_RX8_61 (by assumption) (by rfl) rfl ?_
    rw [i1]
    refine A_iload_n dX8_tell_94 rfl ?_
    refine A_iast dX8_tell_95 (by assumption) (by omega) (by omega) (fun M95 e95 k95 => ?_)
    refine A_aload_n dX8_tell_96 rfl ?_
    refine A_getR dX8_tell_97 fl_RX8_33 (by assumption) (by rfl) ?_
    refine A_aload_n dX8_tell_100 rfl ?_
    refine A_getI (ki := 10) dX8_tell_101 fl_RX8_61 (by assumption) (by rfl) rfl ?_
    rw [show M95 m 10 = oT T by rw [e95, upm_c (by omega)]; exact i1]
    refine A_iload_n dX8_tell_104 rfl ?_
    refine A_iast dX8_tell_105 (by assumption) (by omega) (by omega) (fun M105 e105 k105 => ?_)
    refine A_aload_n dX8_tell_106 rfl ?_
    refine A_getR dX8_tell_107 fl_RX8_7 (by assumption) (by rfl) ?_
    refine A_iload dX8_tell_110 rfl ?_
    refine A_iconst dX8_tell_112 (by decide) ?_
    refine A_iadd dX8_tell_113 ⟨by omega, by omega⟩ ?_
    refine A_aload_n dX8_tell_114 rfl ?_
    refine A_getI (ki := 10) dX8_tell_115 fl_RX8_61 (by assumption) (by rfl) rfl ?_
    rw [show M105 m 10 = oT T by rw [e105, upm_c (by omega), e95, upm_c (by omega)]; exact i1]
    refine A_iadd dX8_tell_118 ⟨by omega, by omega⟩ ?_
    refine A_aload_n dX8_tell_119 rfl ?_
    refine A_getR dX8_tell_120 fl_RX8_20 (by assumption) (by rfl) ?_
    refine A_iload_n dX8_tell_123 rfl ?_
    refine A_iconst dX8_tell_124 (by decide) ?_
    refine A_iadd dX8_tell_125 ⟨by omega, by omega⟩ ?_
    refine A_iald dX8_tell_126 (by assumption) (by omega) (by omega) ?_
    rw [show M105 (m + 4) ((r : Int) + 3) = v3 by rw [e105, upm_c (by omega), e95, upm_c (by omega)]; exact e3]
    refine A_iast dX8_tell_127 (by assumption) (by omega) (by omega) (fun M127 e127 k127 => ?_)
    refine A_aload_n dX8_tell_128 rfl ?_
    refine A_dup dX8_tell_129 rfl ?_
    refine A_getI (ki := 10) dX8_tell_130 fl_RX8_61 (by assumption) (by rfl) rfl ?_
    rw [show M127 m 10 = oT T by rw [e127, upm_c (by omega), e105, upm_c (by omega), e95, upm_c (by omega)]; exact i1]
    refine A_iconst dX8_tell_133 (by decide) ?_
    refine A_iadd dX8_tell_134 ⟨by omega, by omega⟩ ?_
    refine A_putI (ki := 10) dX8_tell_135 fl_RX8_61 fi8_10 (by assumption) (by rfl) rfl (fun M135 e135 k135 => ?_)
    exact A_vret hR dX8_tell_138 rfl (by
      have c0 : ∀ k : Int, k ≠ 10 → M135 m k = M m k := fun k hk => by rw [e135, upm_k hk, e127, upm_c (by omega), e105, upm_c (by omega), e95, upm_c (by omega)]
      have cy : ∀ y, y ≠ m → y ≠ m + 1 → y ≠ m + 6 → y ≠ m + 7 → M135 y = M y := fun y a b c d => by rw [e135, upm_c a, e127, upm_c b, e105, upm_c d, e95, upm_c c]
      have c1 : ∀ k : Int, k ≠ 159 + oT T → M135 (m + 1) k = M (m + 1) k := fun k hk => by rw [e135, upm_c (by omega), e127, upm_k (by omega), e105, upm_c (by omega), e95, upm_c (by omega)]
      refine ⟨rfl, ⟨fun y a b _ d e _ => cy y a b d e, fun k _ kb _ _ => c0 k kb, fun k hk => c1 k (by omega)⟩, ?_⟩
      unfold apL
      rw [if_neg (by omega), if_pos (by omega)]
      refine ⟨⟨⟨by rw [c0 6 (by omega)]; exact i0, by rw [e135, upm_s]; show _ = ((oT T + 1 : Nat) : Int); omega, by rw [c0 12 (by omega)]; exact i2, by rw [c0 13 (by omega)]; exact i3⟩, by rw [cy (m + 5) (by omega) (by omega) (by omega) (by omega)]; exact ik, fun k a b => ⟨?_, ?_⟩, by rw [cy (m + 8) (by omega) (by omega) (by omega) (by omega)]; exact ie⟩, by rw [c1 _ (by omega)]; exact w1, fun k a b => ?_, fun k a b => ⟨by rw [c1 _ (by omega)]; exact (w3 k a b).1, by rw [c1 _ (by omega)]; exact (w3 k a b).2⟩⟩
      · have b : k < ((oT T + 1 : Nat) : Int) := b
        show _ = if k = oT T then v1 else oA T k
        rw [e135, upm_c (by omega), e127, upm_c (by omega), e105, upm_c (by omega), e95, upm_x]
        by_cases q : k = oT T
        · rw [if_pos ⟨rfl, q⟩, if_pos q]
        · rw [if_neg (fun z => q z.2), if_neg q]; exact (it k a (by omega)).1
      · have b : k < ((oT T + 1 : Nat) : Int) := b
        show _ = if k = oT T then v2 else oB T k
        rw [e135, upm_c (by omega), e127, upm_c (by omega), e105, upm_x]
        by_cases q : k = oT T
        · rw [if_pos ⟨rfl, q⟩, if_pos q]
        · rw [if_neg (fun z => q z.2), if_neg q, e95, upm_c (by omega)]; exact (it k a (by omega)).2
      · have b : k < ((oT T + 1 : Nat) : Int) := b
        show _ = if k = oT T then v3 else oS T k
        by_cases q : k = oT T
        · rw [if_pos q, q, e135, upm_c (by omega), e127, upm_x, if_pos ⟨rfl, by omega⟩]
        · rw [if_neg q, c1 _ (by omega)]; exact w2 k a (by omega))
  · refine A_tsIn (tgt := 139) dX8_tell_29 6 (by omega) (by omega) rfl (by decide) ?_
    have hv := hv6 (by omega)
    refine A_aload_n dX8_tell_139 rfl ?_
    refine A_getR dX8_tell_140 fl_RX8_7 (by assumption) (by rfl) ?_
    refine A_iload dX8_tell_143 rfl ?_
    refine A_bipush dX8_tell_145 bp_15 (by decide) ?_
    refine A_iadd dX8_tell_147 ⟨by omega, by omega⟩ ?_
    refine A_aload_n dX8_tell_148 rfl ?_
    refine A_getI (ki := 12) dX8_tell_149 fl_RX8_64 (by assumption) (by rfl) rfl ?_
    rw [i2]
    refine A_iadd dX8_tell_152 ⟨by omega, by omega⟩ ?_
    refine A_iload_n dX8_tell_153 rfl ?_
    refine A_iast dX8_tell_154 (by assumption) (by omega) (by omega) (fun M154 e154 k154 => ?_)
    refine A_aload_n dX8_tell_155 rfl ?_
    refine A_getR dX8_tell_156 fl_RX8_36 (by assumption) (by rfl) ?_
    refine A_aload_n dX8_tell_159 rfl ?_
    refine A_getI (ki := 12) dX8_tell_160 fl_RX8_64 (by assumption) (by rfl) rfl ?_
    rw [show M154 m 12 = oF T by rw [e154, upm_c (by omega)]; exact i2]
    refine A_iload_n dX8_tell_163 rfl ?_
    refine A_iast dX8_tell_164 (by assumption) (by omega) (by omega) (fun M164 e164 k164 => ?_)
    refine A_aload_n dX8_tell_165 rfl ?_
    refine A_getR dX8_tell_166 fl_RX8_7 (by assumption) (by rfl) ?_
    refine A_iload dX8_tell_169 rfl ?_
    refine A_bipush dX8_tell_171 bp_21 (by decide) ?_
    refine A_iadd dX8_tell_173 ⟨by omega, by omega⟩ ?_
    refine A_aload_n dX8_tell_174 rfl ?_
    refine A_getI (ki := 12) dX8_tell_175 fl_RX8_64 (by assumption) (by rfl) rfl ?_
    rw [show M164 m 12 = oF T by rw [e164, upm_c (by omega), e154, upm_c (by omega)]; exact i2]
    refine A_iadd dX8_tell_178 ⟨by omega, by omega⟩ ?_
    refine A_aload_n dX8_tell_179 rfl ?_
    refine A_getR dX8_tell_180 fl_RX8_20 (by assumption) (by rfl) ?_
    refine A_iload_n dX8_tell_183 rfl ?_
    refine A_iconst dX8_tell_184 (by decide) ?_
    refine A_iadd dX8_tell_185 ⟨by omega, by omega⟩ ?_
    refine A_iald dX8_tell_186 (by assumption) (by omega) (by omega) ?_
    rw [show M164 (m + 4) ((r : Int) + 3) = v3 by rw [e164, upm_c (by omega), e154, upm_c (by omega)]; exact e3]
    refine A_iast dX8_tell_187 (by assumption) (by omega) (by omega) (fun M187 e187 k187 => ?_)
    refine A_aload_n dX8_tell_188 rfl ?_
    refine A_dup dX8_tell_189 rfl ?_
    refine A_getI (ki := 12) dX8_tell_190 fl_RX8_64 (by assumption) (by rfl) rfl ?_
    rw [show M187 m 12 = oF T by rw [e187, upm_c (by omega), e164, upm_c (by omega), e154, upm_c (by omega)]; exact i2]
    refine A_iconst dX8_tell_193 (by decide) ?_
    refine A_iadd dX8_tell_194 ⟨by omega, by omega⟩ ?_
    refine A_putI (ki := 12) dX8_tell_195 fl_RX8_64 fi8_12 (by assumption) (by rfl) rfl (fun M195 e195 k195 => ?_)
    exact A_vret hR dX8_tell_198 rfl (by
      have c0 : ∀ k : Int, k ≠ 12 → M195 m k = M m k := fun k hk => by rw [e195, upm_k hk, e187, upm_c (by omega), e164, upm_c (by omega), e154, upm_c (by omega)]
      have cy : ∀ y, y ≠ m → y ≠ m + 1 → y ≠ m + 8 → M195 y = M y := fun y a b c => by rw [e195, upm_c a, e187, upm_c b, e164, upm_c c, e154, upm_c b]
      have c1 : ∀ k : Int, k ≠ 171 + oF T → k ≠ 177 + oF T → M195 (m + 1) k = M (m + 1) k := fun k ha hb => by rw [e195, upm_c (by omega), e187, upm_k (by omega), e164, upm_c (by omega), e154, upm_k (by omega)]
      refine ⟨rfl, ⟨fun y a b _ _ _ f => cy y a b f, fun k _ _ kc _ => c0 k kc, fun k hk => c1 k (by omega) (by omega)⟩, ?_⟩
      unfold apL
      rw [if_neg (by omega), if_neg (by omega), if_pos (by omega)]
      refine ⟨⟨⟨by rw [c0 6 (by omega)]; exact i0, by rw [c0 10 (by omega)]; exact i1, by rw [e195, upm_s]; show _ = ((oF T + 1 : Nat) : Int); omega, by rw [c0 13 (by omega)]; exact i3⟩, by rw [cy (m + 5) (by omega) (by omega) (by omega)]; exact ik, by rw [cy (m + 6) (by omega) (by omega) (by omega), cy (m + 7) (by omega) (by omega) (by omega)]; exact it, fun k a b => ?_⟩, by rw [c1 _ (by omega) (by omega)]; exact w1, fun k a b => by rw [c1 _ (by have b : k < oT T := b; omega) (by have b : k < oT T := b; omega)]; exact w2 k a b, fun k a b => ⟨?_, ?_⟩⟩
      · have b : k < ((oF T + 1 : Nat) : Int) := b
        show _ = if k = oF T then v2 else oE T k
        rw [e195, upm_c (by omega), e187, upm_c (by omega), e164, upm_x]
        by_cases q : k = oF T
        · rw [if_pos ⟨rfl, q⟩, if_pos q]
        · rw [if_neg (fun z => q z.2), if_neg q, e154, upm_c (by omega)]; exact ie k a (by omega)
      · have b : k < ((oF T + 1 : Nat) : Int) := b
        show _ = if k = oF T then v1 else oSt T k
        by_cases q : k = oF T
        · rw [if_pos q, q, e195, upm_c (by omega), e187, upm_k (by omega), e164, upm_c (by omega), e154, upm_x, if_pos ⟨rfl, by omega⟩]
        · rw [if_neg q, c1 _ (by omega) (by omega)]; exact (w3 k a (by omega)).1
      · have b : k < ((oF T + 1 : Nat) : Int) := b
        show _ = if k = oF T then v3 else oSw T k
        by_cases q : k = oF T
        · rw [if_pos q, q, e195, upm_c (by omega), e187, upm_x, if_pos ⟨rfl, by omega⟩]
        · rw [if_neg q, c1 _ (by omega) (by omega)]; exact (w3 k a (by omega)).2)
  · refine A_tsIn (tgt := 199) dX8_tell_29 7 (by omega) (by omega) rfl (by decide) ?_
    refine A_aload_n dX8_tell_199 rfl ?_
    refine A_iload_n dX8_tell_200 rfl ?_
    refine A_putI (ki := 13) dX8_tell_201 fl_RX8_39 fi8_13 (by assumption) (by rfl) rfl (fun M201 e201 k201 => ?_)
    exact A_vret hR dX8_tell_204 rfl (by
      refine ⟨rfl, ⟨fun y a _ _ _ _ _ => by rw [e201, upm_c a], fun k _ _ _ kd => by rw [e201, upm_k kd], fun k _ => by rw [e201, upm_c (by omega)]⟩, ?_⟩
      unfold apL
      rw [if_neg (by omega), if_neg (by omega), if_neg (by omega), if_pos (by omega)]
      refine ⟨⟨⟨by rw [e201, upm_k (by omega)]; exact i0, by rw [e201, upm_k (by omega)]; exact i1, by rw [e201, upm_k (by omega)]; exact i2, by rw [e201, upm_s]⟩, by rw [e201, upm_c (by omega)]; exact ik, by rw [e201, upm_c (by omega), upm_c (by omega)]; exact it, by rw [e201, upm_c (by omega)]; exact ie⟩, ?_⟩
      unfold rW
      rw [e201, upm_c (by omega)]
      exact hW)
  · refine A_tsIn (tgt := 205) dX8_tell_29 8 (by omega) (by omega) rfl (by decide) ?_
    refine A_aload_n dX8_tell_205 rfl ?_
    refine A_getR dX8_tell_206 fl_RX8_7 (by assumption) (by rfl) ?_
    refine A_iload dX8_tell_209 rfl ?_
    refine A_iconst dX8_tell_211 (by decide) ?_
    refine A_iadd dX8_tell_212 ⟨by omega, by omega⟩ ?_
    refine A_iload_n dX8_tell_213 rfl ?_
    refine A_iast dX8_tell_214 (by assumption) (by omega) (by omega) (fun M214 e214 k214 => ?_)
    exact A_vret hR dX8_tell_215 rfl (by
      refine ⟨rfl, ⟨fun y _ b _ _ _ _ => by rw [e214, upm_c b], fun k _ _ _ _ => by rw [e214, upm_c (by omega)], fun k hk => by rw [e214, upm_k (by omega)]⟩, ?_⟩
      unfold apL
      rw [if_neg (by omega), if_neg (by omega), if_neg (by omega), if_neg (by omega), if_pos (by omega)]
      refine ⟨rI_fr hI (fun y hy => by rw [e214, upm_c (by omega)]), by rw [e214, upm_x, if_pos ⟨rfl, by omega⟩], fun k a b => by rw [e214, upm_k (by omega)]; exact w2 k a b, fun k a b => ⟨by rw [e214, upm_k (by omega)]; exact (w3 k a b).1, by rw [e214, upm_k (by omega)]; exact (w3 k a b).2⟩⟩)
  · refine A_tsOut (tgt := 216) dX8_tell_29 (by omega) (by decide) ?_
    exfalso; omega

