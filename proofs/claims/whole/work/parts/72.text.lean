/-! AW: texts that are constants; the JDK's length and charAt of them -/
section ROWSS
variable {E : EN} {mi : MI} {G : CX} {kc ns pc : Nat} {L st : List AV} {M : Mem}
theorem A_getcS {i idx : Nat} (hd : decode mi.2.1 pc = .ok (.getfield idx, 3)) (hlk : Cond.fieldLink mi.1.cls idx "java/lang/String" "coder" "B" ∈ TB) (hi : i < 9) (kk : AW E mi G kc ns (pc + 3) L (vI 0 :: st) M) : AW E mi G kc ns pc L (vS i :: st) M := by
  intro C hs hL hst hM H locs ls hP hS hl
  exact vk_getf (own := mi.1.cls) (v := .int 0) C.1 C.2.1 (hs.2.2.1.1 i hi).2.1 hS C.2.2.2.2.1 (C.2.2.2.2.2.1 _ hlk) (fun _ h => h) hd (kk C hs hL (okc1 ⟨by omega, by omega⟩ (oktl hst)) hM H locs ls hP hS hl)
theorem A_getvS {i idx : Nat} (hd : decode mi.2.1 pc = .ok (.getfield idx, 3)) (hlk : Cond.fieldLink mi.1.cls idx "java/lang/String" "value" "[B" ∈ TB) (hi : i < 9) (kk : AW E mi G kc ns (pc + 3) L (vS (20 + i) :: st) M) : AW E mi G kc ns pc L (vS i :: st) M := by
  intro C hs hL hst hM H locs ls hP hS hl
  exact vk_getf (own := mi.1.cls) (v := .ref (eSa E (20 + i))) C.1 C.2.1 (hs.2.2.1.1 i hi).2.2.1 hS C.2.2.2.2.1 (C.2.2.2.2.2.1 _ hlk) (fun _ h => h) hd (kk C hs hL (okc1 trivial (oktl hst)) hM H locs ls hP hS hl)
theorem A_lenS {i : Nat} (hd : decode mi.2.1 pc = .ok (.arraylength, 1)) (hi : i < 9) (hr : rng ((tLen.getD i 0 : Nat) : Int)) (kk : AW E mi G kc ns (pc + 1) L (vI ((tLen.getD i 0 : Nat) : Int) :: st) M) : AW E mi G kc ns pc L (vS (20 + i) :: st) M := by
  intro C hs hL hst hM H locs ls hP hS hl
  exact va_tlen (v := i32 ((tLen.getD i 0 : Nat) : Int)) C.1 C.2.1 (hs.2.2.1.1 i hi).2.2.2 hS rfl hd (kk C hs hL (okc1 hr (oktl hst)) hM H locs ls hP hS hl)
theorem A_baldS {i : Nat} {k z : Int} (hd : decode mi.2.1 pc = .ok (.baload, 1)) (hi : i < 9) (h0 : 0 ≤ k) (h1 : k < (tLen.getD i 0 : Nat)) (hz : (tByt.getD i []).getD k.toNat 0 = i32 z) (hr : rng z) (kk : AW E mi G kc ns (pc + 1) L (vI z :: st) M) : AW E mi G kc ns pc L (vI k :: vS (20 + i) :: st) M := by
  intro C hs hL hst hM H locs ls hP hS hl
  have hk : rng k := okhd hst
  exact va_tb (i := i32 k) (v := .int (i32 z)) C.1 C.2.1 (hs.2.2.1.1 i hi).2.2.2 hS (i32_in h0 h1 hk) (by rw [i32_clamp h0 hk, hz]) hd (kk C hs hL (okc1 hr (oktl (oktl hst))) hM H locs ls hP hS hl)
theorem A_i2c {x z : Int} (hd : decode mi.2.1 pc = .ok (.i2c, 1)) (he : ((i32 x).toUInt32 % 65536).toInt32 = i32 z) (hr : rng z) (kk : AW E mi G kc ns (pc + 1) L (vI z :: st) M) : AW E mi G kc ns pc L (vI x :: st) M := by
  intro C hs hL hst hM H locs ls hP hS hl
  exact lv_i2c (x := i32 x) C.1 C.2.1 hd he (kk C hs hL (okc1 hr (oktl hst)) hM H locs ls hP hS hl)
theorem A_getsC {idx : Nat} (hd : decode mi.2.1 pc = .ok (.getstatic idx, 3)) (hlk : Cond.fieldLink mi.1.cls idx "java/lang/String" "COMPACT_STRINGS" "Z" ∈ TB) (kk : AW E mi G kc ns (pc + 3) L (vI 1 :: st) M) : AW E mi G kc ns pc L st M := by
  intro C hs hL hst hM H locs ls hP hS hl
  exact va_gets (own := mi.1.cls) (v := .int 1) C.1 C.2.1 hs.2.2.2.2.1 hS C.2.2.2.2.1 (C.2.2.2.2.2.1 _ hlk) (fun _ h => h) hd (kk C hs hL (okc1 ⟨by omega, by omega⟩ hst) hM H locs ls hP hS hl)
theorem A_getsF {idx : Nat} (hd : decode mi.2.1 pc = .ok (.getstatic idx, 3)) (hlk : Cond.fieldLink mi.1.cls idx "jdk/internal/util/Preconditions" "SIOOBE_FORMATTER" "Ljava/util/function/BiFunction;" ∈ TB) (k1 : AW E mi G kc ns (pc + 3) L (vU :: st) M) (k2 : AW E mi G kc ns (pc + 3) L (vS 10 :: st) M) : AW E mi G kc ns pc L st M := by
  intro C hs hL hst hM H locs ls hP hS hl
  rcases hs.2.2.2.2.2 with h | h
  · exact va_gets (own := mi.1.cls) (v := .null) C.1 C.2.1 h hS C.2.2.2.2.1 (C.2.2.2.2.2.1 _ hlk) (fun _ h => h) hd (k1 C hs hL (okc1 trivial hst) hM H locs ls hP hS hl)
  · exact va_gets (own := mi.1.cls) (v := .ref (eSa E 10)) C.1 C.2.1 h hS C.2.2.2.2.1 (C.2.2.2.2.2.1 _ hlk) (fun _ h => h) hd (k2 C hs hL (okc1 trivial hst) hM H locs ls hP hS hl)
theorem A_nret {l : Launch} {d : Nat} {z : Int} {Post : AV → Mem → Prop} {ty : FieldType} (hR : Okr E l d G Post) (hd : decode mi.2.1 pc = .ok (.ireturn, 1)) (ht : mi.2.2.2 = some ty) (hz : narrow ty (.int (i32 z)) = .int (i32 z)) (hp : Post (vI z) M) : AW E mi G 0 0 pc L (vI z :: []) M := by
  intro C hs hL hst hM H locs ls hP hS hl
  rw [hR.1]
  have hA : gA G = eA E := hR.2.1
  rw [hA] at hS
  exact W.zret (v := i32 z) (ty := ty) C.1 C.2.1 (C.2.2.2.1.trans ht) hz (fun t ht hW => ⟨⟨vI z, M, rfl, okhd hst, hM, hp, by rw [ht]; exact hP⟩, hS.F ht⟩) hS.2.2 hd C.2.2.2.2.2.2
theorem A_vSI0 {mj : MI} {d d' idx i : Nat} {Q : Int → Mem → Prop} (hd : decode mi.2.1 pc = .ok (.invokevirtual idx, 3)) (hR : Rm G d kc ns) (hlt : d' < d) (hO : MOK mj 0) (hV : MV mj) (hlink : Cond.methodLink mi.1.cls idx mj.1 ∈ TB) (hi : i < 9) (hq : "java/lang/String" = mj.1.cls) (hw : Nat.ble (wts st) 8 = true) (hc : Cn E (gl G) mj d' [vS i] M (fun r M1 => ∃ z, r = vI z ∧ Q z M1)) (kk : ∀ (z : Int) (M1 : Mem), rng z → okM M1 → Q z M1 → AW E mi G kc ns (pc + 3) L (vI z :: st) M1) : AW E mi G kc ns pc L (vS i :: st) M := by
  intro C hs hL hst hM H locs ls hP hS hl
  refine A_ret (mj := mj) (l := gl G) (st0 := vS i :: st) (rest := st) C hs hS (va_runV (n := 0) (As := []) (rest := st.map (cval E)) (Ts := TB) (own := mi.1.cls) (C := mj.1.cls) (nL := mi.2.2.1) ⟨C.1, C.2.1, C.2.2.1, C.2.2.2.2.1, C.2.2.2.2.2.1⟩ (hc (okc1 trivial (fun _ h => by cases h)) hM) ⟨callB_tb C hR hlt hO hlink, C.2.2.2.2.2.1 _ hV.1, C.2.2.2.2.2.1 _ hV.2⟩ ⟨pC_blind, by rw [← hq]; exact vk_recv hs.2.2.1 hi hS, fun U hU hW => ⟨rfl, by rw [hU]; exact hP, hs.moved hM hP hS hU hW⟩⟩ rfl rfl hl.1 rfl (by rw [wts_eq]; show 0 + wts st ≤ 8; have := Nat.le_of_ble_eq_true hw; omega) hd ⟨hR.2.2.1, hR.2.2.2⟩) (fun r M' hok hM' hp H1 locs1 hP1 hS1 => ?_)
  · obtain ⟨z, rfl, hq⟩ := hp
    exact kk z M' hok hM' hq C hs hL (okc1 hok (oktl hst)) hM' H1 locs1 ls hP1 hS1 hl
theorem A_vSI1 {mj : MI} {d d' idx i : Nat} {a1 : AV} {Q : Int → Mem → Prop} (hd : decode mi.2.1 pc = .ok (.invokevirtual idx, 3)) (hR : Rm G d kc ns) (hlt : d' < d) (hO : MOK mj 1) (hV : MV mj) (hlink : Cond.methodLink mi.1.cls idx mj.1 ∈ TB) (hi : i < 9) (hq : "java/lang/String" = mj.1.cls) (hw : Nat.ble (wts st) 8 = true) (hc : Cn E (gl G) mj d' [vS i, a1] M (fun r M1 => ∃ z, r = vI z ∧ Q z M1)) (kk : ∀ (z : Int) (M1 : Mem), rng z → okM M1 → Q z M1 → AW E mi G kc ns (pc + 3) L (vI z :: st) M1) : AW E mi G kc ns pc L (a1 :: vS i :: st) M := by
  intro C hs hL hst hM H locs ls hP hS hl
  refine A_ret (mj := mj) (l := gl G) (st0 := a1 :: vS i :: st) (rest := st) C hs hS (va_runV (n := 1) (As := [cval E a1]) (rest := st.map (cval E)) (Ts := TB) (own := mi.1.cls) (C := mj.1.cls) (nL := mi.2.2.1) ⟨C.1, C.2.1, C.2.2.1, C.2.2.2.2.1, C.2.2.2.2.2.1⟩ (hc (okc1 trivial (okc1 (okhd hst) (fun _ h => by cases h))) hM) ⟨callB_tb C hR hlt hO hlink, C.2.2.2.2.2.1 _ hV.1, C.2.2.2.2.2.1 _ hV.2⟩ ⟨pC_blind, by rw [← hq]; exact vk_recv hs.2.2.1 hi hS, fun U hU hW => ⟨rfl, by rw [hU]; exact hP, hs.moved hM hP hS hU hW⟩⟩ rfl rfl hl.1 rfl (by rw [wts_eq]; show 0 + wts st ≤ 8; have := Nat.le_of_ble_eq_true hw; omega) hd ⟨hR.2.2.1, hR.2.2.2⟩) (fun r M' hok hM' hp H1 locs1 hP1 hS1 => ?_)
  · obtain ⟨z, rfl, hq⟩ := hp
    exact kk z M' hok hM' hq C hs hL (okc1 hok (oktl (oktl hst))) hM' H1 locs1 ls hP1 hS1 hl
theorem entL_argsU (E : EN) : ∀ (As : List AV) (i : Nat) (m : Nat), ∀ q ∈ lvOf E i (entL As ++ List.replicate m vU), q ∈ lv_args i (As.map (cval E))
  | [], i, m, q, hq => by
    obtain ⟨j, v, h1, h2, h3⟩ := (mem_lvOf _ _).mp hq
    have hv := List.mem_of_getElem? h1
    simp only [entL, List.nil_append] at hv
    rw [(List.mem_replicate.mp hv).2] at h2
    cases h2
  | v :: t, i, m, q, hq => by
    have ht := entL_argsU E t
    rcases v with z | c | z | k | u
    · simp only [entL, List.cons_append, lvOf, isU, List.map_cons, lv_args, cval, Value.category] at hq ⊢
      rcases List.mem_cons.mp (by simpa using hq) with h | h
      · exact List.mem_cons.mpr (Or.inl h)
      · exact List.mem_cons_of_mem _ (by simpa using ht (i + 1) m q h)
    · simp only [entL, List.cons_append, lvOf, isU, List.map_cons, lv_args, cval, Value.category] at hq ⊢
      rcases List.mem_cons.mp (by simpa using hq) with h | h
      · exact List.mem_cons.mpr (Or.inl h)
      · exact List.mem_cons_of_mem _ (by simpa using ht (i + 1) m q h)
    · simp only [entL, List.cons_append, lvOf, isU, List.map_cons, lv_args, cval, Value.category] at hq ⊢
      rcases List.mem_cons.mp (by simpa using hq) with h | h
      · exact List.mem_cons.mpr (Or.inl h)
      · exact List.mem_cons_of_mem _ (by simpa using ht (i + 1 + 1) m q h)
    · simp only [entL, List.cons_append, lvOf, isU, List.map_cons, lv_args, cval, Value.category] at hq ⊢
      rcases List.mem_cons.mp (by simpa using hq) with h | h
      · exact List.mem_cons.mpr (Or.inl h)
      · exact List.mem_cons_of_mem _ (by simpa using ht (i + 1) m q h)
    · simp only [entL, List.cons_append, lvOf, isU, List.map_cons, lv_args, cval, Value.category] at hq ⊢
      exact List.mem_cons_of_mem _ (by simpa using ht (i + 1) m q (by simpa using hq))
/-- a contract out of the walk, null among the arguments too -/
theorem Cn.ofU {l : Launch} {d : Nat} {As : List AV} {Post : AV → Mem → Prop} {L0 : List AV} (hy : plainName mi.1.cls = true) (hn : (lg_sl (As.map (cval E))).length ≤ mi.2.2.1) (m : Nat) (hL0 : entL As ++ List.replicate m vU = L0)
    (h : (∀ v ∈ As, okv v) → okM M → ∀ G : CX, Okr E l d G Post → AW E mi G 0 0 0 L0 [] M) : Cn E l mi d As M Post := by
  intro hAs hM
  refine Met.ofW (cc := mi.2.1) (maxL := mi.2.2.1) (ret := mi.2.2.2) hy rfl ?_
  intro p e s m0 args below meth c s₁ B hml hv
  obtain ⟨rfl, hP, hs⟩ := hv
  have hts := atoms_spec (ws := wsM mi) B.pre
  have hl := lv_entry (As.map (cval E)) hn
  rw [lg_entry_eq]
  refine h hAs hM (p, l, e, rmd d, s, m0, (As.map (cval E)).toArray, below, meth, c, eA E, MQ below (qC E Post) (As.map (cval E)).toArray s 0 0 (eA E)) ⟨rfl, rfl, rfl, rfl⟩ ⟨B.exec, B.bytes, hml, B.returns, findClass_of_methodNamed B.named, fun w hw => hts w (List.mem_cons_of_mem _ hw), B.notSynchronized⟩ hs ?_ (fun v hv => by cases hv) hM s.heap [] _ hP va_S.rf ⟨hl.1, hl.2.1, fun q hq => hl.2.2 q ?_⟩
  · rw [← hL0]
    intro v hv
    rcases List.mem_append.mp hv with hv | hv
    · exact entL_ok As hAs v hv
    · rw [(List.mem_replicate.mp hv).2]; exact trivial
  · rw [← hL0] at hq
    exact entL_argsU E As 0 m q hq
theorem Cn.mono {l : Launch} {d : Nat} {As : List AV} {Post Post' : AV → Mem → Prop} (h : Cn E l mi d As M Post) (hq : ∀ r M1, Post r M1 → Post' r M1) : Cn E l mi d As M Post' := by
  intro hAs hM p e ha hc hk s m args below hf happ hp hk'
  obtain ⟨n, o, h1, h2, h3, ⟨⟨r, M', g1, g2, g3, g4, g5⟩, g6⟩, h5⟩ := h hAs hM p e ha hc hk s m args below hf happ hp hk'
  exact ⟨n, o, h1, h2, h3, ⟨⟨r, M', g1, g2, g3, hq _ _ g4, g5⟩, g6⟩, h5⟩
end ROWSS
theorem fl_RJ0_9 : Cond.fieldLink RJ0 9 "java/lang/String" "value" "[B" ∈ TB := tb_t 1121 (by decide +kernel) (by decide +kernel)
theorem fl_RJ0_15 : Cond.fieldLink RJ0 15 "java/lang/String" "coder" "B" ∈ TB := tb_t 1122 (by decide +kernel) (by decide +kernel)
theorem fl_RJ0_38 : Cond.fieldLink RJ0 38 "java/lang/String" "COMPACT_STRINGS" "Z" ∈ TB := tb_t 372 (by decide +kernel) (by decide +kernel)
theorem fl_RJ0_1053 : Cond.fieldLink RJ0 1053 "jdk/internal/util/Preconditions" "SIOOBE_FORMATTER" "Ljava/util/function/BiFunction;" ∈ TB := tb_t 388 (by decide +kernel) (by decide +kernel)
/-- the words -/
def tWd : List (List Int) := [W0, W1, W2, W3, W4, W5, W6, W7, W8]
theorem tW_ok : ∀ i, i < 9 → tLen.getD i 0 = (tWd.getD i []).length ∧ tLen.getD i 0 ≤ 6 ∧ ∀ k, k < tLen.getD i 0 → (tByt.getD i []).getD k 0 = i32 ((tWd.getD i []).getD k 0) ∧ 0 ≤ (tWd.getD i []).getD k 0 ∧ (tWd.getD i []).getD k 0 < 128 := by decide +kernel
theorem ch_ok : ∀ n : Nat, n < 128 → i32 (n : Int) &&& i32 255 = i32 (n : Int) ∧ ((i32 (n : Int)).toUInt32 % 65536).toInt32 = i32 (n : Int) ∧ narrow .char (.int (i32 (n : Int))) = .int (i32 (n : Int)) := by decide +kernel
theorem sh0_ok : ∀ n : Nat, n < 7 → i32 (n : Int) >>> (i32 0 &&& 31) = i32 (n : Int) := by decide +kernel
set_option maxRecDepth 100000 in
set_option maxHeartbeats 4000000 in
theorem c_coder {E : EN} {l : Launch} {M : Mem} {i : Nat} (hi : i < 9) : Cn E l mJ0_coder_7d493 0 [vS i] M (fun r M1 => ∃ z, r = vI z ∧ (M1 = M ∧ z = 0)) := by
  refine Cn.of (by decide) rfl (Nat.le_of_ble_eq_true rfl) 0 rfl (fun oka okm G hR => ?_)
  refine A_getsC dJ0_coder_7d493_0 fl_RJ0_38 ?_
  refine A_if_eq (tgt := 13) dJ0_coder_7d493_3 (by decide) (fun h3 => absurd h3 (by decide)) (fun h3 => ?_)
  refine A_aload_nS dJ0_coder_7d493_6 rfl ?_
  refine A_getcS dJ0_coder_7d493_7 fl_RJ0_15 hi ?_
  refine A_goto (tgt := 14) dJ0_coder_7d493_10 (by decide) ?_
  exact A_nret hR dJ0_coder_7d493_14 rfl (by decide +kernel) ⟨_, rfl, rfl, rfl⟩
set_option maxRecDepth 100000 in
set_option maxHeartbeats 4000000 in
theorem c_isLatin1 {E : EN} {l : Launch} {M : Mem} {i : Nat} (hi : i < 9) : Cn E l mJ0_isLatin1_aae02 0 [vS i] M (fun r M1 => ∃ z, r = vI z ∧ (M1 = M ∧ z = 1)) := by
  refine Cn.of (by decide) rfl (Nat.le_of_ble_eq_true rfl) 0 rfl (fun oka okm G hR => ?_)
  refine A_getsC dJ0_isLatin1_aae02_0 fl_RJ0_38 ?_
  refine A_if_eq (tgt := 17) dJ0_isLatin1_aae02_3 (by decide) (fun h3 => absurd h3 (by decide)) (fun h3 => ?_)
  refine A_aload_nS dJ0_isLatin1_aae02_6 rfl ?_
  refine A_getcS dJ0_isLatin1_aae02_7 fl_RJ0_15 hi ?_
  refine A_if_ne (tgt := 17) dJ0_isLatin1_aae02_10 (by decide) (fun h3 => absurd rfl h3) (fun h3 => ?_)
  refine A_iconst dJ0_isLatin1_aae02_13 (by decide) ?_
  refine A_goto (tgt := 18) dJ0_isLatin1_aae02_14 (by decide) ?_
  exact A_zret hR dJ0_isLatin1_aae02_18 rfl (Or.inr rfl) ⟨_, rfl, rfl, rfl⟩
set_option maxRecDepth 100000 in
set_option maxHeartbeats 4000000 in
theorem c_length {E : EN} {l : Launch} {M : Mem} {i : Nat} (hi : i < 9) : Cn E l mJ0_length_8abf5 1 [vS i] M (fun r M1 => ∃ z, r = vI z ∧ (M1 = M ∧ z = ((tLen.getD i 0 : Nat) : Int))) := by
  refine Cn.of (by decide) rfl (Nat.le_of_ble_eq_true rfl) 0 rfl (fun oka okm G hR => ?_)
  have tw := tW_ok i hi
  refine A_aload_nS dJ0_length_8abf5_0 rfl ?_
  refine A_getvS dJ0_length_8abf5_1 fl_RJ0_9 hi ?_
  refine A_lenS dJ0_length_8abf5_4 hi ⟨by omega, by omega⟩ ?_
  refine A_aload_nS dJ0_length_8abf5_5 rfl ?_
  refine A_vSI0 (mj := mJ0_coder_7d493) dJ0_length_8abf5_6 hR.rm (by decide) ok_J0_coder_7d493 mv_J0_coder_7d493 ml_RJ0_335 hi rfl rfl (c_coder hi) (fun z6 M6 g6 k6 q6 => ?_)
  obtain ⟨rfl, rfl⟩ := q6
  refine A_ishr (z := ((tLen.getD i 0 : Nat) : Int)) dJ0_length_8abf5_9 (sh0_ok _ (by omega)) ⟨by omega, by omega⟩ ?_
  exact A_iret hR dJ0_length_8abf5_10 rfl ⟨_, rfl, rfl, rfl⟩
set_option maxRecDepth 100000 in
set_option maxHeartbeats 4000000 in
theorem c_chk3 {E : EN} {l : Launch} {M : Mem} {k n : Int} {v : AV} (hv : v = vU ∨ v = vS 10) (h0 : 0 ≤ k) (h1 : k < n) : Cn E l mJ3_checkIndex_8e157 0 [vI k, vI n, v] M (fun r M1 => ∃ z, r = vI z ∧ (M1 = M ∧ z = k)) := by
  have key : ∀ G : CX, Okr E l 0 G (fun r M1 => ∃ z, r = vI z ∧ (M1 = M ∧ z = k)) → AW E mJ3_checkIndex_8e157 G 0 0 0 [vI k, vI n, v] [] M := by
    intro G hR
    refine A_iload_n dJ3_checkIndex_8e157_0 rfl ?_
    refine A_if_lt (tgt := 9) dJ3_checkIndex_8e157_1 (by decide) (fun h => by omega) (fun h => ?_)
    refine A_iload_n dJ3_checkIndex_8e157_4 rfl ?_
    refine A_iload_n dJ3_checkIndex_8e157_5 rfl ?_
    refine A_icmp_lt (tgt := 16) dJ3_checkIndex_8e157_6 (by decide) (fun h => ?_) (fun h => by omega)
    refine A_iload_n dJ3_checkIndex_8e157_16 rfl ?_
    exact A_iret hR dJ3_checkIndex_8e157_17 rfl ⟨_, rfl, rfl, rfl⟩
  rcases hv with rfl | rfl
  · exact Cn.ofU (by decide) (Nat.le_of_ble_eq_true rfl) 0 rfl (fun oka okm G hR => key G hR)
  · exact Cn.ofU (by decide) (Nat.le_of_ble_eq_true rfl) 0 rfl (fun oka okm G hR => key G hR)
set_option maxRecDepth 100000 in
set_option maxHeartbeats 4000000 in
theorem c_checkIndex {E : EN} {l : Launch} {M : Mem} {k n : Int} (h0 : 0 ≤ k) (h1 : k < n) : Cn E l mJ0_checkIndex_df160 1 [vI k, vI n] M (fun r M1 => r = vU ∧ M1 = M) := by
  refine Cn.of (by decide) rfl (Nat.le_of_ble_eq_true rfl) 0 rfl (fun oka okm G hR => ?_)
  refine A_iload_n dJ0_checkIndex_df160_0 rfl ?_
  refine A_iload_n dJ0_checkIndex_df160_1 rfl ?_
  have kk : ∀ v : AV, (v = vU ∨ v = vS 10) → AW E mJ0_checkIndex_df160 G 0 0 5 [vI k, vI n] (v :: vI n :: vI k :: []) M := by
    intro v hv
    refine A_sI3 (mj := mJ3_checkIndex_8e157) dJ0_checkIndex_df160_5 hR.rm (by decide) ok_J3_checkIndex_8e157 st_J3_checkIndex_8e157 ml_RJ0_1059 rfl (c_chk3 hv h0 h1) (fun z5 M5 g5 k5 q5 => ?_)
    obtain ⟨rfl, rfl⟩ := q5
    refine A_pop dJ0_checkIndex_df160_8 rfl ?_
    exact A_vret hR dJ0_checkIndex_df160_9 rfl ⟨rfl, rfl⟩
  exact A_getsF dJ0_checkIndex_df160_2 fl_RJ0_1053 (kk _ (Or.inl rfl)) (kk _ (Or.inr rfl))
set_option maxRecDepth 100000 in
set_option maxHeartbeats 4000000 in
theorem c_charAt1 {E : EN} {l : Launch} {M : Mem} {i k : Nat} (hi : i < 9) (hk : k < tLen.getD i 0) : Cn E l mJ1_charAt_3b067 2 [vS (20 + i), vI k] M (fun r M1 => ∃ z, r = vI z ∧ (M1 = M ∧ z = (tWd.getD i []).getD k 0)) := by
  refine Cn.of (by decide) rfl (Nat.le_of_ble_eq_true rfl) 0 rfl (fun oka okm G hR => ?_)
  have tw := tW_ok i hi
  obtain ⟨tk1, tk2, tk3⟩ := tw.2.2 k hk
  obtain ⟨v, hv⟩ : ∃ v : Nat, (tWd.getD i []).getD k 0 = v := ⟨((tWd.getD i []).getD k 0).toNat, by omega⟩
  have cc := ch_ok v (by omega)
  refine A_iload_n dJ1_charAt_3b067_0 rfl ?_
  refine A_aload_nS dJ1_charAt_3b067_1 rfl ?_
  refine A_lenS dJ1_charAt_3b067_2 hi ⟨by omega, by omega⟩ ?_
  refine A_sV2 (mj := mJ0_checkIndex_df160) dJ1_charAt_3b067_3 hR.rm (by decide) ok_J0_checkIndex_df160 st_J0_checkIndex_df160 ml_RJ1_9 rfl (c_checkIndex (by omega) (by omega)) (fun M3 k3 q3 => ?_)
  subst q3
  refine A_aload_nS dJ1_charAt_3b067_6 rfl ?_
  refine A_iload_n dJ1_charAt_3b067_7 rfl ?_
  refine A_baldS (z := (v : Int)) dJ1_charAt_3b067_8 hi (by omega) (by omega) (by rw [← hv]; exact tk1) ⟨by omega, by omega⟩ ?_
  refine A_sipush dJ1_charAt_3b067_9 sp_255 (by decide) ?_
  refine A_iand (z := (v : Int)) dJ1_charAt_3b067_12 cc.1 ⟨by omega, by omega⟩ ?_
  refine A_i2c (z := (v : Int)) dJ1_charAt_3b067_13 cc.2.1 ⟨by omega, by omega⟩ ?_
  exact A_nret hR dJ1_charAt_3b067_14 rfl cc.2.2 ⟨_, rfl, rfl, hv.symm⟩
set_option maxRecDepth 100000 in
set_option maxHeartbeats 4000000 in
theorem c_charAt {E : EN} {l : Launch} {M : Mem} {i k : Nat} (hi : i < 9) (hk : k < tLen.getD i 0) : Cn E l mJ0_charAt_5068e 3 [vS i, vI k] M (fun r M1 => ∃ z, r = vI z ∧ (M1 = M ∧ z = (tWd.getD i []).getD k 0)) := by
  refine Cn.of (by decide) rfl (Nat.le_of_ble_eq_true rfl) 0 rfl (fun oka okm G hR => ?_)
  have tw := tW_ok i hi
  obtain ⟨tk1, tk2, tk3⟩ := tw.2.2 k hk
  obtain ⟨v, hv⟩ : ∃ v : Nat, (tWd.getD i []).getD k 0 = v := ⟨((tWd.getD i []).getD k 0).toNat, by omega⟩
  have cc := ch_ok v (by omega)
  refine A_aload_nS dJ0_charAt_5068e_0 rfl ?_
  refine A_vSI0 (mj := mJ0_isLatin1_aae02) dJ0_charAt_5068e_1 hR.rm (by decide) ok_J0_isLatin1_aae02 mv_J0_isLatin1_aae02 ml_RJ0_492 hi rfl rfl (c_isLatin1 hi) (fun z1 M1 g1 k1 q1 => ?_)
  obtain ⟨rfl, rfl⟩ := q1
  refine A_if_eq (tgt := 16) dJ0_charAt_5068e_4 (by decide) (fun h3 => absurd h3 (by decide)) (fun h3 => ?_)
  refine A_aload_nS dJ0_charAt_5068e_7 rfl ?_
  refine A_getvS dJ0_charAt_5068e_8 fl_RJ0_9 hi ?_
  refine A_iload_n dJ0_charAt_5068e_11 rfl ?_
  refine A_sI2 (mj := mJ1_charAt_3b067) dJ0_charAt_5068e_12 hR.rm (by decide) ok_J1_charAt_3b067 st_J1_charAt_3b067 ml_RJ0_495 rfl (c_charAt1 hi hk) (fun z12 M12 g12 k12 q12 => ?_)
  obtain ⟨rfl, rfl⟩ := q12
  exact A_nret hR dJ0_charAt_5068e_15 rfl (by rw [hv]; exact cc.2.2) ⟨_, rfl, rfl, rfl⟩
