/-! AW: the heap, calls, a method's entry and end -/
def At (E : EN) (c : Nat) (x : Shp) : Prop := c < eN E ∧ eSh E c = x
abbrev aI (n : Nat) (g : Nat → Option Nat) : Shp := .inr (0, n, g)
abbrev aZ (n : Nat) (g : Nat → Option Nat) : Shp := .inr (1, n, g)
abbrev aR (n : Nat) (g : Nat → Option Nat) : Shp := .inr (2, n, g)
theorem At.obj {E : EN} {c ci : Nat} {fs : List (Option (Option Nat))} {M : Mem} (h : At E c (.inl (ci, fs))) : (WS E M)[c]? = some (eAd E c, .inr (ci, fs.mapIdx (fun k o => fval E M c k o))) := by
  rw [WS_at h.1]; unfold ccell; rw [h.2]
theorem At.ai {E : EN} {c n : Nat} {g : Nat → Option Nat} {M : Mem} (h : At E c (aI n g)) : (WS E M)[c]? = some (eAd E c, .inl ((eCs E).1, n, .inl (fun k => i32 (M c k)))) := by
  rw [WS_at h.1]; unfold ccell; rw [h.2]; rfl
theorem At.az {E : EN} {c n : Nat} {g : Nat → Option Nat} {M : Mem} (h : At E c (aZ n g)) : (WS E M)[c]? = some (eAd E c, .inl ((eCs E).2.1, n, .inl (fun k => i32 (M c k)))) := by
  rw [WS_at h.1]; unfold ccell; rw [h.2]; rfl
theorem At.ar {E : EN} {c n : Nat} {g : Nat → Option Nat} {M : Mem} (h : At E c (aR n g)) : (WS E M)[c]? = some (eAd E c, .inl ((eCs E).2.2, n, .inr (.inr (.inr (.inr (fun k => (g k).map (eAd E))))))) := by
  rw [WS_at h.1]; unfold ccell; rw [h.2]; rfl
section ROWS2
variable {E : EN} {mi : MI} {G : CX} {kc ns pc : Nat} {L st : List AV} {M : Mem}
theorem A_getV {c ci k idx : Nat} {fs : List (Option (Option Nat))} {o : Option (Option Nat)} {v : AV} (hd : decode mi.2.1 pc = .ok (.getfield idx, 3)) (hF : FL mi.1.cls idx ci k) (ha : At E c (.inl (ci, fs))) (hf : fs[k]? = some o) (hv : fval E M c k o = cval E v) (hok : okM M → okv v) (kk : AW E mi G kc ns (pc + 3) L (v :: st) M) : AW E mi G kc ns pc L (vR c :: st) M := by
  intro C hs hL hst hM H locs ls hP hS hl
  obtain ⟨X, T, N, ⟨h1, h2, -, -⟩, h4, h5, h6⟩ := hF
  exact va_get (own := mi.1.cls) (ref := X) (C := X) (T := T) (N := N) (ci := ci) (Ts := TB) C.1 C.2.1 C.2.2.2.2.2.1 h2 C.2.2.2.2.1 hs.1 hP c ha.obj h1 k h4 (C.2.2.2.2.2.1 _ h6) (by rw [h5]; exact fun _ h => h) (v := cval E v) (by rw [List.getElem?_mapIdx, hf]; exact congrArg some hv) hd (kk C hs hL (okc1 (hok hM) (oktl hst)) hM H locs ls hP hS hl)
theorem A_getI {c ci k idx : Nat} {ki : Int} {fs : List (Option (Option Nat))} (hd : decode mi.2.1 pc = .ok (.getfield idx, 3)) (hF : FL mi.1.cls idx ci k) (ha : At E c (.inl (ci, fs))) (hf : fs[k]? = some none) (hk : ((k : Nat) : Int) = ki) (kk : AW E mi G kc ns (pc + 3) L (vI (M c ki) :: st) M) : AW E mi G kc ns pc L (vR c :: st) M := by
  subst hk
  exact A_getV (v := vI (M c k)) hd hF ha hf rfl (fun h => h c k) kk
theorem A_getR {c ci k idx j : Nat} {fs : List (Option (Option Nat))} (hd : decode mi.2.1 pc = .ok (.getfield idx, 3)) (hF : FL mi.1.cls idx ci k) (ha : At E c (.inl (ci, fs))) (hf : fs[k]? = some (some (some j))) (kk : AW E mi G kc ns (pc + 3) L (vR j :: st) M) : AW E mi G kc ns pc L (vR c :: st) M :=
  A_getV (v := vR j) hd hF ha hf rfl (fun _ => trivial) kk
theorem A_putI {c ci k idx : Nat} {z ki : Int} {fs : List (Option (Option Nat))} (hd : decode mi.2.1 pc = .ok (.putfield idx, 3)) (hF : FL mi.1.cls idx ci k) (hI : FI ci k) (ha : At E c (.inl (ci, fs))) (hf : fs[k]? = some none) (hk : ((k : Nat) : Int) = ki) (kk : ∀ M1 : Mem, M1 = upm M c ki z → okM M1 → AW E mi G kc ns (pc + 3) L st M1) : AW E mi G kc ns pc L (vI z :: vR c :: st) M := by
  intro C hs hL hst hM H locs ls hP hS hl
  obtain ⟨X, T, N, ⟨h1, h2, ⟨ty0, h3⟩, h3'⟩, h4, h5, h6⟩ := hF
  subst hk
  obtain ⟨X', T', N', i1, i2, i3⟩ := hI
  have e := i1.symm.trans h1
  cases e
  have hlen : k < (fs.mapIdx (fun k o => fval E M c k o)).length := by
    rw [List.length_mapIdx]
    exact (List.getElem?_eq_some_iff.mp hf).1
  have hnew : (Sum.inr (ci, (fs.mapIdx (fun k o => fval E M c k o)).set k (.int (i32 z))) : va_E) = ccell E (upm M c k z) c := by
    unfold ccell; rw [ha.2]
    refine congrArg _ (congrArg _ ?_)
    apply List.ext_getElem?
    intro j
    rw [List.getElem?_set, List.getElem?_mapIdx, List.getElem?_mapIdx]
    by_cases hj : k = j
    · subst hj
      rw [if_pos rfl, if_pos hlen, hf]
      simp [fval, upm]
    · rw [if_neg hj]
      cases h : fs[j]? with
      | none => rfl
      | some o =>
        rcases o with _ | _ | o
        · simp only [Option.map_some, fval, upm]
          rw [if_neg (by omega)]
        · rfl
        · rfl
  refine va_put (own := mi.1.cls) (ref := X) (C := X) (T := T) (N := N) (ci := ci) (Ts := TB) (ty := .int) (v := .int (i32 z)) C.1 C.2.1 C.2.2.2.2.2.1 h2 ty0 h3 h3' C.2.2.2.2.1 hs.1 hP (hs.2.1.D M) hS c ha.obj h1 k h4 (C.2.2.2.2.2.1 _ h6) (by rw [h5]; exact fun _ h => h) i2 i3 rfl rfl hlen hd (fun H1 locs1 hP1 hD1 hS1 => ?_)
  rw [WS_set ha.1 hnew] at hP1
  exact kk _ rfl (okM_upm hM (okhd hst)) C hs hL (oktl (oktl hst)) (okM_upm hM (okhd hst)) H1 locs1 ls hP1 hS1 hl
theorem A_iald {c n : Nat} {i : Int} {g : Nat → Option Nat} (hd : decode mi.2.1 pc = .ok (.iaload, 1)) (ha : At E c (aI n g)) (h0 : 0 ≤ i) (h1 : i < n) (kk : AW E mi G kc ns (pc + 1) L (vI (M c i) :: st) M) : AW E mi G kc ns pc L (vI i :: vR c :: st) M := by
  intro C hs hL hst hM H locs ls hP hS hl
  have hr : rng i := okhd hst
  have w := kk C hs hL (okc1 (hM c i) (oktl (oktl hst))) hM H locs ls hP hS hl
  refine va_iald (i := i32 i) C.1 C.2.1 hs.1 hP c 0 ha.ai rfl (i32_in h0 h1 hr) hd ?_
  rw [i32_clamp h0 hr, show ((i.toNat : Nat) : Int) = i from Int.toNat_of_nonneg h0]
  exact w
theorem A_zald {c n : Nat} {i : Int} {g : Nat → Option Nat} (hd : decode mi.2.1 pc = .ok (.baload, 1)) (ha : At E c (aZ n g)) (h0 : 0 ≤ i) (h1 : i < n) (kk : AW E mi G kc ns (pc + 1) L (vI (M c i) :: st) M) : AW E mi G kc ns pc L (vI i :: vR c :: st) M := by
  intro C hs hL hst hM H locs ls hP hS hl
  have hr : rng i := okhd hst
  have w := kk C hs hL (okc1 (hM c i) (oktl (oktl hst))) hM H locs ls hP hS hl
  refine va_zald (i := i32 i) C.1 C.2.1 hs.1 hP c 1 ha.az rfl (i32_in h0 h1 hr) hd ?_
  rw [i32_clamp h0 hr, show ((i.toNat : Nat) : Int) = i from Int.toNat_of_nonneg h0]
  exact w
theorem A_aald {c n j : Nat} {i : Int} {g : Nat → Option Nat} (hd : decode mi.2.1 pc = .ok (.aaload, 1)) (ha : At E c (aR n g)) (h0 : 0 ≤ i) (h1 : i < n) (hj : g i.toNat = some j) (kk : AW E mi G kc ns (pc + 1) L (vR j :: st) M) : AW E mi G kc ns pc L (vI i :: vR c :: st) M := by
  intro C hs hL hst hM H locs ls hP hS hl
  have hr : rng i := okhd hst
  have w := kk C hs hL (okc1 trivial (oktl (oktl hst))) hM H locs ls hP hS hl
  refine va_aldq (i := i32 i) C.1 C.2.1 hs.1 hP c 2 ha.ar rfl (i32_in h0 h1 hr) hd ?_
  rw [i32_clamp h0 hr, hj]
  exact w
theorem A_alen {c n : Nat} {tk : Nat} {g : Nat → Option Nat} (hd : decode mi.2.1 pc = .ok (.arraylength, 1)) (ha : At E c (.inr (tk, n, g))) (hn : n < 2147483648) (kk : AW E mi G kc ns (pc + 1) L (vI n :: st) M) : AW E mi G kc ns pc L (vR c :: st) M := by
  intro C hs hL hst hM H locs ls hP hS hl
  have w := kk C hs hL (okc1 ⟨by omega, by omega⟩ (oktl hst)) hM H locs ls hP hS hl
  have e : Int32.ofNat n = i32 (n : Int) := rfl
  match tk, ha with
  | 0, ha => exact va_alen (x := (n, .inl (fun k : Nat => i32 (M c k)))) C.1 C.2.1 hs.1 hP c 0 ha.ai rfl e hd w
  | 1, ha => exact va_alen (x := (n, .inl (fun k : Nat => i32 (M c k)))) C.1 C.2.1 hs.1 hP c 1 ha.az rfl e hd w
  | tk + 2, ha =>
    have h2 : (WS E M)[c]? = some (eAd E c, .inl ((eCs E).2.2, n, .inr (.inr (.inr (.inr (fun k => (g k).map (eAd E))))))) := by
      rw [WS_at ha.1]; unfold ccell; rw [ha.2]; rfl
    exact va_alen C.1 C.2.1 hs.1 hP c 2 h2 rfl e hd w
theorem A_iast {c n : Nat} {i z : Int} {g : Nat → Option Nat} (hd : decode mi.2.1 pc = .ok (.iastore, 1))  (ha : At E c (aI n g)) (h0 : 0 ≤ i) (h1 : i < n) (kk : ∀ M1 : Mem, M1 = upm M c i z → okM M1 → AW E mi G kc ns (pc + 1) L st M1) : AW E mi G kc ns pc L (vI z :: vI i :: vR c :: st) M := by
  intro C hs hL hst hM H locs ls hP hS hl
  have hr : rng i := okhd (oktl hst)
  have hnew : (Sum.inl ((eCs E).1, n, Sum.inl (upd (fun k : Nat => i32 (M c k)) (i32 i).toNatClampNeg (i32 z))) : va_E) = ccell E (upm M c i z) c := by
    unfold ccell; rw [ha.2]
    refine congrArg _ (congrArg _ (congrArg _ (congrArg _ ?_)))
    funext k
    rw [i32_clamp h0 hr]
    unfold upd upm
    by_cases hk : k = i.toNat
    · rw [if_pos hk, if_pos ⟨rfl, by omega⟩]
    · rw [if_neg hk, if_neg (fun q => hk (by omega))]
  refine va_iast (i := i32 i) (x := i32 z) C.1 C.2.1 hs.1 hP (hs.2.1.D M) hS c 0 ha.ai rfl (i32_in h0 h1 hr) hd (fun H1 locs1 hP1 hD1 hS1 => ?_)
  rw [WS_set ha.1 hnew] at hP1
  exact kk _ rfl (okM_upm hM (okhd hst)) C hs hL (oktl (oktl (oktl hst))) (okM_upm hM (okhd hst)) H1 locs1 ls hP1 hS1 hl
theorem A_zast {c n : Nat} {i z : Int} {g : Nat → Option Nat} (hd : decode mi.2.1 pc = .ok (.bastore, 1)) (hz : z = 0 ∨ z = 1) (ha : At E c (aZ n g)) (h0 : 0 ≤ i) (h1 : i < n) (kk : ∀ M1 : Mem, M1 = upm M c i z → okM M1 → AW E mi G kc ns (pc + 1) L st M1) : AW E mi G kc ns pc L (vI z :: vI i :: vR c :: st) M := by
  intro C hs hL hst hM H locs ls hP hS hl
  have hr : rng i := okhd (oktl hst)
  have hnew : (Sum.inl ((eCs E).2.1, n, Sum.inl (upd (fun k : Nat => i32 (M c k)) (i32 i).toNatClampNeg (i32 z))) : va_E) = ccell E (upm M c i z) c := by
    unfold ccell; rw [ha.2]
    refine congrArg _ (congrArg _ (congrArg _ (congrArg _ ?_)))
    funext k
    rw [i32_clamp h0 hr]
    unfold upd upm
    by_cases hk : k = i.toNat
    · rw [if_pos hk, if_pos ⟨rfl, by omega⟩]
    · rw [if_neg hk, if_neg (fun q => hk (by omega))]
  refine va_zast (i := i32 i) (x := i32 z) C.1 C.2.1 hs.1 hP (hs.2.1.D M) hS c 1 ha.az rfl (i32_in h0 h1 hr) hd (fun H1 locs1 hP1 hD1 hS1 => ?_)
  have en : vp_nar .boolean (i32 z) = i32 z := by rcases hz with rfl | rfl <;> decide +kernel
  rw [en] at hP1
  rw [WS_set ha.1 hnew] at hP1
  exact kk _ rfl (okM_upm hM (okhd hst)) C hs hL (oktl (oktl (oktl hst))) (okM_upm hM (okhd hst)) H1 locs1 ls hP1 hS1 hl
theorem A_iret {l : Launch} {d : Nat} {z : Int} {Post : AV → Mem → Prop} (hR : Okr E l d G Post) (hd : decode mi.2.1 pc = .ok (.ireturn, 1)) (ht : mi.2.2.2 = some .int) (hp : Post (vI z) M) : AW E mi G 0 0 pc L (vI z :: []) M := by
  intro C hs hL hst hM H locs ls hP hS hl
  rw [hR.1]
  have hA : gA G = eA E := hR.2.1
  rw [hA] at hS
  exact W.iret (v := i32 z) C.1 C.2.1 (C.2.2.2.1.trans ht) (fun t ht hW => ⟨⟨vI z, M, rfl, okhd hst, hM, hp, by rw [ht]; exact hP⟩, hS.F ht⟩) hS.2.2 hd C.2.2.2.2.2.2
theorem A_zret {l : Launch} {d : Nat} {z : Int} {Post : AV → Mem → Prop} (hR : Okr E l d G Post) (hd : decode mi.2.1 pc = .ok (.ireturn, 1)) (ht : mi.2.2.2 = some .boolean) (hz : z = 0 ∨ z = 1) (hp : Post (vI z) M) : AW E mi G 0 0 pc L (vI z :: []) M := by
  intro C hs hL hst hM H locs ls hP hS hl
  rw [hR.1]
  have hA : gA G = eA E := hR.2.1
  rw [hA] at hS
  exact W.zret (v := i32 z) (ty := .boolean) C.1 C.2.1 (C.2.2.2.1.trans ht) (by rcases hz with rfl | rfl <;> decide +kernel) (fun t ht hW => ⟨⟨vI z, M, rfl, okhd hst, hM, hp, by rw [ht]; exact hP⟩, hS.F ht⟩) hS.2.2 hd C.2.2.2.2.2.2
theorem A_vret {l : Launch} {d : Nat} {Post : AV → Mem → Prop} (hR : Okr E l d G Post) (hd : decode mi.2.1 pc = .ok (.return_, 1)) (ht : mi.2.2.2 = none) (hp : Post vU M) : AW E mi G 0 0 pc L [] M := by
  intro C hs hL hst hM H locs ls hP hS hl
  rw [hR.1]
  have hA : gA G = eA E := hR.2.1
  rw [hA] at hS
  exact W.vret C.1 C.2.1 (C.2.2.2.1.trans ht) (fun t ht hW => ⟨⟨vU, M, rfl, trivial, hM, hp, by rw [ht]; exact hP⟩, hS.F ht⟩) hS.2.2 hd C.2.2.2.2.2.2
theorem A_aret {l : Launch} {d : Nat} {c : Nat} {Post : AV → Mem → Prop} (hR : Okr E l d G Post) (hd : decode mi.2.1 pc = .ok (.areturn, 1)) {nm : String} (ht : mi.2.2.2 = some (.object nm)) (hp : Post (vR c) M) : AW E mi G 0 0 pc L (vR c :: []) M := by
  intro C hs hL hst hM H locs ls hP hS hl
  rw [hR.1]
  have hA : gA G = eA E := hR.2.1
  rw [hA] at hS
  exact W.aret (v := .ref (eAd E c)) C.1 C.2.1 (C.2.2.2.1.trans ht) (Or.inl ⟨_, rfl⟩) (Or.inr ⟨_, rfl⟩) (fun t ht hW => ⟨⟨vR c, M, rfl, trivial, hM, hp, by rw [ht]; exact hP⟩, hS.F ht⟩) hS.2.2 hd C.2.2.2.2.2.2
/-- the locals at entry -/
def entL : List AV → List AV
  | [] => []
  | .inr (.inr (.inl z)) :: t => vL z :: vU :: entL t
  | v :: t => v :: entL t
theorem entL_args (E : EN) : ∀ (As : List AV) (i : Nat) (m : Nat), (∀ v ∈ As, isU v = false) → ∀ q ∈ lvOf E i (entL As ++ List.replicate m vU), q ∈ lv_args i (As.map (cval E))
  | [], i, m, _, q, hq => by
    obtain ⟨j, v, h1, h2, h3⟩ := (mem_lvOf _ _).mp hq
    have hv := List.mem_of_getElem? h1
    simp only [entL, List.nil_append] at hv
    rw [(List.mem_replicate.mp hv).2] at h2
    cases h2
  | v :: t, i, m, hu, q, hq => by
    have ht := entL_args E t
    have hut : ∀ w ∈ t, isU w = false := fun w hw => hu w (List.mem_cons_of_mem _ hw)
    have hv := hu v List.mem_cons_self
    rcases v with z | c | z | k | u
    · simp only [entL, List.cons_append, lvOf, isU, List.map_cons, lv_args, cval, Value.category] at hq ⊢
      rcases List.mem_cons.mp (by simpa using hq) with h | h
      · exact List.mem_cons.mpr (Or.inl h)
      · exact List.mem_cons_of_mem _ (by simpa using ht (i + 1) m hut q h)
    · simp only [entL, List.cons_append, lvOf, isU, List.map_cons, lv_args, cval, Value.category] at hq ⊢
      rcases List.mem_cons.mp (by simpa using hq) with h | h
      · exact List.mem_cons.mpr (Or.inl h)
      · exact List.mem_cons_of_mem _ (by simpa using ht (i + 1) m hut q h)
    · simp only [entL, List.cons_append, lvOf, isU, List.map_cons, lv_args, cval, Value.category] at hq ⊢
      rcases List.mem_cons.mp (by simpa using hq) with h | h
      · exact List.mem_cons.mpr (Or.inl h)
      · exact List.mem_cons_of_mem _ (by simpa using ht (i + 1 + 1) m hut q h)
    · simp only [entL, List.cons_append, lvOf, isU, List.map_cons, lv_args, cval, Value.category] at hq ⊢
      rcases List.mem_cons.mp (by simpa using hq) with h | h
      · exact List.mem_cons.mpr (Or.inl h)
      · exact List.mem_cons_of_mem _ (by simpa using ht (i + 1) m hut q h)
    · cases hv
theorem entL_ok : ∀ (As : List AV), (∀ v ∈ As, okv v) → ∀ v ∈ entL As, okv v
  | [], _, v, hv => by cases hv
  | a :: t, h, v, hv => by
    have ih := entL_ok t (fun w hw => h w (List.mem_cons_of_mem _ hw))
    have ha := h a List.mem_cons_self
    rcases a with z | c | z | k | u <;> simp only [entL, List.mem_cons] at hv
    · rcases hv with rfl | hv
      · exact ha
      · exact ih v hv
    · rcases hv with rfl | hv
      · exact ha
      · exact ih v hv
    · rcases hv with rfl | rfl | hv
      · exact ha
      · exact trivial
      · exact ih v hv
    · rcases hv with rfl | hv
      · exact ha
      · exact ih v hv
    · rcases hv with rfl | hv
      · exact ha
      · exact ih v hv
/-- a contract out of the walk -/
theorem Cn.of {l : Launch} {d : Nat} {As : List AV} {Post : AV → Mem → Prop} {L0 : List AV} (hy : plainName mi.1.cls = true) (hu : As.all (fun v => !isU v) = true) (hn : (lg_sl (As.map (cval E))).length ≤ mi.2.2.1) (m : Nat) (hL0 : entL As ++ List.replicate m vU = L0)
    (h : (∀ v ∈ As, okv v) → okM M → ∀ G : CX, Okr E l d G Post → AW E mi G 0 0 0 L0 [] M) : Cn E l mi d As M Post := by
  intro hAs hM
  refine Met.ofW (cc := mi.2.1) (maxL := mi.2.2.1) (ret := mi.2.2.2) hy rfl ?_
  intro p e s m0 args below meth c s₁ B hml hv
  obtain ⟨rfl, hP, hs⟩ := hv
  have hts := atoms_spec (ws := wsM mi) B.pre
  have hl := lv_entry (As.map (cval E)) hn
  rw [lg_entry_eq]
  refine h hAs hM (p, l, e, rmd d, s, m0, (As.map (cval E)).toArray, below, meth, c, eA E, MQ below (qC E Post) (As.map (cval E)).toArray s 0 0 (eA E)) ⟨rfl, rfl, rfl, rfl⟩ ⟨B.exec, B.bytes, hml, B.returns, findClass_of_methodNamed B.named, fun w hw => hts w (List.mem_cons_of_mem _ hw), B.notSynchronized⟩ hs ?_ (fun v hv => by cases hv) hM s.heap [] _ hP va_S.rf ⟨hl.1, hl.2.1, fun q hq => hl.2.2 q ?_⟩
  · rw [← hL0]
    intro v hv
    rcases List.mem_append.mp hv with hv | hv
    · exact entL_ok As hAs v hv
    · rw [(List.mem_replicate.mp hv).2]; exact trivial
  · rw [← hL0] at hq
    exact entL_args E As 0 m (fun v hv => by simpa using List.all_eq_true.mp hu v hv) q hq
theorem pC_blind {As : List AV} : FrameBlind (pC E As M) := fun a U g mk ⟨h1, h2, h3⟩ =>
  have q : U.vm.Alike (U.calling g mk a).vm := Vm.Alike.refl U.vm
  ⟨h1, h2, va_K.moved (u := U) (U := U.calling g mk a) q h3.1, h3.2.1, vk_S.moved (u := U) (U := U.calling g mk a) q h3.2.2.1, fun i hi => vk_R.same (u := U) (U := U.calling g mk a) rfl (h3.2.2.2.1 i hi), va_Z.moved (u := U) (U := U.calling g mk a) q h3.2.2.2.2.1,
    h3.2.2.2.2.2.elim (fun h => Or.inl (va_Z.moved (u := U) (U := U.calling g mk a) q h)) (fun h => Or.inr (va_Z.moved (u := U) (U := U.calling g mk a) q h))⟩
theorem Sta.moved {A : Nat → Prop} {s U : State} {H : Heap} {locs : List Loc} (h : Sta E A s) (hM : okM M) (hP : va_P (eD E) vwCl (WS E M) H) (hS : va_S A s.heap H locs) (hU : U.heap = H) (hW : s.WarmedH U.vm) : Sta E (eA E) U := by
  have hsub : ∀ q, eA E q → A q := fun q ⟨i, hi, hq⟩ => by rw [hq]; exact h.2.1.2 i hi
  have z : ∀ {C n d : String} {v : Value}, va_Z C n d v A s s.heap → va_Z C n d v (eA E) U U.heap := fun hz => by
    rw [hU]
    exact ((hz.kept hS.2.1).moved hW.alike).narrow hsub
  refine ⟨va_K.moved hW.alike h.1, ⟨h.2.1.1, fun i hi => ⟨i, hi, rfl⟩⟩, ?_, fun i hi => (h.2.2.2.1 i hi).warm hW, z h.2.2.2.2.1, h.2.2.2.2.2.elim (fun h => Or.inl (z h)) (fun h => Or.inr (z h))⟩
  rw [hU]
  exact ((h.2.2.1.kept hS.2.1).moved hW.alike).narrow hsub
def wts (st : List AV) : Nat := (st.map (fun v => (match v with | .inr (.inr (.inl _)) => 2 | _ => 1 : Nat))).sum
theorem wts_eq (st : List AV) : ((st.map (cval E)).map fun v => v.category).sum = wts st := by
  unfold wts
  rw [List.map_map]
  congr 1
  apply List.map_congr_left
  intro v hv
  rcases v with z | c | z | k | u <;> rfl
theorem callB_tb {mj : MI} {d d' n idx : Nat} (C : Okc mi G) (hR : Rm G d kc ns) (hlt : d' < d) (hO : MOK mj n) (hlink : Cond.methodLink mi.1.cls idx mj.1 ∈ TB) : CallB (gR G) (gs G) (ga G) mi.1.cls idx mj.1 mj.2.1 mj.2.2.1 mj.2.2.2 (wsM mj) (rmd d') 0 0 n :=
  callB_of (Ts := TB) (ws' := TB) n C.2.2.2.2.2.1 (wsM_good (mi := mj) (y := mj.1) (b := mj.2.1) (n := mj.2.2.1) (r := mj.2.2.2) hO.1) rfl rfl rfl (C.2.2.2.2.2.1 _ hO.2.1) (C.2.2.2.2.2.1 _ hlink) hO.2.2.1 ⟨Nat.le_trans (by show d' + 1 ≤ d; omega) hR.1, by
    have h1 := hR.2.1
    have h2 := hO.2.2.2
    show 8 + (mj.2.2.1 + 11) + 40 * d' ≤ _
    omega⟩
theorem A_ret {mj : MI} {l : Launch} {Post : AV → Mem → Prop} {A1 : Array Value} {rest st0 : List AV} {lsx : Array Slot} {H : Heap} {locs : List Loc} (C : Okc mi G) (hs : Sta E (gA G) (gs G)) (hS : va_S (gA G) (gs G).heap H locs)
    (hr : va_Run (gp G) (gl G) (ge G) (gR G) (gs G) (gm G) (ga G) (gb G) (gt G) (gc G) H locs kc ns 0 0 (F0 (gm G) pc lsx (st0.map (cval E))) (rest.map (cval E)) (qC E Post A1) (eA E))
    (kk : ∀ r M', okv r → okM M' → Post r M' → ∀ (H1 : Heap) (locs1 : List Loc), va_P (eD E) vwCl (WS E M') H1 → va_S (gA G) (gs G).heap H1 locs1 → W (gp G) (gl G) (ge G) (gR G) (gs G) (gm G) (ga G) (gb G) (gt G) (gc G) H1 locs1 kc ns (gQ G) (F0 (gm G) (pc + 3) lsx ((rout E r).toList ++ rest.map (cval E)))) :
    W (gp G) (gl G) (ge G) (gR G) (gs G) (gm G) (ga G) (gb G) (gt G) (gc G) H locs kc ns (gQ G) (F0 (gm G) pc lsx (st0.map (cval E))) := by
  intro T hT X
  obtain ⟨v, st₀, t, T', L1, h0, X', hL1, e1, e2, ⟨⟨r, M', hv, hok, hM', hp, hP'⟩, hz, hk⟩, stp⟩ := hr T hT X
  cases hv
  rw [h0] at hz hk
  have hsub : ∀ q, eA E q → gA G q := fun q ⟨i, hi, hq⟩ => by rw [hq]; exact hs.2.1.2 i hi
  obtain ⟨t2, a1, b1⟩ := kk r M' hok hM' hp T'.heap (locs ++ L1) (by rw [e1]; exact hP')
    ⟨Nat.le_trans hS.1 (by rw [e1]; exact hz), fun q h1 h2 => by rw [e1, hk q (Nat.lt_of_lt_of_le h1 hS.1) (fun z => h2 (hsub q z))]; exact hS.2.1 q h1 h2, fun q hq => by
      rcases List.mem_append.mp hq with h | h
      · exact hS.2.2 q h
      · exact hsub _ (hL1 q h)⟩ T' rfl X'
  exact ⟨t2, stp t2 a1, b1⟩
theorem A_vI0 {mj : MI} {d d' idx b ci : Nat}  {fs : List (Option (Option Nat))} {q : vw_C} {Q : Int → Mem → Prop} (hd : decode mi.2.1 pc = .ok (.invokevirtual idx, 3)) (hR : Rm G d kc ns) (hlt : d' < d) (hO : MOK mj 0) (hV : MV mj) (hlink : Cond.methodLink mi.1.cls idx mj.1 ∈ TB) (hb : At E b (.inl (ci, fs))) (hci : vwCl[ci]? = some q) (hq : q.1 = mj.1.cls) (hw : Nat.ble (wts st) 8 = true) (hc : Cn E (gl G) mj d' [vR b] M (fun r M1 => ∃ z, r = vI z ∧ Q z M1)) (kk : ∀ (z : Int) (M1 : Mem), rng z → okM M1 → Q z M1 → AW E mi G kc ns (pc + 3) L (vI z :: st) M1) : AW E mi G kc ns pc L (vR b :: st) M := by
  intro C hs hL hst hM H locs ls hP hS hl
  refine A_ret (mj := mj) (l := gl G) (st0 := vR b :: st) (rest := st) C hs hS (va_runV (n := 0) (As := []) (rest := st.map (cval E)) (Ts := TB) (own := mi.1.cls) (C := mj.1.cls) (nL := mi.2.2.1) ⟨C.1, C.2.1, C.2.2.1, C.2.2.2.2.1, C.2.2.2.2.2.1⟩ (hc (okc1 trivial (fun _ h => by cases h)) hM) ⟨callB_tb C hR hlt hO hlink, C.2.2.2.2.2.1 _ hV.1, C.2.2.2.2.2.1 _ hV.2⟩ ⟨pC_blind, by rw [← hq]; exact va_recv hs.1 hP hci hb.obj, fun U hU hW => ⟨rfl, by rw [hU]; exact hP, hs.moved hM hP hS hU hW⟩⟩ rfl rfl hl.1 rfl (by rw [wts_eq]; show 0 + wts st ≤ 8; have := Nat.le_of_ble_eq_true hw; omega) hd ⟨hR.2.2.1, hR.2.2.2⟩) (fun r M' hok hM' hp H1 locs1 hP1 hS1 => ?_)
  · obtain ⟨z, rfl, hq⟩ := hp
    exact kk z M' hok hM' hq C hs hL (okc1 hok (oktl hst)) hM' H1 locs1 ls hP1 hS1 hl
theorem A_vV0 {mj : MI} {d d' idx b ci : Nat}  {fs : List (Option (Option Nat))} {q : vw_C} {Q : Mem → Prop} (hd : decode mi.2.1 pc = .ok (.invokevirtual idx, 3)) (hR : Rm G d kc ns) (hlt : d' < d) (hO : MOK mj 0) (hV : MV mj) (hlink : Cond.methodLink mi.1.cls idx mj.1 ∈ TB) (hb : At E b (.inl (ci, fs))) (hci : vwCl[ci]? = some q) (hq : q.1 = mj.1.cls) (hw : Nat.ble (wts st) 8 = true) (hc : Cn E (gl G) mj d' [vR b] M (fun r M1 => r = vU ∧ Q M1)) (kk : ∀ (M1 : Mem), okM M1 → Q M1 → AW E mi G kc ns (pc + 3) L st M1) : AW E mi G kc ns pc L (vR b :: st) M := by
  intro C hs hL hst hM H locs ls hP hS hl
  refine A_ret (mj := mj) (l := gl G) (st0 := vR b :: st) (rest := st) C hs hS (va_runV (n := 0) (As := []) (rest := st.map (cval E)) (Ts := TB) (own := mi.1.cls) (C := mj.1.cls) (nL := mi.2.2.1) ⟨C.1, C.2.1, C.2.2.1, C.2.2.2.2.1, C.2.2.2.2.2.1⟩ (hc (okc1 trivial (fun _ h => by cases h)) hM) ⟨callB_tb C hR hlt hO hlink, C.2.2.2.2.2.1 _ hV.1, C.2.2.2.2.2.1 _ hV.2⟩ ⟨pC_blind, by rw [← hq]; exact va_recv hs.1 hP hci hb.obj, fun U hU hW => ⟨rfl, by rw [hU]; exact hP, hs.moved hM hP hS hU hW⟩⟩ rfl rfl hl.1 rfl (by rw [wts_eq]; show 0 + wts st ≤ 8; have := Nat.le_of_ble_eq_true hw; omega) hd ⟨hR.2.2.1, hR.2.2.2⟩) (fun r M' hok hM' hp H1 locs1 hP1 hS1 => ?_)
  · obtain ⟨rfl, hq⟩ := hp
    exact kk M' hM' hq C hs hL (oktl hst) hM' H1 locs1 ls hP1 hS1 hl
theorem A_vR0 {mj : MI} {d d' idx b ci : Nat}  {fs : List (Option (Option Nat))} {q : vw_C} {Q : Nat → Mem → Prop} (hd : decode mi.2.1 pc = .ok (.invokevirtual idx, 3)) (hR : Rm G d kc ns) (hlt : d' < d) (hO : MOK mj 0) (hV : MV mj) (hlink : Cond.methodLink mi.1.cls idx mj.1 ∈ TB) (hb : At E b (.inl (ci, fs))) (hci : vwCl[ci]? = some q) (hq : q.1 = mj.1.cls) (hw : Nat.ble (wts st) 8 = true) (hc : Cn E (gl G) mj d' [vR b] M (fun r M1 => ∃ j, r = vR j ∧ Q j M1)) (kk : ∀ (j : Nat) (M1 : Mem), okM M1 → Q j M1 → AW E mi G kc ns (pc + 3) L (vR j :: st) M1) : AW E mi G kc ns pc L (vR b :: st) M := by
  intro C hs hL hst hM H locs ls hP hS hl
  refine A_ret (mj := mj) (l := gl G) (st0 := vR b :: st) (rest := st) C hs hS (va_runV (n := 0) (As := []) (rest := st.map (cval E)) (Ts := TB) (own := mi.1.cls) (C := mj.1.cls) (nL := mi.2.2.1) ⟨C.1, C.2.1, C.2.2.1, C.2.2.2.2.1, C.2.2.2.2.2.1⟩ (hc (okc1 trivial (fun _ h => by cases h)) hM) ⟨callB_tb C hR hlt hO hlink, C.2.2.2.2.2.1 _ hV.1, C.2.2.2.2.2.1 _ hV.2⟩ ⟨pC_blind, by rw [← hq]; exact va_recv hs.1 hP hci hb.obj, fun U hU hW => ⟨rfl, by rw [hU]; exact hP, hs.moved hM hP hS hU hW⟩⟩ rfl rfl hl.1 rfl (by rw [wts_eq]; show 0 + wts st ≤ 8; have := Nat.le_of_ble_eq_true hw; omega) hd ⟨hR.2.2.1, hR.2.2.2⟩) (fun r M' hok hM' hp H1 locs1 hP1 hS1 => ?_)
  · obtain ⟨z, rfl, hq⟩ := hp
    exact kk z M' hM' hq C hs hL (okc1 trivial (oktl hst)) hM' H1 locs1 ls hP1 hS1 hl
theorem A_vI1 {mj : MI} {d d' idx b ci : Nat} {a1 : AV} {fs : List (Option (Option Nat))} {q : vw_C} {Q : Int → Mem → Prop} (hd : decode mi.2.1 pc = .ok (.invokevirtual idx, 3)) (hR : Rm G d kc ns) (hlt : d' < d) (hO : MOK mj 1) (hV : MV mj) (hlink : Cond.methodLink mi.1.cls idx mj.1 ∈ TB) (hb : At E b (.inl (ci, fs))) (hci : vwCl[ci]? = some q) (hq : q.1 = mj.1.cls) (hw : Nat.ble (wts st) 8 = true) (hc : Cn E (gl G) mj d' [vR b, a1] M (fun r M1 => ∃ z, r = vI z ∧ Q z M1)) (kk : ∀ (z : Int) (M1 : Mem), rng z → okM M1 → Q z M1 → AW E mi G kc ns (pc + 3) L (vI z :: st) M1) : AW E mi G kc ns pc L (a1 :: vR b :: st) M := by
  intro C hs hL hst hM H locs ls hP hS hl
  refine A_ret (mj := mj) (l := gl G) (st0 := a1 :: vR b :: st) (rest := st) C hs hS (va_runV (n := 1) (As := [cval E a1]) (rest := st.map (cval E)) (Ts := TB) (own := mi.1.cls) (C := mj.1.cls) (nL := mi.2.2.1) ⟨C.1, C.2.1, C.2.2.1, C.2.2.2.2.1, C.2.2.2.2.2.1⟩ (hc (okc1 trivial (okc1 (okhd hst) (fun _ h => by cases h))) hM) ⟨callB_tb C hR hlt hO hlink, C.2.2.2.2.2.1 _ hV.1, C.2.2.2.2.2.1 _ hV.2⟩ ⟨pC_blind, by rw [← hq]; exact va_recv hs.1 hP hci hb.obj, fun U hU hW => ⟨rfl, by rw [hU]; exact hP, hs.moved hM hP hS hU hW⟩⟩ rfl rfl hl.1 rfl (by rw [wts_eq]; show 0 + wts st ≤ 8; have := Nat.le_of_ble_eq_true hw; omega) hd ⟨hR.2.2.1, hR.2.2.2⟩) (fun r M' hok hM' hp H1 locs1 hP1 hS1 => ?_)
  · obtain ⟨z, rfl, hq⟩ := hp
    exact kk z M' hok hM' hq C hs hL (okc1 hok (oktl (oktl hst))) hM' H1 locs1 ls hP1 hS1 hl
theorem A_vV1 {mj : MI} {d d' idx b ci : Nat} {a1 : AV} {fs : List (Option (Option Nat))} {q : vw_C} {Q : Mem → Prop} (hd : decode mi.2.1 pc = .ok (.invokevirtual idx, 3)) (hR : Rm G d kc ns) (hlt : d' < d) (hO : MOK mj 1) (hV : MV mj) (hlink : Cond.methodLink mi.1.cls idx mj.1 ∈ TB) (hb : At E b (.inl (ci, fs))) (hci : vwCl[ci]? = some q) (hq : q.1 = mj.1.cls) (hw : Nat.ble (wts st) 8 = true) (hc : Cn E (gl G) mj d' [vR b, a1] M (fun r M1 => r = vU ∧ Q M1)) (kk : ∀ (M1 : Mem), okM M1 → Q M1 → AW E mi G kc ns (pc + 3) L st M1) : AW E mi G kc ns pc L (a1 :: vR b :: st) M := by
  intro C hs hL hst hM H locs ls hP hS hl
  refine A_ret (mj := mj) (l := gl G) (st0 := a1 :: vR b :: st) (rest := st) C hs hS (va_runV (n := 1) (As := [cval E a1]) (rest := st.map (cval E)) (Ts := TB) (own := mi.1.cls) (C := mj.1.cls) (nL := mi.2.2.1) ⟨C.1, C.2.1, C.2.2.1, C.2.2.2.2.1, C.2.2.2.2.2.1⟩ (hc (okc1 trivial (okc1 (okhd hst) (fun _ h => by cases h))) hM) ⟨callB_tb C hR hlt hO hlink, C.2.2.2.2.2.1 _ hV.1, C.2.2.2.2.2.1 _ hV.2⟩ ⟨pC_blind, by rw [← hq]; exact va_recv hs.1 hP hci hb.obj, fun U hU hW => ⟨rfl, by rw [hU]; exact hP, hs.moved hM hP hS hU hW⟩⟩ rfl rfl hl.1 rfl (by rw [wts_eq]; show 0 + wts st ≤ 8; have := Nat.le_of_ble_eq_true hw; omega) hd ⟨hR.2.2.1, hR.2.2.2⟩) (fun r M' hok hM' hp H1 locs1 hP1 hS1 => ?_)
  · obtain ⟨rfl, hq⟩ := hp
    exact kk M' hM' hq C hs hL (oktl (oktl hst)) hM' H1 locs1 ls hP1 hS1 hl
theorem A_vR1 {mj : MI} {d d' idx b ci : Nat} {a1 : AV} {fs : List (Option (Option Nat))} {q : vw_C} {Q : Nat → Mem → Prop} (hd : decode mi.2.1 pc = .ok (.invokevirtual idx, 3)) (hR : Rm G d kc ns) (hlt : d' < d) (hO : MOK mj 1) (hV : MV mj) (hlink : Cond.methodLink mi.1.cls idx mj.1 ∈ TB) (hb : At E b (.inl (ci, fs))) (hci : vwCl[ci]? = some q) (hq : q.1 = mj.1.cls) (hw : Nat.ble (wts st) 8 = true) (hc : Cn E (gl G) mj d' [vR b, a1] M (fun r M1 => ∃ j, r = vR j ∧ Q j M1)) (kk : ∀ (j : Nat) (M1 : Mem), okM M1 → Q j M1 → AW E mi G kc ns (pc + 3) L (vR j :: st) M1) : AW E mi G kc ns pc L (a1 :: vR b :: st) M := by
  intro C hs hL hst hM H locs ls hP hS hl
  refine A_ret (mj := mj) (l := gl G) (st0 := a1 :: vR b :: st) (rest := st) C hs hS (va_runV (n := 1) (As := [cval E a1]) (rest := st.map (cval E)) (Ts := TB) (own := mi.1.cls) (C := mj.1.cls) (nL := mi.2.2.1) ⟨C.1, C.2.1, C.2.2.1, C.2.2.2.2.1, C.2.2.2.2.2.1⟩ (hc (okc1 trivial (okc1 (okhd hst) (fun _ h => by cases h))) hM) ⟨callB_tb C hR hlt hO hlink, C.2.2.2.2.2.1 _ hV.1, C.2.2.2.2.2.1 _ hV.2⟩ ⟨pC_blind, by rw [← hq]; exact va_recv hs.1 hP hci hb.obj, fun U hU hW => ⟨rfl, by rw [hU]; exact hP, hs.moved hM hP hS hU hW⟩⟩ rfl rfl hl.1 rfl (by rw [wts_eq]; show 0 + wts st ≤ 8; have := Nat.le_of_ble_eq_true hw; omega) hd ⟨hR.2.2.1, hR.2.2.2⟩) (fun r M' hok hM' hp H1 locs1 hP1 hS1 => ?_)
  · obtain ⟨z, rfl, hq⟩ := hp
    exact kk z M' hM' hq C hs hL (okc1 trivial (oktl (oktl hst))) hM' H1 locs1 ls hP1 hS1 hl
theorem A_vI2 {mj : MI} {d d' idx b ci : Nat} {a1 a2 : AV} {fs : List (Option (Option Nat))} {q : vw_C} {Q : Int → Mem → Prop} (hd : decode mi.2.1 pc = .ok (.invokevirtual idx, 3)) (hR : Rm G d kc ns) (hlt : d' < d) (hO : MOK mj 2) (hV : MV mj) (hlink : Cond.methodLink mi.1.cls idx mj.1 ∈ TB) (hb : At E b (.inl (ci, fs))) (hci : vwCl[ci]? = some q) (hq : q.1 = mj.1.cls) (hw : Nat.ble (wts st) 8 = true) (hc : Cn E (gl G) mj d' [vR b, a1, a2] M (fun r M1 => ∃ z, r = vI z ∧ Q z M1)) (kk : ∀ (z : Int) (M1 : Mem), rng z → okM M1 → Q z M1 → AW E mi G kc ns (pc + 3) L (vI z :: st) M1) : AW E mi G kc ns pc L (a2 :: a1 :: vR b :: st) M := by
  intro C hs hL hst hM H locs ls hP hS hl
  refine A_ret (mj := mj) (l := gl G) (st0 := a2 :: a1 :: vR b :: st) (rest := st) C hs hS (va_runV (n := 2) (As := [cval E a1, cval E a2]) (rest := st.map (cval E)) (Ts := TB) (own := mi.1.cls) (C := mj.1.cls) (nL := mi.2.2.1) ⟨C.1, C.2.1, C.2.2.1, C.2.2.2.2.1, C.2.2.2.2.2.1⟩ (hc (okc1 trivial (okc1 (okhd (oktl hst)) (okc1 (okhd hst) (fun _ h => by cases h)))) hM) ⟨callB_tb C hR hlt hO hlink, C.2.2.2.2.2.1 _ hV.1, C.2.2.2.2.2.1 _ hV.2⟩ ⟨pC_blind, by rw [← hq]; exact va_recv hs.1 hP hci hb.obj, fun U hU hW => ⟨rfl, by rw [hU]; exact hP, hs.moved hM hP hS hU hW⟩⟩ rfl rfl hl.1 rfl (by rw [wts_eq]; show 0 + wts st ≤ 8; have := Nat.le_of_ble_eq_true hw; omega) hd ⟨hR.2.2.1, hR.2.2.2⟩) (fun r M' hok hM' hp H1 locs1 hP1 hS1 => ?_)
  · obtain ⟨z, rfl, hq⟩ := hp
    exact kk z M' hok hM' hq C hs hL (okc1 hok (oktl (oktl (oktl hst)))) hM' H1 locs1 ls hP1 hS1 hl
theorem A_vV2 {mj : MI} {d d' idx b ci : Nat} {a1 a2 : AV} {fs : List (Option (Option Nat))} {q : vw_C} {Q : Mem → Prop} (hd : decode mi.2.1 pc = .ok (.invokevirtual idx, 3)) (hR : Rm G d kc ns) (hlt : d' < d) (hO : MOK mj 2) (hV : MV mj) (hlink : Cond.methodLink mi.1.cls idx mj.1 ∈ TB) (hb : At E b (.inl (ci, fs))) (hci : vwCl[ci]? = some q) (hq : q.1 = mj.1.cls) (hw : Nat.ble (wts st) 8 = true) (hc : Cn E (gl G) mj d' [vR b, a1, a2] M (fun r M1 => r = vU ∧ Q M1)) (kk : ∀ (M1 : Mem), okM M1 → Q M1 → AW E mi G kc ns (pc + 3) L st M1) : AW E mi G kc ns pc L (a2 :: a1 :: vR b :: st) M := by
  intro C hs hL hst hM H locs ls hP hS hl
  refine A_ret (mj := mj) (l := gl G) (st0 := a2 :: a1 :: vR b :: st) (rest := st) C hs hS (va_runV (n := 2) (As := [cval E a1, cval E a2]) (rest := st.map (cval E)) (Ts := TB) (own := mi.1.cls) (C := mj.1.cls) (nL := mi.2.2.1) ⟨C.1, C.2.1, C.2.2.1, C.2.2.2.2.1, C.2.2.2.2.2.1⟩ (hc (okc1 trivial (okc1 (okhd (oktl hst)) (okc1 (okhd hst) (fun _ h => by cases h)))) hM) ⟨callB_tb C hR hlt hO hlink, C.2.2.2.2.2.1 _ hV.1, C.2.2.2.2.2.1 _ hV.2⟩ ⟨pC_blind, by rw [← hq]; exact va_recv hs.1 hP hci hb.obj, fun U hU hW => ⟨rfl, by rw [hU]; exact hP, hs.moved hM hP hS hU hW⟩⟩ rfl rfl hl.1 rfl (by rw [wts_eq]; show 0 + wts st ≤ 8; have := Nat.le_of_ble_eq_true hw; omega) hd ⟨hR.2.2.1, hR.2.2.2⟩) (fun r M' hok hM' hp H1 locs1 hP1 hS1 => ?_)
  · obtain ⟨rfl, hq⟩ := hp
    exact kk M' hM' hq C hs hL (oktl (oktl (oktl hst))) hM' H1 locs1 ls hP1 hS1 hl
theorem A_vI3 {mj : MI} {d d' idx b ci : Nat} {a1 a2 a3 : AV} {fs : List (Option (Option Nat))} {q : vw_C} {Q : Int → Mem → Prop} (hd : decode mi.2.1 pc = .ok (.invokevirtual idx, 3)) (hR : Rm G d kc ns) (hlt : d' < d) (hO : MOK mj 3) (hV : MV mj) (hlink : Cond.methodLink mi.1.cls idx mj.1 ∈ TB) (hb : At E b (.inl (ci, fs))) (hci : vwCl[ci]? = some q) (hq : q.1 = mj.1.cls) (hw : Nat.ble (wts st) 8 = true) (hc : Cn E (gl G) mj d' [vR b, a1, a2, a3] M (fun r M1 => ∃ z, r = vI z ∧ Q z M1)) (kk : ∀ (z : Int) (M1 : Mem), rng z → okM M1 → Q z M1 → AW E mi G kc ns (pc + 3) L (vI z :: st) M1) : AW E mi G kc ns pc L (a3 :: a2 :: a1 :: vR b :: st) M := by
  intro C hs hL hst hM H locs ls hP hS hl
  refine A_ret (mj := mj) (l := gl G) (st0 := a3 :: a2 :: a1 :: vR b :: st) (rest := st) C hs hS (va_runV (n := 3) (As := [cval E a1, cval E a2, cval E a3]) (rest := st.map (cval E)) (Ts := TB) (own := mi.1.cls) (C := mj.1.cls) (nL := mi.2.2.1) ⟨C.1, C.2.1, C.2.2.1, C.2.2.2.2.1, C.2.2.2.2.2.1⟩ (hc (okc1 trivial (okc1 (okhd (oktl (oktl hst))) (okc1 (okhd (oktl hst)) (okc1 (okhd hst) (fun _ h => by cases h))))) hM) ⟨callB_tb C hR hlt hO hlink, C.2.2.2.2.2.1 _ hV.1, C.2.2.2.2.2.1 _ hV.2⟩ ⟨pC_blind, by rw [← hq]; exact va_recv hs.1 hP hci hb.obj, fun U hU hW => ⟨rfl, by rw [hU]; exact hP, hs.moved hM hP hS hU hW⟩⟩ rfl rfl hl.1 rfl (by rw [wts_eq]; show 0 + wts st ≤ 8; have := Nat.le_of_ble_eq_true hw; omega) hd ⟨hR.2.2.1, hR.2.2.2⟩) (fun r M' hok hM' hp H1 locs1 hP1 hS1 => ?_)
  · obtain ⟨z, rfl, hq⟩ := hp
    exact kk z M' hok hM' hq C hs hL (okc1 hok (oktl (oktl (oktl (oktl hst))))) hM' H1 locs1 ls hP1 hS1 hl
theorem A_vV3 {mj : MI} {d d' idx b ci : Nat} {a1 a2 a3 : AV} {fs : List (Option (Option Nat))} {q : vw_C} {Q : Mem → Prop} (hd : decode mi.2.1 pc = .ok (.invokevirtual idx, 3)) (hR : Rm G d kc ns) (hlt : d' < d) (hO : MOK mj 3) (hV : MV mj) (hlink : Cond.methodLink mi.1.cls idx mj.1 ∈ TB) (hb : At E b (.inl (ci, fs))) (hci : vwCl[ci]? = some q) (hq : q.1 = mj.1.cls) (hw : Nat.ble (wts st) 8 = true) (hc : Cn E (gl G) mj d' [vR b, a1, a2, a3] M (fun r M1 => r = vU ∧ Q M1)) (kk : ∀ (M1 : Mem), okM M1 → Q M1 → AW E mi G kc ns (pc + 3) L st M1) : AW E mi G kc ns pc L (a3 :: a2 :: a1 :: vR b :: st) M := by
  intro C hs hL hst hM H locs ls hP hS hl
  refine A_ret (mj := mj) (l := gl G) (st0 := a3 :: a2 :: a1 :: vR b :: st) (rest := st) C hs hS (va_runV (n := 3) (As := [cval E a1, cval E a2, cval E a3]) (rest := st.map (cval E)) (Ts := TB) (own := mi.1.cls) (C := mj.1.cls) (nL := mi.2.2.1) ⟨C.1, C.2.1, C.2.2.1, C.2.2.2.2.1, C.2.2.2.2.2.1⟩ (hc (okc1 trivial (okc1 (okhd (oktl (oktl hst))) (okc1 (okhd (oktl hst)) (okc1 (okhd hst) (fun _ h => by cases h))))) hM) ⟨callB_tb C hR hlt hO hlink, C.2.2.2.2.2.1 _ hV.1, C.2.2.2.2.2.1 _ hV.2⟩ ⟨pC_blind, by rw [← hq]; exact va_recv hs.1 hP hci hb.obj, fun U hU hW => ⟨rfl, by rw [hU]; exact hP, hs.moved hM hP hS hU hW⟩⟩ rfl rfl hl.1 rfl (by rw [wts_eq]; show 0 + wts st ≤ 8; have := Nat.le_of_ble_eq_true hw; omega) hd ⟨hR.2.2.1, hR.2.2.2⟩) (fun r M' hok hM' hp H1 locs1 hP1 hS1 => ?_)
  · obtain ⟨rfl, hq⟩ := hp
    exact kk M' hM' hq C hs hL (oktl (oktl (oktl (oktl hst)))) hM' H1 locs1 ls hP1 hS1 hl
theorem A_vI4 {mj : MI} {d d' idx b ci : Nat} {a1 a2 a3 a4 : AV} {fs : List (Option (Option Nat))} {q : vw_C} {Q : Int → Mem → Prop} (hd : decode mi.2.1 pc = .ok (.invokevirtual idx, 3)) (hR : Rm G d kc ns) (hlt : d' < d) (hO : MOK mj 4) (hV : MV mj) (hlink : Cond.methodLink mi.1.cls idx mj.1 ∈ TB) (hb : At E b (.inl (ci, fs))) (hci : vwCl[ci]? = some q) (hq : q.1 = mj.1.cls) (hw : Nat.ble (wts st) 8 = true) (hc : Cn E (gl G) mj d' [vR b, a1, a2, a3, a4] M (fun r M1 => ∃ z, r = vI z ∧ Q z M1)) (kk : ∀ (z : Int) (M1 : Mem), rng z → okM M1 → Q z M1 → AW E mi G kc ns (pc + 3) L (vI z :: st) M1) : AW E mi G kc ns pc L (a4 :: a3 :: a2 :: a1 :: vR b :: st) M := by
  intro C hs hL hst hM H locs ls hP hS hl
  refine A_ret (mj := mj) (l := gl G) (st0 := a4 :: a3 :: a2 :: a1 :: vR b :: st) (rest := st) C hs hS (va_runV (n := 4) (As := [cval E a1, cval E a2, cval E a3, cval E a4]) (rest := st.map (cval E)) (Ts := TB) (own := mi.1.cls) (C := mj.1.cls) (nL := mi.2.2.1) ⟨C.1, C.2.1, C.2.2.1, C.2.2.2.2.1, C.2.2.2.2.2.1⟩ (hc (okc1 trivial (okc1 (okhd (oktl (oktl (oktl hst)))) (okc1 (okhd (oktl (oktl hst))) (okc1 (okhd (oktl hst)) (okc1 (okhd hst) (fun _ h => by cases h)))))) hM) ⟨callB_tb C hR hlt hO hlink, C.2.2.2.2.2.1 _ hV.1, C.2.2.2.2.2.1 _ hV.2⟩ ⟨pC_blind, by rw [← hq]; exact va_recv hs.1 hP hci hb.obj, fun U hU hW => ⟨rfl, by rw [hU]; exact hP, hs.moved hM hP hS hU hW⟩⟩ rfl rfl hl.1 rfl (by rw [wts_eq]; show 0 + wts st ≤ 8; have := Nat.le_of_ble_eq_true hw; omega) hd ⟨hR.2.2.1, hR.2.2.2⟩) (fun r M' hok hM' hp H1 locs1 hP1 hS1 => ?_)
  · obtain ⟨z, rfl, hq⟩ := hp
    exact kk z M' hok hM' hq C hs hL (okc1 hok (oktl (oktl (oktl (oktl (oktl hst)))))) hM' H1 locs1 ls hP1 hS1 hl
theorem A_vV4 {mj : MI} {d d' idx b ci : Nat} {a1 a2 a3 a4 : AV} {fs : List (Option (Option Nat))} {q : vw_C} {Q : Mem → Prop} (hd : decode mi.2.1 pc = .ok (.invokevirtual idx, 3)) (hR : Rm G d kc ns) (hlt : d' < d) (hO : MOK mj 4) (hV : MV mj) (hlink : Cond.methodLink mi.1.cls idx mj.1 ∈ TB) (hb : At E b (.inl (ci, fs))) (hci : vwCl[ci]? = some q) (hq : q.1 = mj.1.cls) (hw : Nat.ble (wts st) 8 = true) (hc : Cn E (gl G) mj d' [vR b, a1, a2, a3, a4] M (fun r M1 => r = vU ∧ Q M1)) (kk : ∀ (M1 : Mem), okM M1 → Q M1 → AW E mi G kc ns (pc + 3) L st M1) : AW E mi G kc ns pc L (a4 :: a3 :: a2 :: a1 :: vR b :: st) M := by
  intro C hs hL hst hM H locs ls hP hS hl
  refine A_ret (mj := mj) (l := gl G) (st0 := a4 :: a3 :: a2 :: a1 :: vR b :: st) (rest := st) C hs hS (va_runV (n := 4) (As := [cval E a1, cval E a2, cval E a3, cval E a4]) (rest := st.map (cval E)) (Ts := TB) (own := mi.1.cls) (C := mj.1.cls) (nL := mi.2.2.1) ⟨C.1, C.2.1, C.2.2.1, C.2.2.2.2.1, C.2.2.2.2.2.1⟩ (hc (okc1 trivial (okc1 (okhd (oktl (oktl (oktl hst)))) (okc1 (okhd (oktl (oktl hst))) (okc1 (okhd (oktl hst)) (okc1 (okhd hst) (fun _ h => by cases h)))))) hM) ⟨callB_tb C hR hlt hO hlink, C.2.2.2.2.2.1 _ hV.1, C.2.2.2.2.2.1 _ hV.2⟩ ⟨pC_blind, by rw [← hq]; exact va_recv hs.1 hP hci hb.obj, fun U hU hW => ⟨rfl, by rw [hU]; exact hP, hs.moved hM hP hS hU hW⟩⟩ rfl rfl hl.1 rfl (by rw [wts_eq]; show 0 + wts st ≤ 8; have := Nat.le_of_ble_eq_true hw; omega) hd ⟨hR.2.2.1, hR.2.2.2⟩) (fun r M' hok hM' hp H1 locs1 hP1 hS1 => ?_)
  · obtain ⟨rfl, hq⟩ := hp
    exact kk M' hM' hq C hs hL (oktl (oktl (oktl (oktl (oktl hst))))) hM' H1 locs1 ls hP1 hS1 hl
theorem A_vI5 {mj : MI} {d d' idx b ci : Nat} {a1 a2 a3 a4 a5 : AV} {fs : List (Option (Option Nat))} {q : vw_C} {Q : Int → Mem → Prop} (hd : decode mi.2.1 pc = .ok (.invokevirtual idx, 3)) (hR : Rm G d kc ns) (hlt : d' < d) (hO : MOK mj 5) (hV : MV mj) (hlink : Cond.methodLink mi.1.cls idx mj.1 ∈ TB) (hb : At E b (.inl (ci, fs))) (hci : vwCl[ci]? = some q) (hq : q.1 = mj.1.cls) (hw : Nat.ble (wts st) 8 = true) (hc : Cn E (gl G) mj d' [vR b, a1, a2, a3, a4, a5] M (fun r M1 => ∃ z, r = vI z ∧ Q z M1)) (kk : ∀ (z : Int) (M1 : Mem), rng z → okM M1 → Q z M1 → AW E mi G kc ns (pc + 3) L (vI z :: st) M1) : AW E mi G kc ns pc L (a5 :: a4 :: a3 :: a2 :: a1 :: vR b :: st) M := by
  intro C hs hL hst hM H locs ls hP hS hl
  refine A_ret (mj := mj) (l := gl G) (st0 := a5 :: a4 :: a3 :: a2 :: a1 :: vR b :: st) (rest := st) C hs hS (va_runV (n := 5) (As := [cval E a1, cval E a2, cval E a3, cval E a4, cval E a5]) (rest := st.map (cval E)) (Ts := TB) (own := mi.1.cls) (C := mj.1.cls) (nL := mi.2.2.1) ⟨C.1, C.2.1, C.2.2.1, C.2.2.2.2.1, C.2.2.2.2.2.1⟩ (hc (okc1 trivial (okc1 (okhd (oktl (oktl (oktl (oktl hst))))) (okc1 (okhd (oktl (oktl (oktl hst)))) (okc1 (okhd (oktl (oktl hst))) (okc1 (okhd (oktl hst)) (okc1 (okhd hst) (fun _ h => by cases h))))))) hM) ⟨callB_tb C hR hlt hO hlink, C.2.2.2.2.2.1 _ hV.1, C.2.2.2.2.2.1 _ hV.2⟩ ⟨pC_blind, by rw [← hq]; exact va_recv hs.1 hP hci hb.obj, fun U hU hW => ⟨rfl, by rw [hU]; exact hP, hs.moved hM hP hS hU hW⟩⟩ rfl rfl hl.1 rfl (by rw [wts_eq]; show 0 + wts st ≤ 8; have := Nat.le_of_ble_eq_true hw; omega) hd ⟨hR.2.2.1, hR.2.2.2⟩) (fun r M' hok hM' hp H1 locs1 hP1 hS1 => ?_)
  · obtain ⟨z, rfl, hq⟩ := hp
    exact kk z M' hok hM' hq C hs hL (okc1 hok (oktl (oktl (oktl (oktl (oktl (oktl hst))))))) hM' H1 locs1 ls hP1 hS1 hl
theorem A_vV5 {mj : MI} {d d' idx b ci : Nat} {a1 a2 a3 a4 a5 : AV} {fs : List (Option (Option Nat))} {q : vw_C} {Q : Mem → Prop} (hd : decode mi.2.1 pc = .ok (.invokevirtual idx, 3)) (hR : Rm G d kc ns) (hlt : d' < d) (hO : MOK mj 5) (hV : MV mj) (hlink : Cond.methodLink mi.1.cls idx mj.1 ∈ TB) (hb : At E b (.inl (ci, fs))) (hci : vwCl[ci]? = some q) (hq : q.1 = mj.1.cls) (hw : Nat.ble (wts st) 8 = true) (hc : Cn E (gl G) mj d' [vR b, a1, a2, a3, a4, a5] M (fun r M1 => r = vU ∧ Q M1)) (kk : ∀ (M1 : Mem), okM M1 → Q M1 → AW E mi G kc ns (pc + 3) L st M1) : AW E mi G kc ns pc L (a5 :: a4 :: a3 :: a2 :: a1 :: vR b :: st) M := by
  intro C hs hL hst hM H locs ls hP hS hl
  refine A_ret (mj := mj) (l := gl G) (st0 := a5 :: a4 :: a3 :: a2 :: a1 :: vR b :: st) (rest := st) C hs hS (va_runV (n := 5) (As := [cval E a1, cval E a2, cval E a3, cval E a4, cval E a5]) (rest := st.map (cval E)) (Ts := TB) (own := mi.1.cls) (C := mj.1.cls) (nL := mi.2.2.1) ⟨C.1, C.2.1, C.2.2.1, C.2.2.2.2.1, C.2.2.2.2.2.1⟩ (hc (okc1 trivial (okc1 (okhd (oktl (oktl (oktl (oktl hst))))) (okc1 (okhd (oktl (oktl (oktl hst)))) (okc1 (okhd (oktl (oktl hst))) (okc1 (okhd (oktl hst)) (okc1 (okhd hst) (fun _ h => by cases h))))))) hM) ⟨callB_tb C hR hlt hO hlink, C.2.2.2.2.2.1 _ hV.1, C.2.2.2.2.2.1 _ hV.2⟩ ⟨pC_blind, by rw [← hq]; exact va_recv hs.1 hP hci hb.obj, fun U hU hW => ⟨rfl, by rw [hU]; exact hP, hs.moved hM hP hS hU hW⟩⟩ rfl rfl hl.1 rfl (by rw [wts_eq]; show 0 + wts st ≤ 8; have := Nat.le_of_ble_eq_true hw; omega) hd ⟨hR.2.2.1, hR.2.2.2⟩) (fun r M' hok hM' hp H1 locs1 hP1 hS1 => ?_)
  · obtain ⟨rfl, hq⟩ := hp
    exact kk M' hM' hq C hs hL (oktl (oktl (oktl (oktl (oktl (oktl hst)))))) hM' H1 locs1 ls hP1 hS1 hl
theorem A_sI0 {mj : MI} {d d' idx : Nat}  {Q : Int → Mem → Prop} (hd : decode mi.2.1 pc = .ok (.invokestatic idx, 3)) (hR : Rm G d kc ns) (hlt : d' < d) (hO : MOK mj 0) (hV : Cond.static mj.1 ∈ TB) (hlink : Cond.methodLink mi.1.cls idx mj.1 ∈ TB) (hw : Nat.ble (wts st) 8 = true) (hc : Cn E (gl G) mj d' [] M (fun r M1 => ∃ z, r = vI z ∧ Q z M1)) (kk : ∀ (z : Int) (M1 : Mem), rng z → okM M1 → Q z M1 → AW E mi G kc ns (pc + 3) L (vI z :: st) M1) : AW E mi G kc ns pc L (st) M := by
  intro C hs hL hst hM H locs ls hP hS hl
  refine A_ret (mj := mj) (l := gl G) (st0 := st) (rest := st) C hs hS (va_runS (n := 0) (As := []) (rest := st.map (cval E)) (Ts := TB) (own := mi.1.cls) (nL := mi.2.2.1) ⟨C.1, C.2.1, C.2.2.1, C.2.2.2.2.1, C.2.2.2.2.2.1⟩ (hc (fun _ h => by cases h) hM) ⟨callB_tb C hR hlt hO hlink, C.2.2.2.2.2.1 _ hV⟩ ⟨pC_blind, fun U hU hW => ⟨rfl, by rw [hU]; exact hP, hs.moved hM hP hS hU hW⟩⟩ rfl rfl hl.1 rfl (by rw [wts_eq]; show 0 + wts st ≤ 8; have := Nat.le_of_ble_eq_true hw; omega) hd ⟨hR.2.2.1, hR.2.2.2⟩) (fun r M' hok hM' hp H1 locs1 hP1 hS1 => ?_)
  · obtain ⟨z, rfl, hq⟩ := hp
    exact kk z M' hok hM' hq C hs hL (okc1 hok hst) hM' H1 locs1 ls hP1 hS1 hl
theorem A_sV0 {mj : MI} {d d' idx : Nat}  {Q : Mem → Prop} (hd : decode mi.2.1 pc = .ok (.invokestatic idx, 3)) (hR : Rm G d kc ns) (hlt : d' < d) (hO : MOK mj 0) (hV : Cond.static mj.1 ∈ TB) (hlink : Cond.methodLink mi.1.cls idx mj.1 ∈ TB) (hw : Nat.ble (wts st) 8 = true) (hc : Cn E (gl G) mj d' [] M (fun r M1 => r = vU ∧ Q M1)) (kk : ∀ (M1 : Mem), okM M1 → Q M1 → AW E mi G kc ns (pc + 3) L st M1) : AW E mi G kc ns pc L (st) M := by
  intro C hs hL hst hM H locs ls hP hS hl
  refine A_ret (mj := mj) (l := gl G) (st0 := st) (rest := st) C hs hS (va_runS (n := 0) (As := []) (rest := st.map (cval E)) (Ts := TB) (own := mi.1.cls) (nL := mi.2.2.1) ⟨C.1, C.2.1, C.2.2.1, C.2.2.2.2.1, C.2.2.2.2.2.1⟩ (hc (fun _ h => by cases h) hM) ⟨callB_tb C hR hlt hO hlink, C.2.2.2.2.2.1 _ hV⟩ ⟨pC_blind, fun U hU hW => ⟨rfl, by rw [hU]; exact hP, hs.moved hM hP hS hU hW⟩⟩ rfl rfl hl.1 rfl (by rw [wts_eq]; show 0 + wts st ≤ 8; have := Nat.le_of_ble_eq_true hw; omega) hd ⟨hR.2.2.1, hR.2.2.2⟩) (fun r M' hok hM' hp H1 locs1 hP1 hS1 => ?_)
  · obtain ⟨rfl, hq⟩ := hp
    exact kk M' hM' hq C hs hL hst hM' H1 locs1 ls hP1 hS1 hl
theorem A_sI1 {mj : MI} {d d' idx : Nat} {a1 : AV} {Q : Int → Mem → Prop} (hd : decode mi.2.1 pc = .ok (.invokestatic idx, 3)) (hR : Rm G d kc ns) (hlt : d' < d) (hO : MOK mj 1) (hV : Cond.static mj.1 ∈ TB) (hlink : Cond.methodLink mi.1.cls idx mj.1 ∈ TB) (hw : Nat.ble (wts st) 8 = true) (hc : Cn E (gl G) mj d' [a1] M (fun r M1 => ∃ z, r = vI z ∧ Q z M1)) (kk : ∀ (z : Int) (M1 : Mem), rng z → okM M1 → Q z M1 → AW E mi G kc ns (pc + 3) L (vI z :: st) M1) : AW E mi G kc ns pc L (a1 :: st) M := by
  intro C hs hL hst hM H locs ls hP hS hl
  refine A_ret (mj := mj) (l := gl G) (st0 := a1 :: st) (rest := st) C hs hS (va_runS (n := 1) (As := [cval E a1]) (rest := st.map (cval E)) (Ts := TB) (own := mi.1.cls) (nL := mi.2.2.1) ⟨C.1, C.2.1, C.2.2.1, C.2.2.2.2.1, C.2.2.2.2.2.1⟩ (hc (okc1 (okhd hst) (fun _ h => by cases h)) hM) ⟨callB_tb C hR hlt hO hlink, C.2.2.2.2.2.1 _ hV⟩ ⟨pC_blind, fun U hU hW => ⟨rfl, by rw [hU]; exact hP, hs.moved hM hP hS hU hW⟩⟩ rfl rfl hl.1 rfl (by rw [wts_eq]; show 0 + wts st ≤ 8; have := Nat.le_of_ble_eq_true hw; omega) hd ⟨hR.2.2.1, hR.2.2.2⟩) (fun r M' hok hM' hp H1 locs1 hP1 hS1 => ?_)
  · obtain ⟨z, rfl, hq⟩ := hp
    exact kk z M' hok hM' hq C hs hL (okc1 hok (oktl hst)) hM' H1 locs1 ls hP1 hS1 hl
theorem A_sV1 {mj : MI} {d d' idx : Nat} {a1 : AV} {Q : Mem → Prop} (hd : decode mi.2.1 pc = .ok (.invokestatic idx, 3)) (hR : Rm G d kc ns) (hlt : d' < d) (hO : MOK mj 1) (hV : Cond.static mj.1 ∈ TB) (hlink : Cond.methodLink mi.1.cls idx mj.1 ∈ TB) (hw : Nat.ble (wts st) 8 = true) (hc : Cn E (gl G) mj d' [a1] M (fun r M1 => r = vU ∧ Q M1)) (kk : ∀ (M1 : Mem), okM M1 → Q M1 → AW E mi G kc ns (pc + 3) L st M1) : AW E mi G kc ns pc L (a1 :: st) M := by
  intro C hs hL hst hM H locs ls hP hS hl
  refine A_ret (mj := mj) (l := gl G) (st0 := a1 :: st) (rest := st) C hs hS (va_runS (n := 1) (As := [cval E a1]) (rest := st.map (cval E)) (Ts := TB) (own := mi.1.cls) (nL := mi.2.2.1) ⟨C.1, C.2.1, C.2.2.1, C.2.2.2.2.1, C.2.2.2.2.2.1⟩ (hc (okc1 (okhd hst) (fun _ h => by cases h)) hM) ⟨callB_tb C hR hlt hO hlink, C.2.2.2.2.2.1 _ hV⟩ ⟨pC_blind, fun U hU hW => ⟨rfl, by rw [hU]; exact hP, hs.moved hM hP hS hU hW⟩⟩ rfl rfl hl.1 rfl (by rw [wts_eq]; show 0 + wts st ≤ 8; have := Nat.le_of_ble_eq_true hw; omega) hd ⟨hR.2.2.1, hR.2.2.2⟩) (fun r M' hok hM' hp H1 locs1 hP1 hS1 => ?_)
  · obtain ⟨rfl, hq⟩ := hp
    exact kk M' hM' hq C hs hL (oktl hst) hM' H1 locs1 ls hP1 hS1 hl
theorem A_sI2 {mj : MI} {d d' idx : Nat} {a1 a2 : AV} {Q : Int → Mem → Prop} (hd : decode mi.2.1 pc = .ok (.invokestatic idx, 3)) (hR : Rm G d kc ns) (hlt : d' < d) (hO : MOK mj 2) (hV : Cond.static mj.1 ∈ TB) (hlink : Cond.methodLink mi.1.cls idx mj.1 ∈ TB) (hw : Nat.ble (wts st) 8 = true) (hc : Cn E (gl G) mj d' [a1, a2] M (fun r M1 => ∃ z, r = vI z ∧ Q z M1)) (kk : ∀ (z : Int) (M1 : Mem), rng z → okM M1 → Q z M1 → AW E mi G kc ns (pc + 3) L (vI z :: st) M1) : AW E mi G kc ns pc L (a2 :: a1 :: st) M := by
  intro C hs hL hst hM H locs ls hP hS hl
  refine A_ret (mj := mj) (l := gl G) (st0 := a2 :: a1 :: st) (rest := st) C hs hS (va_runS (n := 2) (As := [cval E a1, cval E a2]) (rest := st.map (cval E)) (Ts := TB) (own := mi.1.cls) (nL := mi.2.2.1) ⟨C.1, C.2.1, C.2.2.1, C.2.2.2.2.1, C.2.2.2.2.2.1⟩ (hc (okc1 (okhd (oktl hst)) (okc1 (okhd hst) (fun _ h => by cases h))) hM) ⟨callB_tb C hR hlt hO hlink, C.2.2.2.2.2.1 _ hV⟩ ⟨pC_blind, fun U hU hW => ⟨rfl, by rw [hU]; exact hP, hs.moved hM hP hS hU hW⟩⟩ rfl rfl hl.1 rfl (by rw [wts_eq]; show 0 + wts st ≤ 8; have := Nat.le_of_ble_eq_true hw; omega) hd ⟨hR.2.2.1, hR.2.2.2⟩) (fun r M' hok hM' hp H1 locs1 hP1 hS1 => ?_)
  · obtain ⟨z, rfl, hq⟩ := hp
    exact kk z M' hok hM' hq C hs hL (okc1 hok (oktl (oktl hst))) hM' H1 locs1 ls hP1 hS1 hl
theorem A_sV2 {mj : MI} {d d' idx : Nat} {a1 a2 : AV} {Q : Mem → Prop} (hd : decode mi.2.1 pc = .ok (.invokestatic idx, 3)) (hR : Rm G d kc ns) (hlt : d' < d) (hO : MOK mj 2) (hV : Cond.static mj.1 ∈ TB) (hlink : Cond.methodLink mi.1.cls idx mj.1 ∈ TB) (hw : Nat.ble (wts st) 8 = true) (hc : Cn E (gl G) mj d' [a1, a2] M (fun r M1 => r = vU ∧ Q M1)) (kk : ∀ (M1 : Mem), okM M1 → Q M1 → AW E mi G kc ns (pc + 3) L st M1) : AW E mi G kc ns pc L (a2 :: a1 :: st) M := by
  intro C hs hL hst hM H locs ls hP hS hl
  refine A_ret (mj := mj) (l := gl G) (st0 := a2 :: a1 :: st) (rest := st) C hs hS (va_runS (n := 2) (As := [cval E a1, cval E a2]) (rest := st.map (cval E)) (Ts := TB) (own := mi.1.cls) (nL := mi.2.2.1) ⟨C.1, C.2.1, C.2.2.1, C.2.2.2.2.1, C.2.2.2.2.2.1⟩ (hc (okc1 (okhd (oktl hst)) (okc1 (okhd hst) (fun _ h => by cases h))) hM) ⟨callB_tb C hR hlt hO hlink, C.2.2.2.2.2.1 _ hV⟩ ⟨pC_blind, fun U hU hW => ⟨rfl, by rw [hU]; exact hP, hs.moved hM hP hS hU hW⟩⟩ rfl rfl hl.1 rfl (by rw [wts_eq]; show 0 + wts st ≤ 8; have := Nat.le_of_ble_eq_true hw; omega) hd ⟨hR.2.2.1, hR.2.2.2⟩) (fun r M' hok hM' hp H1 locs1 hP1 hS1 => ?_)
  · obtain ⟨rfl, hq⟩ := hp
    exact kk M' hM' hq C hs hL (oktl (oktl hst)) hM' H1 locs1 ls hP1 hS1 hl
theorem A_sI3 {mj : MI} {d d' idx : Nat} {a1 a2 a3 : AV} {Q : Int → Mem → Prop} (hd : decode mi.2.1 pc = .ok (.invokestatic idx, 3)) (hR : Rm G d kc ns) (hlt : d' < d) (hO : MOK mj 3) (hV : Cond.static mj.1 ∈ TB) (hlink : Cond.methodLink mi.1.cls idx mj.1 ∈ TB) (hw : Nat.ble (wts st) 8 = true) (hc : Cn E (gl G) mj d' [a1, a2, a3] M (fun r M1 => ∃ z, r = vI z ∧ Q z M1)) (kk : ∀ (z : Int) (M1 : Mem), rng z → okM M1 → Q z M1 → AW E mi G kc ns (pc + 3) L (vI z :: st) M1) : AW E mi G kc ns pc L (a3 :: a2 :: a1 :: st) M := by
  intro C hs hL hst hM H locs ls hP hS hl
  refine A_ret (mj := mj) (l := gl G) (st0 := a3 :: a2 :: a1 :: st) (rest := st) C hs hS (va_runS (n := 3) (As := [cval E a1, cval E a2, cval E a3]) (rest := st.map (cval E)) (Ts := TB) (own := mi.1.cls) (nL := mi.2.2.1) ⟨C.1, C.2.1, C.2.2.1, C.2.2.2.2.1, C.2.2.2.2.2.1⟩ (hc (okc1 (okhd (oktl (oktl hst))) (okc1 (okhd (oktl hst)) (okc1 (okhd hst) (fun _ h => by cases h)))) hM) ⟨callB_tb C hR hlt hO hlink, C.2.2.2.2.2.1 _ hV⟩ ⟨pC_blind, fun U hU hW => ⟨rfl, by rw [hU]; exact hP, hs.moved hM hP hS hU hW⟩⟩ rfl rfl hl.1 rfl (by rw [wts_eq]; show 0 + wts st ≤ 8; have := Nat.le_of_ble_eq_true hw; omega) hd ⟨hR.2.2.1, hR.2.2.2⟩) (fun r M' hok hM' hp H1 locs1 hP1 hS1 => ?_)
  · obtain ⟨z, rfl, hq⟩ := hp
    exact kk z M' hok hM' hq C hs hL (okc1 hok (oktl (oktl (oktl hst)))) hM' H1 locs1 ls hP1 hS1 hl
theorem A_sV3 {mj : MI} {d d' idx : Nat} {a1 a2 a3 : AV} {Q : Mem → Prop} (hd : decode mi.2.1 pc = .ok (.invokestatic idx, 3)) (hR : Rm G d kc ns) (hlt : d' < d) (hO : MOK mj 3) (hV : Cond.static mj.1 ∈ TB) (hlink : Cond.methodLink mi.1.cls idx mj.1 ∈ TB) (hw : Nat.ble (wts st) 8 = true) (hc : Cn E (gl G) mj d' [a1, a2, a3] M (fun r M1 => r = vU ∧ Q M1)) (kk : ∀ (M1 : Mem), okM M1 → Q M1 → AW E mi G kc ns (pc + 3) L st M1) : AW E mi G kc ns pc L (a3 :: a2 :: a1 :: st) M := by
  intro C hs hL hst hM H locs ls hP hS hl
  refine A_ret (mj := mj) (l := gl G) (st0 := a3 :: a2 :: a1 :: st) (rest := st) C hs hS (va_runS (n := 3) (As := [cval E a1, cval E a2, cval E a3]) (rest := st.map (cval E)) (Ts := TB) (own := mi.1.cls) (nL := mi.2.2.1) ⟨C.1, C.2.1, C.2.2.1, C.2.2.2.2.1, C.2.2.2.2.2.1⟩ (hc (okc1 (okhd (oktl (oktl hst))) (okc1 (okhd (oktl hst)) (okc1 (okhd hst) (fun _ h => by cases h)))) hM) ⟨callB_tb C hR hlt hO hlink, C.2.2.2.2.2.1 _ hV⟩ ⟨pC_blind, fun U hU hW => ⟨rfl, by rw [hU]; exact hP, hs.moved hM hP hS hU hW⟩⟩ rfl rfl hl.1 rfl (by rw [wts_eq]; show 0 + wts st ≤ 8; have := Nat.le_of_ble_eq_true hw; omega) hd ⟨hR.2.2.1, hR.2.2.2⟩) (fun r M' hok hM' hp H1 locs1 hP1 hS1 => ?_)
  · obtain ⟨rfl, hq⟩ := hp
    exact kk M' hM' hq C hs hL (oktl (oktl (oktl hst))) hM' H1 locs1 ls hP1 hS1 hl
theorem A_sI4 {mj : MI} {d d' idx : Nat} {a1 a2 a3 a4 : AV} {Q : Int → Mem → Prop} (hd : decode mi.2.1 pc = .ok (.invokestatic idx, 3)) (hR : Rm G d kc ns) (hlt : d' < d) (hO : MOK mj 4) (hV : Cond.static mj.1 ∈ TB) (hlink : Cond.methodLink mi.1.cls idx mj.1 ∈ TB) (hw : Nat.ble (wts st) 8 = true) (hc : Cn E (gl G) mj d' [a1, a2, a3, a4] M (fun r M1 => ∃ z, r = vI z ∧ Q z M1)) (kk : ∀ (z : Int) (M1 : Mem), rng z → okM M1 → Q z M1 → AW E mi G kc ns (pc + 3) L (vI z :: st) M1) : AW E mi G kc ns pc L (a4 :: a3 :: a2 :: a1 :: st) M := by
  intro C hs hL hst hM H locs ls hP hS hl
  refine A_ret (mj := mj) (l := gl G) (st0 := a4 :: a3 :: a2 :: a1 :: st) (rest := st) C hs hS (va_runS (n := 4) (As := [cval E a1, cval E a2, cval E a3, cval E a4]) (rest := st.map (cval E)) (Ts := TB) (own := mi.1.cls) (nL := mi.2.2.1) ⟨C.1, C.2.1, C.2.2.1, C.2.2.2.2.1, C.2.2.2.2.2.1⟩ (hc (okc1 (okhd (oktl (oktl (oktl hst)))) (okc1 (okhd (oktl (oktl hst))) (okc1 (okhd (oktl hst)) (okc1 (okhd hst) (fun _ h => by cases h))))) hM) ⟨callB_tb C hR hlt hO hlink, C.2.2.2.2.2.1 _ hV⟩ ⟨pC_blind, fun U hU hW => ⟨rfl, by rw [hU]; exact hP, hs.moved hM hP hS hU hW⟩⟩ rfl rfl hl.1 rfl (by rw [wts_eq]; show 0 + wts st ≤ 8; have := Nat.le_of_ble_eq_true hw; omega) hd ⟨hR.2.2.1, hR.2.2.2⟩) (fun r M' hok hM' hp H1 locs1 hP1 hS1 => ?_)
  · obtain ⟨z, rfl, hq⟩ := hp
    exact kk z M' hok hM' hq C hs hL (okc1 hok (oktl (oktl (oktl (oktl hst))))) hM' H1 locs1 ls hP1 hS1 hl
theorem A_sV4 {mj : MI} {d d' idx : Nat} {a1 a2 a3 a4 : AV} {Q : Mem → Prop} (hd : decode mi.2.1 pc = .ok (.invokestatic idx, 3)) (hR : Rm G d kc ns) (hlt : d' < d) (hO : MOK mj 4) (hV : Cond.static mj.1 ∈ TB) (hlink : Cond.methodLink mi.1.cls idx mj.1 ∈ TB) (hw : Nat.ble (wts st) 8 = true) (hc : Cn E (gl G) mj d' [a1, a2, a3, a4] M (fun r M1 => r = vU ∧ Q M1)) (kk : ∀ (M1 : Mem), okM M1 → Q M1 → AW E mi G kc ns (pc + 3) L st M1) : AW E mi G kc ns pc L (a4 :: a3 :: a2 :: a1 :: st) M := by
  intro C hs hL hst hM H locs ls hP hS hl
  refine A_ret (mj := mj) (l := gl G) (st0 := a4 :: a3 :: a2 :: a1 :: st) (rest := st) C hs hS (va_runS (n := 4) (As := [cval E a1, cval E a2, cval E a3, cval E a4]) (rest := st.map (cval E)) (Ts := TB) (own := mi.1.cls) (nL := mi.2.2.1) ⟨C.1, C.2.1, C.2.2.1, C.2.2.2.2.1, C.2.2.2.2.2.1⟩ (hc (okc1 (okhd (oktl (oktl (oktl hst)))) (okc1 (okhd (oktl (oktl hst))) (okc1 (okhd (oktl hst)) (okc1 (okhd hst) (fun _ h => by cases h))))) hM) ⟨callB_tb C hR hlt hO hlink, C.2.2.2.2.2.1 _ hV⟩ ⟨pC_blind, fun U hU hW => ⟨rfl, by rw [hU]; exact hP, hs.moved hM hP hS hU hW⟩⟩ rfl rfl hl.1 rfl (by rw [wts_eq]; show 0 + wts st ≤ 8; have := Nat.le_of_ble_eq_true hw; omega) hd ⟨hR.2.2.1, hR.2.2.2⟩) (fun r M' hok hM' hp H1 locs1 hP1 hS1 => ?_)
  · obtain ⟨rfl, hq⟩ := hp
    exact kk M' hM' hq C hs hL (oktl (oktl (oktl (oktl hst)))) hM' H1 locs1 ls hP1 hS1 hl
end ROWS2
