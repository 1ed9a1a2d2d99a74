/-! AW: what is made: the shape grows, in the order of the cells -/
def xE (E : EN) (q : Nat) (sh : Shp) : EN := (eD E, fun c => if c = eN E then q else eAd E c, eSa E, eCs E, eN E + 1, fun c => if c = eN E then sh else eSh E c)
def sE (E : EN) (c : Nat) (sh : Shp) : EN := (eD E, eAd E, eSa E, eCs E, eN E, fun k => if k = c then sh else eSh E k)
def rfs (sh : Shp) (j : Nat) : Prop := match sh with
  | .inl (_, fs) => some (some j) ∈ fs
  | .inr (_, _, g) => ∃ k, g k = some j
/-- all that cells name are cells -/
def wE (E : EN) : Prop := ∀ c, c < eN E → ∀ j, rfs (eSh E c) j → j < eN E
def xt (E E' : EN) : Prop := eD E' = eD E ∧ eSa E' = eSa E ∧ eCs E' = eCs E ∧ eN E ≤ eN E' ∧ ∀ c, c < eN E → eAd E' c = eAd E c
theorem xt_r {E : EN} : xt E E := ⟨rfl, rfl, rfl, Nat.le_refl _, fun _ _ => rfl⟩
theorem xt_t {E E1 E2 : EN} (h : xt E E1) (g : xt E1 E2) : xt E E2 := ⟨g.1.trans h.1, g.2.1.trans h.2.1, g.2.2.1.trans h.2.2.1, Nat.le_trans h.2.2.2.1 g.2.2.2.1, fun c hc => (g.2.2.2.2 c (Nat.lt_of_lt_of_le hc h.2.2.2.1)).trans (h.2.2.2.2 c hc)⟩
def bnd (n : Nat) (v : AV) : Prop := match v with
  | .inr (.inl c) => c < n
  | _ => True
theorem bn_n {n : Nat} : ∀ v ∈ ([] : List AV), bnd n v := fun _ h => by cases h
theorem bn_c {n : Nat} {v : AV} {L : List AV} (h : bnd n v) (hL : ∀ w ∈ L, bnd n w) : ∀ w ∈ v :: L, bnd n w := fun w hw => by
  rcases List.mem_cons.mp hw with rfl | hw
  · exact h
  · exact hL w hw
theorem cval_xt {E E' : EN} (h : xt E E') {v : AV} (hb : bnd (eN E) v) : cval E' v = cval E v := by
  rcases v with z | c | z | k | u
  · rfl
  · show Value.ref (eAd E' c) = Value.ref (eAd E c)
    rw [h.2.2.2.2 c hb]
  · rfl
  · show Value.ref (eSa E' k) = Value.ref (eSa E k)
    rw [h.2.1]
  · rfl
theorem map_xt {E E' : EN} (h : xt E E') {st : List AV} (hb : ∀ v ∈ st, bnd (eN E) v) : st.map (cval E') = st.map (cval E) := List.map_congr_left (fun v hv => cval_xt h (hb v hv))
theorem lvOf_xt {E E' : EN} (h : xt E E') : ∀ (L : List AV) (i : Nat), (∀ v ∈ L, bnd (eN E) v) → lvOf E' i L = lvOf E i L
  | [], _, _ => rfl
  | v :: t, i, hb => by
    have ht := lvOf_xt h t (i + 1) (fun w hw => hb w (List.mem_cons_of_mem _ hw))
    unfold lvOf
    rw [ht, cval_xt h (hb v List.mem_cons_self)]
theorem ccell_xt {E E' : EN} {M : Mem} {c : Nat} (h : xt E E') (hw : wE E) (hc : c < eN E) (hs : eSh E' c = eSh E c) : ccell E' M c = ccell E M c := by
  have hr := hw c hc
  unfold ccell
  rw [hs, h.2.2.1]
  revert hr
  cases hsh : eSh E c with
  | inl x =>
    obtain ⟨ci, fs⟩ := x
    intro hr
    refine congrArg _ (congrArg _ ?_)
    apply List.ext_getElem?
    intro k
    rw [List.getElem?_mapIdx, List.getElem?_mapIdx]
    cases hk : fs[k]? with
    | none => rfl
    | some o =>
      rcases o with _ | _ | j
      · rfl
      · rfl
      · have hj : j < eN E := hr j (List.mem_of_getElem? hk)
        simp only [Option.map_some, fval]
        rw [h.2.2.2.2 j hj]
  | inr x =>
    obtain ⟨tk, n, g⟩ := x
    intro hr
    match tk, hr with
    | 0, _ => rfl
    | 1, _ => rfl
    | tk + 2, hr =>
      refine congrArg _ (congrArg _ (congrArg _ (congrArg _ (congrArg _ (congrArg _ (congrArg _ ?_))))))
      funext k
      cases hg : g k with
      | none => rfl
      | some j =>
        have hj : j < eN E := hr j ⟨k, hg⟩
        simp only [Option.map_some]
        rw [h.2.2.2.2 j hj]
theorem xE_xt {E : EN} {q : Nat} {sh : Shp} : xt E (xE E q sh) := ⟨rfl, rfl, rfl, Nat.le_succ _, fun c hc => if_neg (Nat.ne_of_lt hc)⟩
theorem xE_up {E : EN} {q : Nat} {sh : Shp} : ∀ c s', At E c s' → At (xE E q sh) c s' := fun c s' h => ⟨Nat.lt_succ_of_lt h.1, (if_neg (Nat.ne_of_lt h.1)).trans h.2⟩
theorem xE_at {E : EN} {q : Nat} {sh : Shp} : At (xE E q sh) (eN E) sh := ⟨Nat.lt_succ_self _, if_pos rfl⟩
theorem xE_w {E : EN} {q : Nat} {sh : Shp} (hw : wE E) (hs : ∀ j, ¬ rfs sh j) : wE (xE E q sh) := by
  intro c hc j hj
  show j < eN E + 1
  have hc : c < eN E + 1 := hc
  by_cases e : c = eN E
  · have e2 : eSh (xE E q sh) c = sh := if_pos e
    rw [e2] at hj
    exact absurd hj (hs j)
  · have e2 : eSh (xE E q sh) c = eSh E c := if_neg e
    rw [e2] at hj
    have := hw c (by omega) j hj
    omega
theorem WS_x {E : EN} {M : Mem} {q : Nat} {sh : Shp} {x : va_E} (hw : wE E) (hx : x = ccell (xE E q sh) M (eN E)) : WS E M ++ [(q, x)] = WS (xE E q sh) M := by
  have e : WS (xE E q sh) M = (List.range (eN E + 1)).map (fun c => (eAd (xE E q sh) c, ccell (xE E q sh) M c)) := rfl
  rw [e, List.range_succ, List.map_append]
  have e2 : [eN E].map (fun c => (eAd (xE E q sh) c, ccell (xE E q sh) M c)) = [(q, x)] := by
    rw [hx]
    show [((if eN E = eN E then q else eAd E (eN E)), ccell (xE E q sh) M (eN E))] = _
    rw [if_pos rfl]
  rw [e2]
  congr 1
  unfold WS
  apply List.map_congr_left
  intro c hc
  have hc : c < eN E := List.mem_range.mp hc
  rw [ccell_xt (E' := xE E q sh) xE_xt hw hc (if_neg (Nat.ne_of_lt hc)), xE_xt.2.2.2.2 c hc]
theorem eDj_of {E : EN} {A : Nat → Prop} {M : Mem} (h : va_D A (WS E M)) : eDj E A := ⟨fun i j hi hj e => h.1 i j _ _ (WS_at hi) (WS_at hj) e, fun i hi => h.2 i _ (WS_at hi)⟩
theorem lvOf_s {E : EN} {c : Nat} {sh : Shp} : ∀ (L : List AV) (i : Nat), lvOf (sE E c sh) i L = lvOf E i L
  | [], _ => rfl
  | v :: t, i => by
    unfold lvOf
    rw [lvOf_s t (i + 1)]
    rfl
theorem sE_xt {E : EN} {c : Nat} {sh : Shp} : xt E (sE E c sh) := ⟨rfl, rfl, rfl, Nat.le_refl _, fun _ _ => rfl⟩
theorem sE_up {E : EN} {c : Nat} {sh : Shp} : ∀ c' s', c' ≠ c → At E c' s' → At (sE E c sh) c' s' := fun c' s' hc h => ⟨h.1, (if_neg hc).trans h.2⟩
theorem sE_at {E : EN} {c : Nat} {sh : Shp} (h : c < eN E) : At (sE E c sh) c sh := ⟨h, if_pos rfl⟩
theorem sE_w {E : EN} {c : Nat} {sh : Shp} (hw : wE E) (hs : ∀ j, rfs sh j → j < eN E) : wE (sE E c sh) := by
  intro k hk j hj
  show j < eN E
  have hk : k < eN E := hk
  by_cases e : k = c
  · have e2 : eSh (sE E c sh) k = sh := if_pos e
    rw [e2] at hj
    exact hs j hj
  · have e2 : eSh (sE E c sh) k = eSh E k := if_neg e
    rw [e2] at hj
    exact hw k hk j hj
theorem WS_s {E : EN} {M : Mem} {c : Nat} {sh : Shp} {x : va_E} (hw : wE E) (hc : c < eN E) (hx : x = ccell (sE E c sh) M c) : (WS E M).set c (eAd E c, x) = WS (sE E c sh) M := by
  subst hx
  apply List.ext_getElem?
  intro i
  by_cases hi : i < eN E
  · rw [WS_at (E := sE E c sh) hi, List.getElem?_set]
    by_cases hci : c = i
    · subst hci
      simp [WS, hc]
      rfl
    · rw [if_neg hci, WS_at hi, ccell_xt (E' := sE E c sh) sE_xt hw hi (if_neg (fun e => hci e.symm))]
      rfl
  · rw [List.getElem?_eq_none (by simp [WS]; omega), List.getElem?_eq_none (by show (WS (sE E c sh) M).length ≤ i; simp [WS]; show eN E ≤ i; omega)]
def dfv : Option (Option Nat) → Value
  | none => .int 0
  | some _ => .null
/-- a class that is made -/
def NW (own : String) (idx ci : Nat) (fs : List (Option (Option Nat))) : Prop := ∃ (X : String) (T : u_T) (N : Nat) (ty : Nat → FieldType), CLS ci X T N ∧ fs.length = N ∧ (∀ k, k < N → parseFieldDescriptor (T k).2.2.1 = some (ty k)) ∧ (∀ j, j < N → defaultValue (ty j) = vp_V (fs.map dfv) j) ∧ Cond.classLink own idx X ∈ TB ∧ Cond.instantiable X N ∈ TB ∧ Cond.initialized X ∈ TB ∧ ∀ o ∈ fs, o = none ∨ o = some none
/-- a final field of a reference -/
def FRf (own : String) (ci k : Nat) : Prop := ∃ (X : String) (T : u_T) (N : Nat) (ty : FieldType), vwCl[ci]? = some (X, T, N) ∧ (T k).2.2.2 = true ∧ parseFieldDescriptor (T k).2.2.1 = some ty ∧ (∀ a : Nat, narrow ty (.ref a) = .ref a ∧ fits ty (.ref a) = true) ∧ (T k).1 = own
def Fr (G : CX) : Prop := ∀ q, (gs G).heap.size ≤ q → gA G q
section ROWSN
variable {E : EN} {mi : MI} {G : CX} {kc ns pc : Nat} {L st : List AV} {M : Mem}
theorem A_new {ci idx n N : Nat} {fs : List (Option (Option Nat))} (hd : decode mi.2.1 pc = .ok (.new idx, 3)) (hN : NW mi.1.cls idx ci fs) (hlen : fs.length = N) (hn : eN E = n) (hw : wE E) (hz : ∀ k, M n k = 0) (hf : Fr G) (hkc : kc + 1 ≤ (gR G).cells) (hns : ns + N ≤ (gR G).slots) (hbL : ∀ v ∈ L, bnd n v) (hbs : ∀ v ∈ st, bnd n v)
    (kk : ∀ E' : EN, xt E E' → eN E' = n + 1 → At E' n (.inl (ci, fs)) → (∀ c sh, At E c sh → At E' c sh) → wE E' → AW E' mi G (kc + 1) (ns + N) (pc + 3) L (vR n :: st) M) : AW E mi G kc ns pc L st M := by
  intro C hs hL hst hM H locs ls hP hS hl
  subst hn
  subst hlen
  obtain ⟨X, T, N', ty, ⟨h1, h2, -, -⟩, e1, h3, h4, h5, h6, h7, h8⟩ := hN
  subst e1
  refine va_new (own := mi.1.cls) (C := X) (T := T) (N := fs.length) (ci := ci) (Ts := TB) (fs := fs.map dfv) C.1 C.2.1 C.2.2.2.2.2.1 h2 ty h3 C.2.2.2.2.1 (C.2.2.2.2.2.1 _ h5) (C.2.2.2.2.2.1 _ h6) (C.2.2.2.2.2.1 _ h7) hs.1 hP (hs.2.1.D M) hS hf h1 h4 hkc hns hd (fun q H1 hP1 hD1 hS1 => ?_)
  have hcell : (Sum.inr (ci, fs.map dfv) : va_E) = ccell (xE E q (.inl (ci, fs))) M (eN E) := by
    unfold ccell
    rw [xE_at.2]
    refine congrArg _ (congrArg _ ?_)
    apply List.ext_getElem?
    intro k
    rw [List.getElem?_map, List.getElem?_mapIdx]
    cases hk : fs[k]? with
    | none => rfl
    | some o =>
      rcases h8 o (List.mem_of_getElem? hk) with rfl | rfl
      · simp only [Option.map_some, fval, dfv]
        rw [hz]; rfl
      · rfl
  rw [WS_x hw hcell] at hP1 hD1
  have key := kk (xE E q (.inl (ci, fs))) xE_xt rfl xE_at xE_up (xE_w hw (fun j hj => by
    have hj : some (some j) ∈ fs := hj
    rcases h8 _ hj with h | h <;> cases h)) C ⟨hs.1, eDj_of hD1, hs.2.2⟩ hL (okc1 trivial hst) hM H1 locs ls hP1 hS1 (by rw [lvOf_xt xE_xt L 0 hbL]; exact hl)
  have e2 : (vR (eN E) :: st).map (cval (xE E q (.inl (ci, fs)))) = .ref q :: st.map (cval E) := by
    rw [List.map_cons, map_xt xE_xt hbs]
    show Value.ref (if eN E = eN E then q else eAd E (eN E)) :: _ = _
    rw [if_pos rfl]
  rw [e2] at key
  exact key
theorem ai_int : Cond.arrayClass (newarray.typeOf .int) ∈ TB := tb_t 41 (by decide +kernel) (by decide +kernel)
theorem ai_bool : Cond.arrayClass (newarray.typeOf .boolean) ∈ TB := tb_t 251 (by decide +kernel) (by decide +kernel)
theorem A_newI {n N : Nat} {k : Int} (hd : decode mi.2.1 pc = .ok (.newarray .int, 2)) (hk : k = N) (hN : N ≤ 1000) (hn : eN E = n) (hw : wE E) (hz : ∀ k, M n k = 0) (hf : Fr G) (hkc : kc + 1 ≤ (gR G).cells) (hns : ns + N ≤ (gR G).slots) (hbL : ∀ v ∈ L, bnd n v) (hbs : ∀ v ∈ st, bnd n v)
    (kk : ∀ E' : EN, xt E E' → eN E' = n + 1 → At E' n (aI N nG) → (∀ c sh, At E c sh → At E' c sh) → wE E' → AW E' mi G (kc + 1) (ns + N) (pc + 2) L (vR n :: st) M) : AW E mi G kc ns pc L (vI k :: st) M := by
  intro C hs hL hst hM H locs ls hP hS hl
  subst hn
  subst hk
  have hr : rng (N : Int) := okhd hst
  refine va_newa (atype := .int) (ty := .int) (n := i32 (N : Int)) (N' := N) (a0 := (N, .inl (fun _ => 0))) C.1 C.2.1 (C.2.2.2.2.2.1 _ ai_int) rfl hs.1 hP (hs.2.1.D M) hS hf (fun cA => rfl) (i32_nn (by omega) hr) (by rw [i32_clamp (by omega) hr]; omega) (by show N * 4 ≤ _; omega) hkc hns hd (fun q cA H1 hK1 hP1 hD1 hS1 => ?_)
  have hcA : cA = (eCs E).1 := by
    have h1 : (gs G).vm.findClass ("[" ++ (FieldType.int).toString) = some cA := (hK1.2 3 (cA, .int) rfl).2
    have h2 : (gs G).vm.findClass ("[" ++ (FieldType.int).toString) = some (eCs E).1 := (hs.1.2 0 ((eCs E).1, .int) rfl).2
    exact Option.some.inj (h1.symm.trans h2)
  have hcell : (Sum.inl (cA, N, .inl (fun _ => 0)) : va_E) = ccell (xE E q (aI N nG)) M (eN E) := by
    unfold ccell
    rw [xE_at.2, hcA]
    refine congrArg _ (congrArg _ (congrArg _ (congrArg _ ?_)))
    funext k
    rw [hz]; rfl
  rw [WS_x hw hcell] at hP1 hD1
  have key := kk (xE E q (aI N nG)) xE_xt rfl xE_at xE_up (xE_w hw (fun j hj => by
    obtain ⟨k, hk⟩ := hj
    cases hk)) C ⟨hs.1, eDj_of hD1, hs.2.2⟩ hL (okc1 trivial (oktl hst)) hM H1 locs ls hP1 hS1 (by rw [lvOf_xt xE_xt L 0 hbL]; exact hl)
  have e2 : (vR (eN E) :: st).map (cval (xE E q (aI N nG))) = .ref q :: st.map (cval E) := by
    rw [List.map_cons, map_xt xE_xt hbs]
    show Value.ref (if eN E = eN E then q else eAd E (eN E)) :: _ = _
    rw [if_pos rfl]
  rw [e2] at key
  exact key
theorem A_newZ {n N : Nat} {k : Int} (hd : decode mi.2.1 pc = .ok (.newarray .boolean, 2)) (hk : k = N) (hN : N ≤ 1000) (hn : eN E = n) (hw : wE E) (hz : ∀ k, M n k = 0) (hf : Fr G) (hkc : kc + 1 ≤ (gR G).cells) (hns : ns + N ≤ (gR G).slots) (hbL : ∀ v ∈ L, bnd n v) (hbs : ∀ v ∈ st, bnd n v)
    (kk : ∀ E' : EN, xt E E' → eN E' = n + 1 → At E' n (aZ N nG) → (∀ c sh, At E c sh → At E' c sh) → wE E' → AW E' mi G (kc + 1) (ns + N) (pc + 2) L (vR n :: st) M) : AW E mi G kc ns pc L (vI k :: st) M := by
  intro C hs hL hst hM H locs ls hP hS hl
  subst hn
  subst hk
  have hr : rng (N : Int) := okhd hst
  refine va_newa (atype := .boolean) (ty := .boolean) (n := i32 (N : Int)) (N' := N) (a0 := (N, .inl (fun _ => 0))) C.1 C.2.1 (C.2.2.2.2.2.1 _ ai_bool) rfl hs.1 hP (hs.2.1.D M) hS hf (fun cA => rfl) (i32_nn (by omega) hr) (by rw [i32_clamp (by omega) hr]; omega) (by show N * 1 ≤ _; omega) hkc hns hd (fun q cA H1 hK1 hP1 hD1 hS1 => ?_)
  have hcA : cA = (eCs E).2.1 := by
    have h1 : (gs G).vm.findClass ("[" ++ (FieldType.boolean).toString) = some cA := (hK1.2 3 (cA, .boolean) rfl).2
    have h2 : (gs G).vm.findClass ("[" ++ (FieldType.boolean).toString) = some (eCs E).2.1 := (hs.1.2 1 ((eCs E).2.1, .boolean) rfl).2
    exact Option.some.inj (h1.symm.trans h2)
  have hcell : (Sum.inl (cA, N, .inl (fun _ => 0)) : va_E) = ccell (xE E q (aZ N nG)) M (eN E) := by
    unfold ccell
    rw [xE_at.2, hcA]
    refine congrArg _ (congrArg _ (congrArg _ (congrArg _ ?_)))
    funext k
    rw [hz]; rfl
  rw [WS_x hw hcell] at hP1 hD1
  have key := kk (xE E q (aZ N nG)) xE_xt rfl xE_at xE_up (xE_w hw (fun j hj => by
    obtain ⟨k, hk⟩ := hj
    cases hk)) C ⟨hs.1, eDj_of hD1, hs.2.2⟩ hL (okc1 trivial (oktl hst)) hM H1 locs ls hP1 hS1 (by rw [lvOf_xt xE_xt L 0 hbL]; exact hl)
  have e2 : (vR (eN E) :: st).map (cval (xE E q (aZ N nG))) = .ref q :: st.map (cval E) := by
    rw [List.map_cons, map_xt xE_xt hbs]
    show Value.ref (if eN E = eN E then q else eAd E (eN E)) :: _ = _
    rw [if_pos rfl]
  rw [e2] at key
  exact key
theorem A_newR {n N idx : Nat} {k : Int} (hd : decode mi.2.1 pc = .ok (.anewarray idx, 3)) (hcl : Cond.classLink mi.1.cls idx RX0 ∈ TB) (ho : va_AO RX0 (gs G)) (hk : k = N) (hN : N ≤ 1000) (hn : eN E = n) (hw : wE E) (hf : Fr G) (hkc : kc + 1 ≤ (gR G).cells) (hns : ns + N ≤ (gR G).slots) (hbL : ∀ v ∈ L, bnd n v) (hbs : ∀ v ∈ st, bnd n v)
    (kk : ∀ E' : EN, xt E E' → eN E' = n + 1 → At E' n (aR N nG) → (∀ c sh, At E c sh → At E' c sh) → wE E' → AW E' mi G (kc + 1) (ns + N) (pc + 3) L (vR n :: st) M) : AW E mi G kc ns pc L (vI k :: st) M := by
  intro C hs hL hst hM H locs ls hP hS hl
  subst hn
  subst hk
  have hr : rng (N : Int) := okhd hst
  refine va_newq (own := mi.1.cls) (C := RX0) (n := i32 (N : Int)) (N' := N) C.1 C.2.1 C.2.2.2.2.1 (C.2.2.2.2.2.1 _ hcl) ho hs.1 hP (hs.2.1.D M) hS hf (i32_nn (by omega) hr) (by rw [i32_clamp (by omega) hr]; omega) (by omega) hkc hns hd (fun q cA H1 hK1 hP1 hD1 hS1 => ?_)
  have hcA : cA = (eCs E).2.2 := by
    obtain ⟨kA, comp, -, -, -, h1⟩ := (hK1.2 3 (cA, .object RX0) rfl).2
    obtain ⟨kA', comp', -, -, -, h2⟩ := (hs.1.2 2 ((eCs E).2.2, .object RX0) rfl).2
    exact Option.some.inj (h1.symm.trans h2)
  have hcell : (Sum.inl (cA, N, .inr (.inr (.inr (.inr (fun _ => none))))) : va_E) = ccell (xE E q (aR N nG)) M (eN E) := by
    unfold ccell
    rw [xE_at.2, hcA]
    rfl
  rw [WS_x hw hcell] at hP1 hD1
  have key := kk (xE E q (aR N nG)) xE_xt rfl xE_at xE_up (xE_w hw (fun j hj => by
    obtain ⟨k, hk⟩ := hj
    cases hk)) C ⟨hs.1, eDj_of hD1, hs.2.2⟩ hL (okc1 trivial (oktl hst)) hM H1 locs ls hP1 hS1 (by rw [lvOf_xt xE_xt L 0 hbL]; exact hl)
  have e2 : (vR (eN E) :: st).map (cval (xE E q (aR N nG))) = .ref q :: st.map (cval E) := by
    rw [List.map_cons, map_xt xE_xt hbs]
    show Value.ref (if eN E = eN E then q else eAd E (eN E)) :: _ = _
    rw [if_pos rfl]
  rw [e2] at key
  exact key
theorem A_putF {c ci k idx j n : Nat} {fs : List (Option (Option Nat))} (hd : decode mi.2.1 pc = .ok (.putfield idx, 3)) (hF : FL mi.1.cls idx ci k) (hR : FRf mi.1.cls ci k) (ha : At E c (.inl (ci, fs))) (hn : eN E = n) (hj : j < n) (hkl : k < fs.length) (hw : wE E) (hin : (gt G).name = "<init>")
    (kk : ∀ E' : EN, xt E E' → eN E' = n → At E' c (.inl (ci, fs.set k (rf j))) → (∀ c' sh, c' ≠ c → At E c' sh → At E' c' sh) → wE E' → AW E' mi G kc ns (pc + 3) L st M) : AW E mi G kc ns pc L (vR j :: vR c :: st) M := by
  intro C hs hL hst hM H locs ls hP hS hl
  subst hn
  obtain ⟨X, T, N, ⟨h1, h2, ⟨ty0, h3⟩, h3'⟩, h4, h5, h6⟩ := hF
  obtain ⟨X', T', N', ty, i1, i2, i3, i4, i5⟩ := hR
  have e := i1.symm.trans h1
  cases e
  have hcell : (Sum.inr (ci, (fs.mapIdx (fun k o => fval E M c k o)).set k (.ref (eAd E j))) : va_E) = ccell (sE E c (.inl (ci, fs.set k (rf j)))) M c := by
    unfold ccell
    rw [(sE_at ha.1).2]
    refine congrArg _ (congrArg _ ?_)
    apply List.ext_getElem?
    intro i
    rw [List.getElem?_set, List.getElem?_mapIdx, List.getElem?_mapIdx, List.getElem?_set]
    by_cases hi : k = i
    · subst hi
      rw [if_pos rfl, if_pos (by rw [List.length_mapIdx]; exact hkl), if_pos rfl, if_pos hkl]
      rfl
    · rw [if_neg hi, if_neg hi]
      cases h : fs[i]? with
      | none => rfl
      | some o => rcases o with _ | _ | o <;> rfl
  refine va_putF (own := mi.1.cls) (ref := X) (C := X) (T := T) (N := N) (ci := ci) (Ts := TB) (ty := ty) (v := .ref (eAd E j)) C.1 C.2.1 C.2.2.2.2.2.1 h2 ty0 h3 h3' C.2.2.2.2.1 hs.1 hP (hs.2.1.D M) hS c ha.obj h1 k h4 (C.2.2.2.2.2.1 _ h6) (by rw [h5]; exact fun _ h => h) i2 hin i5 i3 (i4 _).1 (i4 _).2 (by rw [List.length_mapIdx]; exact hkl) hd (fun H1 locs1 hP1 hD1 hS1 => ?_)
  rw [WS_s hw ha.1 hcell] at hP1 hD1
  exact kk (sE E c (.inl (ci, fs.set k (rf j)))) sE_xt rfl (sE_at ha.1) sE_up (sE_w hw (fun i hi => by
    have hi : some (some i) ∈ fs.set k (rf j) := hi
    rcases List.mem_or_eq_of_mem_set hi with h | h
    · exact hw c ha.1 i (by rw [ha.2]; exact h)
    · cases h; exact hj)) C ⟨hs.1, eDj_of hD1, hs.2.2⟩ hL (oktl (oktl hst)) hM H1 locs1 ls hP1 hS1 (by rw [lvOf_s]; exact hl)
theorem A_aast {c j n N : Nat} {i : Int} {g : Nat → Option Nat} {fj : List (Option (Option Nat))} (hd : decode mi.2.1 pc = .ok (.aastore, 1)) (ha : At E c (aR N g)) (hj : At E j (.inl (0, fj))) (hn : eN E = n) (h0 : 0 ≤ i) (h1 : i < N) (hw : wE E)
    (kk : ∀ E' : EN, xt E E' → eN E' = n → At E' c (aR N (fun k => if k = i.toNat then some j else g k)) → (∀ c' sh, c' ≠ c → At E c' sh → At E' c' sh) → wE E' → AW E' mi G kc ns (pc + 1) L st M) : AW E mi G kc ns pc L (vR j :: vI i :: vR c :: st) M := by
  intro C hs hL hst hM H locs ls hP hS hl
  subst hn
  have hr : rng i := okhd (oktl hst)
  have hcell : (Sum.inl ((eCs E).2.2, N, .inr (.inr (.inr (.inr (va_up (fun k => (g k).map (eAd E)) (i32 i).toNatClampNeg (some (eAd E j))))))) : va_E) = ccell (sE E c (aR N (fun k => if k = i.toNat then some j else g k))) M c := by
    unfold ccell
    rw [(sE_at ha.1).2]
    refine congrArg _ (congrArg _ (congrArg _ (congrArg _ (congrArg _ (congrArg _ (congrArg _ ?_))))))
    funext k
    rw [i32_clamp h0 hr]
    unfold va_up
    by_cases hk : k = i.toNat
    · rw [if_pos hk]
      show some (eAd E j) = Option.map (eAd E) (if k = i.toNat then some j else g k)
      rw [if_pos hk]; rfl
    · rw [if_neg hk]
      show Option.map (eAd E) (g k) = Option.map (eAd E) (if k = i.toNat then some j else g k)
      rw [if_neg hk]
  refine va_astq (i := i32 i) (r := (RX0, TX0, 11)) C.1 C.2.1 hs.1 hP (hs.2.1.D M) hS c 2 j 0 ha.ar rfl hj.obj rfl (i32_in h0 h1 hr) hd (fun H1 locs1 hP1 hD1 hS1 => ?_)
  rw [WS_s hw ha.1 hcell] at hP1 hD1
  exact kk (sE E c (aR N (fun k => if k = i.toNat then some j else g k))) sE_xt rfl (sE_at ha.1) sE_up (sE_w hw (fun m hm => by
    obtain ⟨k, hk⟩ := hm
    have hk : (if k = i.toNat then some j else g k) = some m := hk
    by_cases e : k = i.toNat
    · rw [if_pos e] at hk; cases hk; exact hj.1
    · rw [if_neg e] at hk
      exact hw c ha.1 m (by rw [ha.2]; exact ⟨k, hk⟩))) C ⟨hs.1, eDj_of hD1, hs.2.2⟩ hL (oktl (oktl (oktl hst))) hM H1 locs1 ls hP1 hS1 (by rw [lvOf_s]; exact hl)
theorem oi_in : Cond.instanceMethod Lib.objectInit ∈ TB := tb_t 24 (by decide +kernel) (by decide +kernel)
theorem oi_code : Cond.code Lib.objectInit ⟨#[0xb1]⟩ 1 none ∈ TB := tb_t 25 (by decide +kernel) (by decide +kernel)
theorem A_objI {c idx d : Nat} (hd : decode mi.2.1 pc = .ok (.invokespecial idx, 3)) (hR : Rm G d kc ns) (h1 : 1 ≤ d) (hlink : Cond.methodLink mi.1.cls idx Lib.objectInit ∈ TB) (hw : Nat.ble (wts st) 8 = true) (kk : AW E mi G kc ns (pc + 3) L st M) : AW E mi G kc ns pc L (vR c :: st) M := by
  intro C hs hL hst hM H locs ls hP hS hl
  have key := kk C hs hL (oktl hst) hM H locs ls hP hS hl
  refine W.objInit (own := mi.1.cls) C.1 C.2.1 C.2.2.2.2.1 (C.2.2.2.2.2.1 _ hlink) (C.2.2.2.2.2.1 _ oi_in) (C.2.2.2.2.2.1 _ oi_code) rfl (hl.1.trans C.2.2.1.symm) rfl hd (Nat.le_trans h1 hR.1) ?_ ?_
  · rw [wts_eq]
    have h2 := Nat.le_of_ble_eq_true hw
    have h3 := hR.2.1
    show 0 + wts st + 12 ≤ _
    omega
  · exact W.eq (g2 := F0 (gm G) (pc + 3) ls (st.map (cval E))) rfl key
/-- what calls of private constructors, and rows of Courses, need -/
def Nst (s : State) : Prop := va_Nw (.methodLinkNest RX7 9 yX5_init RX7) s ∧ va_Nw (.methodLinkNest RX7 34 yX0_init RX7) s ∧ va_Nw (.methodLinkNest RX2 11 yX0_init RX7) s ∧ va_Nw (.methodLinkNest RX7 62 yX4_init RX7) s ∧ va_Nw (.methodLinkNest RX7 69 yX1_init RX7) s ∧ va_AO RX0 s
theorem Nst.moved {s U : State} (hW : s.WarmedH U.vm) (h : Nst s) : Nst U := ⟨va_Nw.warmM hW h.1, va_Nw.warmM hW h.2.1, va_Nw.warmM hW h.2.2.1, va_Nw.warmM hW h.2.2.2.1, va_Nw.warmM hW h.2.2.2.2.1, va_AO.moved hW.alike h.2.2.2.2.2⟩
def rmc (d kc ns : Nat) : Room := { frames := d, cells := kc, slots := ns, locals := 40 * d }
def fA (E : EN) (sz : Nat) : Nat → Prop := fun q => eA E q ∨ sz ≤ q
def pCI (E : EN) (args : List AV) (M : Mem) (sz : Nat) : Array Value → State → Prop := fun v U => v = (args.map (cval E)).toArray ∧ U.heap.size = sz ∧ va_P (eD E) vwCl (WS E M) U.heap ∧ Sta E (fA E sz) U ∧ Nst U
def qCI (E : EN) (sz : Nat) (Post : EN → Mem → Prop) : Array Value → State → Outcome → State → Prop := fun _ st oc t => (∃ (E' : EN) (M' : Mem), oc = .returned none ∧ okM M' ∧ xt E E' ∧ wE E' ∧ Post E' M' ∧ va_P (eD E') vwCl (WS E' M') t.heap ∧ eDj E' (fA E sz)) ∧ va_F (fA E sz) st t
/-- a constructor's contract -/
def CnI (E : EN) (l : Launch) (mi : MI) (d mc ms : Nat) (args : List AV) (M : Mem) (Post : EN → Mem → Prop) : Prop := ∀ sz : Nat, (∀ v ∈ args, okv v) → okM M → Met l mi.1 (wsM mi) (rmc d mc ms) (pCI E args M sz) (qCI E sz Post) mc ms (fA E sz)
def OkI (E : EN) (l : Launch) (d mc ms sz : Nat) (G : CX) (Post : EN → Mem → Prop) : Prop := gQ G = MQ (gb G) (qCI E sz Post) (ga G) (gs G) mc ms (fA E sz) ∧ gA G = fA E sz ∧ gl G = l ∧ gR G = rmc d mc ms ∧ (gs G).heap.size = sz ∧ Nst (gs G) ∧ (gt G).name = "<init>"
theorem OkI.fr {l : Launch} {d mc ms sz : Nat} {Post : EN → Mem → Prop} (h : OkI E l d mc ms sz G Post) : Fr G := fun q hq => by
  rw [h.2.1]
  rw [h.2.2.2.2.1] at hq
  exact Or.inr hq
theorem OkI.rm {l : Launch} {d mc ms sz kc ns : Nat} {Post : EN → Mem → Prop} (h : OkI E l d mc ms sz G Post) (h1 : kc ≤ mc) (h2 : ns ≤ ms) : Rm G d kc ns := by
  unfold Rm; rw [h.2.2.2.1]; exact ⟨Nat.le_refl _, Nat.le_refl _, h1, h2⟩
theorem OkI.c {l : Launch} {d mc ms sz kc : Nat} {Post : EN → Mem → Prop} (h : OkI E l d mc ms sz G Post) (h1 : kc ≤ mc) : kc ≤ (gR G).cells := by rw [h.2.2.2.1]; exact h1
theorem OkI.s {l : Launch} {d mc ms sz ns : Nat} {Post : EN → Mem → Prop} (h : OkI E l d mc ms sz G Post) (h1 : ns ≤ ms) : ns ≤ (gR G).slots := by rw [h.2.2.2.1]; exact h1
theorem CnI.of {l : Launch} {d mc ms : Nat} {As : List AV} {Post : EN → Mem → Prop} {L0 : List AV} (hy : plainName mi.1.cls = true) (hini : mi.1.name = "<init>") (hu : As.all (fun v => !isU v) = true) (hn : (lg_sl (As.map (cval E))).length ≤ mi.2.2.1) (m : Nat) (hL0 : entL As ++ List.replicate m vU = L0)
    (h : (∀ v ∈ As, okv v) → okM M → ∀ (sz : Nat) (G : CX), OkI E l d mc ms sz G Post → AW E mi G 0 0 0 L0 [] M) : CnI E l mi d mc ms As M Post := by
  intro sz hAs hM
  refine Met.ofW (cc := mi.2.1) (maxL := mi.2.2.1) (ret := mi.2.2.2) hy rfl ?_
  intro p e s m0 args below meth c s₁ B hml hv
  obtain ⟨rfl, hsz, hP, hs, hN⟩ := hv
  have hts := atoms_spec (ws := wsM mi) B.pre
  have hl := lv_entry (As.map (cval E)) hn
  have hin : meth.name = "<init>" := (name_of_methodNamed B.named B.method).1.trans hini
  rw [lg_entry_eq]
  refine h hAs hM sz (p, l, e, rmc d mc ms, s, m0, (As.map (cval E)).toArray, below, meth, c, fA E sz, MQ below (qCI E sz Post) (As.map (cval E)).toArray s mc ms (fA E sz)) ⟨rfl, rfl, rfl, rfl, hsz, hN, hin⟩ ⟨B.exec, B.bytes, hml, B.returns, findClass_of_methodNamed B.named, fun w hw => hts w (List.mem_cons_of_mem _ hw), B.notSynchronized⟩ hs ?_ (fun v hv => by cases hv) hM s.heap [] _ hP va_S.rf ⟨hl.1, hl.2.1, fun q hq => hl.2.2 q ?_⟩
  · rw [← hL0]
    intro v hv
    rcases List.mem_append.mp hv with hv | hv
    · exact entL_ok As hAs v hv
    · rw [(List.mem_replicate.mp hv).2]; exact trivial
  · rw [← hL0] at hq
    exact entL_args E As 0 m (fun v hv => by simpa using List.all_eq_true.mp hu v hv) q hq
theorem A_iend {E0 : EN} {l : Launch} {d sz : Nat} {Post : EN → Mem → Prop} (hR : OkI E0 l d kc ns sz G Post) (hx : xt E0 E) (hw : wE E) (hd : decode mi.2.1 pc = .ok (.return_, 1)) (ht : mi.2.2.2 = none) (hp : Post E M) : AW E mi G kc ns pc L [] M := by
  intro C hs hL hst hM H locs ls hP hS hl
  rw [hR.1]
  have hA : gA G = fA E0 sz := hR.2.1
  rw [hA] at hS hs
  exact W.vret C.1 C.2.1 (C.2.2.2.1.trans ht) (fun t ht hW => ⟨⟨E, M, rfl, hM, hx, hw, hp, by rw [ht]; exact hP, hs.2.1⟩, hS.F ht⟩) hS.2.2 hd C.2.2.2.2.2.2
theorem pCI_blind {As : List AV} {sz : Nat} : FrameBlind (pCI E As M sz) := fun a U g mk ⟨h1, h2, h3, h4, h5⟩ =>
  have q : U.vm.Alike (U.calling g mk a).vm := Vm.Alike.refl U.vm
  ⟨h1, h2, h3, ⟨va_K.moved (u := U) (U := U.calling g mk a) q h4.1, h4.2.1, vk_S.moved (u := U) (U := U.calling g mk a) q h4.2.2.1, fun i hi => vk_R.same (u := U) (U := U.calling g mk a) rfl (h4.2.2.2.1 i hi), va_Z.moved (u := U) (U := U.calling g mk a) q h4.2.2.2.2.1,
    h4.2.2.2.2.2.elim (fun h => Or.inl (va_Z.moved (u := U) (U := U.calling g mk a) q h)) (fun h => Or.inr (va_Z.moved (u := U) (U := U.calling g mk a) q h))⟩,
    ⟨va_Nw.same rfl (u := U) (U := U.calling g mk a) rfl h5.1, va_Nw.same rfl (u := U) (U := U.calling g mk a) rfl h5.2.1, va_Nw.same rfl (u := U) (U := U.calling g mk a) rfl h5.2.2.1, va_Nw.same rfl (u := U) (U := U.calling g mk a) rfl h5.2.2.2.1, va_Nw.same rfl (u := U) (U := U.calling g mk a) rfl h5.2.2.2.2.1, va_AO.moved (u := U) (U := U.calling g mk a) q h5.2.2.2.2.2⟩⟩
theorem Sta.movedI {A : Nat → Prop} {s U : State} {H : Heap} {locs : List Loc} (h : Sta E A s) (hf : ∀ q, s.heap.size ≤ q → A q) (hS : va_S A s.heap H locs) (hU : U.heap = H) (hW : s.WarmedH U.vm) : Sta E (fA E H.size) U := by
  have hsub : ∀ q, fA E H.size q → A q := fun q hq => by
    rcases hq with ⟨i, hi, hq⟩ | hq
    · rw [hq]; exact h.2.1.2 i hi
    · exact hf q (Nat.le_trans hS.1 hq)
  have z : ∀ {C n d : String} {v : Value}, va_Z C n d v A s s.heap → va_Z C n d v (fA E H.size) U U.heap := fun hz => by
    rw [hU]
    exact ((hz.kept hS.2.1).moved hW.alike).narrow hsub
  refine ⟨va_K.moved hW.alike h.1, ⟨h.2.1.1, fun i hi => Or.inl ⟨i, hi, rfl⟩⟩, ?_, fun i hi => (h.2.2.2.1 i hi).warm hW, z h.2.2.2.2.1, h.2.2.2.2.2.elim (fun h => Or.inl (z h)) (fun h => Or.inr (z h))⟩
  rw [hU]
  exact ((h.2.2.1.kept hS.2.1).moved hW.alike).narrow hsub
theorem A_iret0 {b mc ms : Nat} {As : List AV} {Post : EN → Mem → Prop} {lsx : Array Slot} {H : Heap} {locs : List Loc} {A1 : Array Value} (C : Okc mi G) (hs : Sta E (gA G) (gs G)) (hf : Fr G) (hS : va_S (gA G) (gs G).heap H locs) (hL : ∀ v ∈ L, okv v) (hst : ∀ v ∈ st, okv v) (hl : lv_has lsx mi.2.2.1 (lvOf E 0 L)) (hbL : ∀ v ∈ L, bnd (eN E) v) (hbs : ∀ v ∈ st, bnd (eN E) v)
    (hr : va_Run (gp G) (gl G) (ge G) (gR G) (gs G) (gm G) (ga G) (gb G) (gt G) (gc G) H locs kc ns mc ms (F0 (gm G) pc lsx ((As.reverse ++ vR b :: st).map (cval E))) (st.map (cval E)) (qCI E H.size Post A1) (fA E H.size))
    (kk : ∀ (E' : EN) (M' : Mem), okM M' → xt E E' → wE E' → Post E' M' → AW E' mi G (kc + mc) (ns + ms) (pc + 3) L st M') :
    W (gp G) (gl G) (ge G) (gR G) (gs G) (gm G) (ga G) (gb G) (gt G) (gc G) H locs kc ns (gQ G) (F0 (gm G) pc lsx ((As.reverse ++ vR b :: st).map (cval E))) := by
  intro T hT X
  obtain ⟨v, st₀, t, T', L1, h0, X', hL1, e1, e2, ⟨⟨E', M', hv, hM', hx, hw, hp, hP', hdj⟩, hz, hk⟩, stp⟩ := hr T hT X
  cases hv
  rw [h0] at hz hk
  have hsub : ∀ q, fA E H.size q → gA G q := fun q hq => by
    rcases hq with ⟨i, hi, hq⟩ | hq
    · rw [hq]; exact hs.2.1.2 i hi
    · exact hf q (Nat.le_trans hS.1 hq)
  have hs' : Sta E' (gA G) (gs G) := by
    refine ⟨?_, ⟨hdj.1, fun i hi => hsub _ (hdj.2 i hi)⟩, ?_⟩
    · unfold eTy
      rw [hx.1, hx.2.2.1]
      exact hs.1
    · unfold eStr
      rw [hx.2.1]
      exact hs.2.2
  obtain ⟨t2, a1, b1⟩ := kk E' M' hM' hx hw hp C hs' hL hst hM' T'.heap (locs ++ L1) lsx (by rw [e1]; exact hP')
    ⟨Nat.le_trans hS.1 (by rw [e1]; exact hz), fun q h1 h2 => by rw [e1, hk q (Nat.lt_of_lt_of_le h1 hS.1) (fun z => h2 (hsub q z))]; exact hS.2.1 q h1 h2, fun q hq => by
      rcases List.mem_append.mp hq with h | h
      · exact hS.2.2 q h
      · exact hsub _ (hL1 q h)⟩ (by rw [lvOf_xt hx L 0 hbL]; exact hl) T' rfl X'
  rw [map_xt hx hbs] at a1
  exact ⟨t2, stp t2 a1, b1⟩
theorem stk_rev {b : Nat} {As : List AV} : (As.reverse ++ vR b :: st).map (cval E) = (As.map (cval E)).reverse ++ Value.ref (eAd E b) :: st.map (cval E) := by
  rw [List.map_append, List.map_reverse, List.map_cons]; rfl
theorem A_ctor {y : MethodName} {bc : ByteArray} {nl d d' idx n b mc ms N : Nat} {As : List AV} {Post : EN → Mem → Prop} (hd : decode mi.2.1 pc = .ok (.invokespecial idx, 3)) (hR : Rm G d kc ns) (hlt : d' < d) (hO : MOK (y, bc, nl, none) n) (hni : y.name = "<init>") (hI : Cond.instanceMethod y ∈ TB) (hlink : Cond.methodLink mi.1.cls idx y ∈ TB) (hAn : As.length = n) (hw : Nat.ble (wts st) 8 = true) (hf : Fr G) (hkc : kc + mc ≤ (gR G).cells) (hns : ns + ms ≤ (gR G).slots) (hn : eN E = N) (hbL : ∀ v ∈ L, bnd N v) (hbs : ∀ v ∈ st, bnd N v) (hN : Nst (gs G))
    (hc : CnI E (gl G) (y, bc, nl, none) d' mc ms (vR b :: As) M Post) (kk : ∀ (E' : EN) (M' : Mem), okM M' → xt E E' → wE E' → Post E' M' → AW E' mi G (kc + mc) (ns + ms) (pc + 3) L st M') : AW E mi G kc ns pc L (As.reverse ++ vR b :: st) M := by
  intro C hs hL hst hM H locs ls hP hS hl
  subst hn
  have hAs : ∀ v ∈ As, okv v := fun v hv => hst v (List.mem_append_left _ (List.mem_reverse.mpr hv))
  have hst' : ∀ v ∈ st, okv v := fun v hv => hst v (List.mem_append_right _ (List.mem_cons_of_mem _ hv))
  refine A_iret0 (As := As) (b := b) (A1 := (Value.ref (eAd E b) :: As.map (cval E)).toArray) C hs hf hS hL hst' hl hbL hbs ?_ kk
  refine va_runI (n := n) (As := As.map (cval E)) (b := eAd E b) (Ts := TB) (own := mi.1.cls) (nL := mi.2.2.1) ⟨C.1, C.2.1, C.2.2.1, C.2.2.2.2.1, C.2.2.2.2.2.1⟩ (hc H.size (okc1 trivial hAs) hM) ⟨callB_of (Ts := TB) (ws' := TB) n C.2.2.2.2.2.1 (wsM_good (mi := (y, bc, nl, none)) hO.1) rfl rfl rfl (C.2.2.2.2.2.1 _ hO.2.1) (C.2.2.2.2.2.1 _ hlink) hO.2.2.1 ⟨Nat.le_trans (by show d' + 1 ≤ d; omega) hR.1, by
    have h1 := hR.2.1
    have h2 : nl ≤ 20 := hO.2.2.2
    show 8 + (nl + 11) + 40 * d' ≤ _
    omega⟩, hni, C.2.2.2.2.2.1 _ hI⟩ ⟨pCI_blind, fun U hU hW => ⟨rfl, by rw [hU], by rw [hU]; exact hP, hs.movedI hf hS hU hW, hN.moved hW⟩⟩ rfl (by rw [List.length_map]; exact hAn) hl.1 stk_rev (by rw [wts_eq]; show 0 + wts st ≤ 8; have := Nat.le_of_ble_eq_true hw; omega) hd ⟨hkc, hns⟩
theorem A_ctorN {y : MethodName} {bc : ByteArray} {host : String} {nl d d' idx n b mc ms N : Nat} {As : List AV} {Post : EN → Mem → Prop} (hd : decode mi.2.1 pc = .ok (.invokespecial idx, 3)) (hR : Rm G d kc ns) (hlt : d' < d) (hO : MOK (y, bc, nl, none) n) (hni : y.name = "<init>") (hI : Cond.instanceMethod y ∈ TB) (hlink : va_Nw (.methodLinkNest mi.1.cls idx y host) (gs G)) (hAn : As.length = n) (hw : Nat.ble (wts st) 8 = true) (hf : Fr G) (hkc : kc + mc ≤ (gR G).cells) (hns : ns + ms ≤ (gR G).slots) (hn : eN E = N) (hbL : ∀ v ∈ L, bnd N v) (hbs : ∀ v ∈ st, bnd N v) (hN : Nst (gs G))
    (hc : CnI E (gl G) (y, bc, nl, none) d' mc ms (vR b :: As) M Post) (kk : ∀ (E' : EN) (M' : Mem), okM M' → xt E E' → wE E' → Post E' M' → AW E' mi G (kc + mc) (ns + ms) (pc + 3) L st M') : AW E mi G kc ns pc L (As.reverse ++ vR b :: st) M := by
  intro C hs hL hst hM H locs ls hP hS hl
  subst hn
  have hAs : ∀ v ∈ As, okv v := fun v hv => hst v (List.mem_append_left _ (List.mem_reverse.mpr hv))
  have hst' : ∀ v ∈ st, okv v := fun v hv => hst v (List.mem_append_right _ (List.mem_cons_of_mem _ hv))
  refine A_iret0 (As := As) (b := b) (A1 := (Value.ref (eAd E b) :: As.map (cval E)).toArray) C hs hf hS hL hst' hl hbL hbs ?_ kk
  refine va_runIN (n := n) (As := As.map (cval E)) (b := eAd E b) (Ts := TB) (own := mi.1.cls) (nL := mi.2.2.1) ⟨C.1, C.2.1, C.2.2.1, C.2.2.2.2.1, C.2.2.2.2.2.1⟩ (hc H.size (okc1 trivial hAs) hM) ⟨va_cnB (Ts := TB) (ws' := TB) n C.2.2.2.2.2.1 (wsM_good (mi := (y, bc, nl, none)) hO.1) rfl rfl rfl hlink (C.2.2.2.2.2.1 _ hO.2.1) hO.2.2.1 ⟨Nat.le_trans (by show d' + 1 ≤ d; omega) hR.1, by
    have h1 := hR.2.1
    have h2 : nl ≤ 20 := hO.2.2.2
    show 8 + (nl + 11) + 40 * d' ≤ _
    omega⟩, hni, C.2.2.2.2.2.1 _ hI⟩ ⟨pCI_blind, fun U hU hW => ⟨rfl, by rw [hU], by rw [hU]; exact hP, hs.movedI hf hS hU hW, hN.moved hW⟩⟩ rfl (by rw [List.length_map]; exact hAn) hl.1 stk_rev (by rw [wts_eq]; show 0 + wts st ≤ 8; have := Nat.le_of_ble_eq_true hw; omega) hd ⟨hkc, hns⟩
end ROWSN
