/-! AW: the kit's W over the shape and the memory -/
def tIdx : List Nat := [58, 67, 73, 75, 77, 79, 87, 95, 100]
def tByt : List (List Int32) := [[111, 102, 102, 105, 99, 101], [112, 108, 97, 105, 110], [108, 105, 99, 107, 115], [115, 116, 97, 109, 112, 115], [99, 101, 108, 108, 97, 114], [116, 114, 97, 105, 108], [102, 105, 108, 101], [102, 97, 100, 101], [119, 105, 110, 116, 101, 114]]
abbrev zF (E : EN) (v : Value) (A : Nat → Prop) (U : State) (H : Heap) : Prop := va_Z "jdk/internal/util/Preconditions" "SIOOBE_FORMATTER" "Ljava/util/function/BiFunction;" v A U H
def eStr (E : EN) (A : Nat → Prop) (U : State) (H : Heap) : Prop := vk_S 9 tLen tByt (eSa E) (fun i => eSa E (20 + i)) A U H ∧ (∀ i, i < 9 → vk_R RX3 (tIdx.getD i 0) (tTxt.getD i "") (eSa E i) U) ∧ va_Z "java/lang/String" "COMPACT_STRINGS" "Z" (.int 1) A U H ∧ (zF E .null A U H ∨ zF E (.ref (eSa E 10)) A U H)
abbrev CX : Type := Program × Launch × Env × Room × State × MethodId × Array Value × List Frame × Method × Code × (Nat → Prop) × (State → Prop)
abbrev gp (G : CX) : Program := G.1
abbrev gl (G : CX) : Launch := G.2.1
abbrev ge (G : CX) : Env := G.2.2.1
abbrev gR (G : CX) : Room := G.2.2.2.1
abbrev gs (G : CX) : State := G.2.2.2.2.1
abbrev gm (G : CX) : MethodId := G.2.2.2.2.2.1
abbrev ga (G : CX) : Array Value := G.2.2.2.2.2.2.1
abbrev gb (G : CX) : List Frame := G.2.2.2.2.2.2.2.1
abbrev gt (G : CX) : Method := G.2.2.2.2.2.2.2.2.1
abbrev gc (G : CX) : Code := G.2.2.2.2.2.2.2.2.2.1
abbrev gA (G : CX) : Nat → Prop := G.2.2.2.2.2.2.2.2.2.2.1
abbrev gQ (G : CX) : State → Prop := G.2.2.2.2.2.2.2.2.2.2.2
def Okc (mi : MI) (G : CX) : Prop := (gp G).tables.exec = Jvm.exec ∧ (gc G).code = mi.2.1 ∧ (gc G).maxLocals = mi.2.2.1 ∧ (gt G).sig.returnType = mi.2.2.2 ∧ (gs G).vm.findClass mi.1.cls = some (gm G).cls ∧ (∀ w ∈ TB, w.before (ga G) (gs G) = true) ∧ (gt G).locks = false
def Sta (E : EN) (A : Nat → Prop) (s : State) : Prop := va_K (eD E) vwCl (eTy E) s ∧ eDj E A ∧ eStr E A s s.heap
def isU (v : AV) : Bool := match v with
  | .inr (.inr (.inr (.inr _))) => true
  | _ => false
def lvOf (E : EN) : Nat → List AV → List (Nat × Value)
  | _, [] => []
  | i, v :: t => if isU v = true then lvOf E (i + 1) t else (i, cval E v) :: lvOf E (i + 1) t
theorem mem_lvOf {E : EN} {q : Nat × Value} : ∀ (L : List AV) (i : Nat), q ∈ lvOf E i L ↔ ∃ j v, L[j]? = some v ∧ isU v = false ∧ q = (i + j, cval E v)
  | [], i => by simp [lvOf]
  | v :: t, i => by
    unfold lvOf
    constructor
    · intro h
      split at h
      · obtain ⟨j, w, h1, h2, h3⟩ := (mem_lvOf t (i + 1)).mp h
        exact ⟨j + 1, w, by simpa using h1, h2, by rw [h3]; congr 1; omega⟩
      · rename_i hu
        rcases List.mem_cons.mp h with h | h
        · exact ⟨0, v, by simp, by simpa using hu, by rw [h]; rfl⟩
        · obtain ⟨j, w, h1, h2, h3⟩ := (mem_lvOf t (i + 1)).mp h
          exact ⟨j + 1, w, by simpa using h1, h2, by rw [h3]; congr 1; omega⟩
    · rintro ⟨j, w, h1, h2, h3⟩
      cases j with
      | zero =>
        have hv : v = w := by simpa using h1
        subst hv
        rw [if_neg (by simp [h2])]
        exact List.mem_cons.mpr (Or.inl (by rw [h3]; rfl))
      | succ j =>
        have hm := (mem_lvOf (E := E) (q := q) t (i + 1)).mpr ⟨j, w, by simpa using h1, h2, by rw [h3]; congr 1; omega⟩
        split
        · exact hm
        · exact List.mem_cons.mpr (Or.inr hm)
theorem lv_get {E : EN} {L : List AV} {ls : Array Slot} {n i : Nat} {v : AV} (h : lv_has ls n (lvOf E 0 L)) (hi : L[i]? = some v) (hu : isU v = false) : ls[i]? = some (.val (cval E v)) :=
  h.2.2 (i, cval E v) ((mem_lvOf L 0).mpr ⟨i, v, hi, hu, by simp⟩)
def noL (L : List AV) (i : Nat) : Bool := match i with
  | 0 => true
  | j + 1 => match L[j]? with
    | some (.inr (.inr (.inl _))) => false
    | _ => true
theorem lv_put {E : EN} {L : List AV} {ls : Array Slot} {n i : Nat} {v : AV} (hn : noL L i = true) (h : lv_has ls n ((i, cval E v) :: (lvOf E 0 L).filter (fun q => !(q.1 == i) && !(q.1 + 1 == i && q.2.category == 2)))) : lv_has ls n (lvOf E 0 (L.set i v)) := by
  refine ⟨h.1, h.2.1, fun q hq => ?_⟩
  obtain ⟨j, w, h1, h2, rfl⟩ := (mem_lvOf _ 0).mp hq
  rw [Nat.zero_add]
  rw [List.getElem?_set] at h1
  by_cases hij : i = j
  · subst hij
    rw [if_pos rfl] at h1
    split at h1
    · cases h1
      exact h.2.2 (i, cval E v) List.mem_cons_self
    · cases h1
  · rw [if_neg hij] at h1
    refine h.2.2 (j, cval E w) (List.mem_cons_of_mem _ (List.mem_filter.mpr ⟨(mem_lvOf L 0).mpr ⟨j, w, h1, h2, by simp⟩, ?_⟩))
    have e1 : (j == i) = false := by simp; omega
    simp only [e1, Bool.not_false, Bool.true_and, Bool.not_eq_true', Bool.and_eq_false_iff, beq_eq_false_iff_ne]
    by_cases hj : j + 1 = i
    · right
      subst hj
      simp only [noL, h1] at hn
      revert hn h2
      rcases w with z | c | z | k | u <;> simp [cval, Value.category, isU]
    · left; exact hj
theorem okc1 {v : AV} {st : List AV} (h : okv v) (hs : ∀ w ∈ st, okv w) : ∀ w ∈ v :: st, okv w := fun w hw => by
  rcases List.mem_cons.mp hw with rfl | hw
  · exact h
  · exact hs w hw
theorem okl {L : List AV} {i : Nat} {v : AV} (hL : ∀ w ∈ L, okv w) (h : L[i]? = some v) : okv v := hL v (List.mem_of_getElem? h)
theorem okset {L : List AV} {i : Nat} {v : AV} (hL : ∀ w ∈ L, okv w) (h : okv v) : ∀ w ∈ L.set i v, okv w := fun w hw => by
  rcases List.mem_or_eq_of_mem_set hw with hw | rfl
  · exact hL w hw
  · exact h
theorem oktl {v : AV} {st : List AV} (h : ∀ w ∈ v :: st, okv w) : ∀ w ∈ st, okv w := fun w hw => h w (List.mem_cons_of_mem _ hw)
theorem okhd {v : AV} {st : List AV} (h : ∀ w ∈ v :: st, okv w) : okv v := h v List.mem_cons_self
def AW (E : EN) (mi : MI) (G : CX) (kc ns pc : Nat) (L st : List AV) (M : Mem) : Prop :=
  Okc mi G → Sta E (gA G) (gs G) → (∀ v ∈ L, okv v) → (∀ v ∈ st, okv v) → okM M → ∀ (H : Heap) (locs : List Loc) (ls : Array Slot), va_P (eD E) vwCl (WS E M) H → va_S (gA G) (gs G).heap H locs → lv_has ls mi.2.2.1 (lvOf E 0 L) →
    W (gp G) (gl G) (ge G) (gR G) (gs G) (gm G) (ga G) (gb G) (gt G) (gc G) H locs kc ns (gQ G) (F0 (gm G) pc ls (st.map (cval E)))
def rmd (d : Nat) : Room := { frames := d, cells := 0, slots := 0, locals := 40 * d }
def rout (E : EN) (r : AV) : Option Value := if isU r = true then none else some (cval E r)
def qC (E : EN) (Post : AV → Mem → Prop) : Array Value → State → Outcome → State → Prop := fun _ st oc t => (∃ (r : AV) (M' : Mem), oc = .returned (rout E r) ∧ okv r ∧ okM M' ∧ Post r M' ∧ va_P (eD E) vwCl (WS E M') t.heap) ∧ va_F (eA E) st t
def pC (E : EN) (args : List AV) (M : Mem) : Array Value → State → Prop := fun v U => v = (args.map (cval E)).toArray ∧ va_P (eD E) vwCl (WS E M) U.heap ∧ Sta E (eA E) U
/-- a method's contract: from these values and this memory it answers so -/
def Cn (E : EN) (l : Launch) (mi : MI) (d : Nat) (args : List AV) (M : Mem) (Post : AV → Mem → Prop) : Prop := (∀ v ∈ args, okv v) → okM M → Met l mi.1 (wsM mi) (rmd d) (pC E args M) (qC E Post) 0 0 (eA E)
def Rm (G : CX) (d kc ns : Nat) : Prop := d ≤ (gR G).frames ∧ 40 * d ≤ (gR G).locals ∧ kc ≤ (gR G).cells ∧ ns ≤ (gR G).slots
def Okr (E : EN) (l : Launch) (d : Nat) (G : CX) (Post : AV → Mem → Prop) : Prop := gQ G = MQ (gb G) (qC E Post) (ga G) (gs G) 0 0 (eA E) ∧ gA G = eA E ∧ gl G = l ∧ gR G = rmd d
theorem Okr.rm {E : EN} {l : Launch} {d : Nat} {G : CX} {Post : AV → Mem → Prop} (h : Okr E l d G Post) : Rm G d 0 0 := by
  unfold Rm; rw [h.2.2.2]; exact ⟨Nat.le_refl _, Nat.le_refl _, Nat.le_refl _, Nat.le_refl _⟩
section ROWS
variable {E : EN} {mi : MI} {G : CX} {kc ns pc : Nat} {L st : List AV} {M : Mem}

theorem A_iconst {n : Int} (hd : decode mi.2.1 pc = .ok (.iconst n, 1)) (hr : rng n) (kk : AW E mi G kc ns (pc + 1) L (vI n :: st) M) : AW E mi G kc ns pc L (st) M := by
  intro C hs hL hst hM H locs ls hP hS hl
  exact lv_iconst C.1 C.2.1 hd rfl (kk C hs hL (okc1 hr hst) hM H locs ls hP hS hl)
theorem A_bipush {n : Int} (hd : decode mi.2.1 pc = .ok (.bipush n, 2)) (hv : (Int8.ofInt n).toInt32 = i32 n) (hr : rng n) (kk : AW E mi G kc ns (pc + 2) L (vI n :: st) M) : AW E mi G kc ns pc L (st) M := by
  intro C hs hL hst hM H locs ls hP hS hl
  exact lv_bipush C.1 C.2.1 hd hv (kk C hs hL (okc1 hr hst) hM H locs ls hP hS hl)
theorem A_sipush {n : Int} (hd : decode mi.2.1 pc = .ok (.sipush n, 3)) (hv : (Int16.ofInt n).toInt32 = i32 n) (hr : rng n) (kk : AW E mi G kc ns (pc + 3) L (vI n :: st) M) : AW E mi G kc ns pc L (st) M := by
  intro C hs hL hst hM H locs ls hP hS hl
  exact lv_sipush C.1 C.2.1 hd hv (kk C hs hL (okc1 hr hst) hM H locs ls hP hS hl)
theorem A_lconst {n : Fin 2} (hd : decode mi.2.1 pc = .ok (.lconst n, 1))  (kk : AW E mi G kc ns (pc + 1) L (vL ((n : Nat) : Int) :: st) M) : AW E mi G kc ns pc L (st) M := by
  intro C hs hL hst hM H locs ls hP hS hl
  exact lv_lconst C.1 C.2.1 hd (show Int64.ofNat (n : Nat) = i64 ((n : Nat) : Int) by rcases n with ⟨k, hk⟩; rcases (show k = 0 ∨ k = 1 by omega) with rfl | rfl <;> rfl) (kk C hs hL (okc1 ⟨by omega, by omega⟩ hst) hM H locs ls hP hS hl)
theorem A_ldc {index : Nat} {n : Int} (hd : decode mi.2.1 pc = .ok (.ldc index, 2)) (hw : Cond.constant mi.1.cls index (i32 n) ∈ TB) (hr : rng n) (kk : AW E mi G kc ns (pc + 2) L (vI n :: st) M) : AW E mi G kc ns pc L (st) M := by
  intro C hs hL hst hM H locs ls hP hS hl
  exact lv_ldc (own := mi.1.cls) (v := i32 n) C.1 C.2.1 C.2.2.2.2.1 (C.2.2.2.2.2.1 _ hw) hd (kk C hs hL (okc1 hr hst) hM H locs ls hP hS hl)
theorem A_ldc2 {index : Nat} {n : Int} (hd : decode mi.2.1 pc = .ok (.ldc2_w index, 3)) (hw : Cond.constantLong mi.1.cls index (i64 n) ∈ TB) (hr : rngL n) (kk : AW E mi G kc ns (pc + 3) L (vL n :: st) M) : AW E mi G kc ns pc L (st) M := by
  intro C hs hL hst hM H locs ls hP hS hl
  exact lv_ldc2 (own := mi.1.cls) (v := i64 n) C.1 C.2.1 C.2.2.2.2.1 (C.2.2.2.2.2.1 _ hw) hd (kk C hs hL (okc1 hr hst) hM H locs ls hP hS hl)
theorem A_ldcS {index i : Nat} (hd : decode mi.2.1 pc = .ok (.ldc index, 2)) (ho : mi.1.cls = RX3) (hi : i < 9) (hx : index = tIdx.getD i 0) (kk : AW E mi G kc ns (pc + 2) L (vS i :: st) M) : AW E mi G kc ns pc L (st) M := by
  intro C hs hL hst hM H locs ls hP hS hl
  exact va_ldcS (own := mi.1.cls) C.1 C.2.1 C.2.2.2.2.1 (by rw [ho, hx]; exact hs.2.2.2.1 i hi) hd (kk C hs hL (okc1 trivial hst) hM H locs ls hP hS hl)
theorem A_iload_n {k : Fin 4} {z : Int} (hd : decode mi.2.1 pc = .ok (.iload_n k, 1)) (h : L[(k : Nat)]? = some (vI z)) (kk : AW E mi G kc ns (pc + 1) L (vI z :: st) M) : AW E mi G kc ns pc L (st) M := by
  intro C hs hL hst hM H locs ls hP hS hl
  exact lv_iload_n C.1 C.2.1 hd rfl (lv_get hl h rfl) (kk C hs hL (okc1 (okl hL h) hst) hM H locs ls hP hS hl)
theorem A_iload {i : Nat} {z : Int} (hd : decode mi.2.1 pc = .ok (.iload i, 2)) (h : L[i]? = some (vI z)) (kk : AW E mi G kc ns (pc + 2) L (vI z :: st) M) : AW E mi G kc ns pc L (st) M := by
  intro C hs hL hst hM H locs ls hP hS hl
  exact lv_iload C.1 C.2.1 hd (lv_get hl h rfl) (kk C hs hL (okc1 (okl hL h) hst) hM H locs ls hP hS hl)
theorem A_lload_n {k : Fin 4} {z : Int} (hd : decode mi.2.1 pc = .ok (.lload_n k, 1)) (h : L[(k : Nat)]? = some (vL z)) (kk : AW E mi G kc ns (pc + 1) L (vL z :: st) M) : AW E mi G kc ns pc L (st) M := by
  intro C hs hL hst hM H locs ls hP hS hl
  exact lv_lload_n C.1 C.2.1 hd rfl (lv_get hl h rfl) (kk C hs hL (okc1 (okl hL h) hst) hM H locs ls hP hS hl)
theorem A_lload {i : Nat} {z : Int} (hd : decode mi.2.1 pc = .ok (.lload i, 2)) (h : L[i]? = some (vL z)) (kk : AW E mi G kc ns (pc + 2) L (vL z :: st) M) : AW E mi G kc ns pc L (st) M := by
  intro C hs hL hst hM H locs ls hP hS hl
  exact lv_lload C.1 C.2.1 hd (lv_get hl h rfl) (kk C hs hL (okc1 (okl hL h) hst) hM H locs ls hP hS hl)
theorem A_aload_n {k : Fin 4} {c : Nat} (hd : decode mi.2.1 pc = .ok (.aload_n k, 1)) (h : L[(k : Nat)]? = some (vR c)) (kk : AW E mi G kc ns (pc + 1) L (vR c :: st) M) : AW E mi G kc ns pc L (st) M := by
  intro C hs hL hst hM H locs ls hP hS hl
  exact lv_aload_n C.1 C.2.1 hd rfl (lv_get hl h rfl) (kk C hs hL (okc1 trivial hst) hM H locs ls hP hS hl)
theorem A_aload {i : Nat} {c : Nat} (hd : decode mi.2.1 pc = .ok (.aload i, 2)) (h : L[i]? = some (vR c)) (kk : AW E mi G kc ns (pc + 2) L (vR c :: st) M) : AW E mi G kc ns pc L (st) M := by
  intro C hs hL hst hM H locs ls hP hS hl
  exact lv_aload C.1 C.2.1 hd (lv_get hl h rfl) (kk C hs hL (okc1 trivial hst) hM H locs ls hP hS hl)
theorem A_aload_nS {k : Fin 4} {c : Nat} (hd : decode mi.2.1 pc = .ok (.aload_n k, 1)) (h : L[(k : Nat)]? = some (vS c)) (kk : AW E mi G kc ns (pc + 1) L (vS c :: st) M) : AW E mi G kc ns pc L (st) M := by
  intro C hs hL hst hM H locs ls hP hS hl
  exact lv_aload_n C.1 C.2.1 hd rfl (lv_get hl h rfl) (kk C hs hL (okc1 trivial hst) hM H locs ls hP hS hl)
theorem A_istore_n {k : Fin 4} {z : Int} (hd : decode mi.2.1 pc = .ok (.istore_n k, 1)) (hn : (k : Nat) < mi.2.2.1) (hz : noL L (k : Nat) = true) (kk : AW E mi G kc ns (pc + 1) (L.set (k : Nat) (vI z)) st M) : AW E mi G kc ns pc L (vI z :: st) M := by
  intro C hs hL hst hM H locs ls hP hS hl
  exact lv_istore_n C.1 C.2.1 hd rfl hl hn rfl (fun ls' hl' => kk C hs (okset hL (okhd hst)) (oktl hst) hM H locs ls' hP hS (lv_put (v := vI z) hz hl'))
theorem A_istore {i : Nat} {z : Int} (hd : decode mi.2.1 pc = .ok (.istore i, 2)) (hn : i < mi.2.2.1) (hz : noL L i = true) (kk : AW E mi G kc ns (pc + 2) (L.set i (vI z)) st M) : AW E mi G kc ns pc L (vI z :: st) M := by
  intro C hs hL hst hM H locs ls hP hS hl
  exact lv_istore C.1 C.2.1 hd hl hn rfl (fun ls' hl' => kk C hs (okset hL (okhd hst)) (oktl hst) hM H locs ls' hP hS (lv_put (v := vI z) hz hl'))
theorem A_astore_n {k : Fin 4} {c : Nat} (hd : decode mi.2.1 pc = .ok (.astore_n k, 1)) (hn : (k : Nat) < mi.2.2.1) (hz : noL L (k : Nat) = true) (kk : AW E mi G kc ns (pc + 1) (L.set (k : Nat) (vR c)) st M) : AW E mi G kc ns pc L (vR c :: st) M := by
  intro C hs hL hst hM H locs ls hP hS hl
  exact lv_astore_n C.1 C.2.1 hd rfl hl hn rfl (fun ls' hl' => kk C hs (okset hL (okhd hst)) (oktl hst) hM H locs ls' hP hS (lv_put (v := vR c) hz hl'))
theorem A_astore {i : Nat} {c : Nat} (hd : decode mi.2.1 pc = .ok (.astore i, 2)) (hn : i < mi.2.2.1) (hz : noL L i = true) (kk : AW E mi G kc ns (pc + 2) (L.set i (vR c)) st M) : AW E mi G kc ns pc L (vR c :: st) M := by
  intro C hs hL hst hM H locs ls hP hS hl
  exact lv_astore C.1 C.2.1 hd hl hn rfl (fun ls' hl' => kk C hs (okset hL (okhd hst)) (oktl hst) hM H locs ls' hP hS (lv_put (v := vR c) hz hl'))
theorem A_iinc {i : Nat} {n z : Int} (hd : decode mi.2.1 pc = .ok (.iinc i n, 3)) (hn : i < mi.2.2.1) (hz : noL L i = true) (h : L[i]? = some (vI z)) (hr : rng (z + n)) (kk : AW E mi G kc ns (pc + 3) (L.set i (vI (z + n))) st M) : AW E mi G kc ns pc L st M := by
  intro C hs hL hst hM H locs ls hP hS hl
  obtain ⟨k, hk⟩ := List.getElem?_of_mem ((mem_lvOf (E := E) (q := (i, cval E (vI z))) L 0).mpr ⟨i, vI z, h, rfl, by simp⟩)
  exact lv_iinc (v := i32 (z + n)) C.1 C.2.1 hd hl hk (i32_add z n) hn rfl (fun ls' hl' => kk C hs (okset hL hr) hst hM H locs ls' hP hS (lv_put (v := vI (z + n)) hz hl'))
theorem A_iadd {x y : Int} (hd : decode mi.2.1 pc = .ok (.iadd, 1)) (hr : rng (x + y)) (kk : AW E mi G kc ns (pc + 1) L (vI (x + y) :: st) M) : AW E mi G kc ns pc L (vI y :: vI x :: st) M := by
  intro C hs hL hst hM H locs ls hP hS hl
  have hy : rng y := okhd hst
  have hx : rng x := okhd (oktl hst)
  have w := kk C hs hL (okc1 hr (oktl (oktl hst))) hM H locs ls hP hS hl
  refine lv_iadd (x := i32 x) (y := i32 y) C.1 C.2.1 hd  ?_
  rw [i32_add]
  exact w
theorem A_isub {x y : Int} (hd : decode mi.2.1 pc = .ok (.isub, 1)) (hr : rng (x - y)) (kk : AW E mi G kc ns (pc + 1) L (vI (x - y) :: st) M) : AW E mi G kc ns pc L (vI y :: vI x :: st) M := by
  intro C hs hL hst hM H locs ls hP hS hl
  have hy : rng y := okhd hst
  have hx : rng x := okhd (oktl hst)
  have w := kk C hs hL (okc1 hr (oktl (oktl hst))) hM H locs ls hP hS hl
  refine lv_isub (x := i32 x) (y := i32 y) C.1 C.2.1 hd  ?_
  rw [i32_sub]
  exact w
theorem A_imul {x y : Int} (hd : decode mi.2.1 pc = .ok (.imul, 1)) (hr : rng (x * y)) (kk : AW E mi G kc ns (pc + 1) L (vI (x * y) :: st) M) : AW E mi G kc ns pc L (vI y :: vI x :: st) M := by
  intro C hs hL hst hM H locs ls hP hS hl
  have hy : rng y := okhd hst
  have hx : rng x := okhd (oktl hst)
  have w := kk C hs hL (okc1 hr (oktl (oktl hst))) hM H locs ls hP hS hl
  refine lv_imul (x := i32 x) (y := i32 y) C.1 C.2.1 hd  ?_
  rw [i32_mul]
  exact w
theorem A_idiv {x y : Int} (hd : decode mi.2.1 pc = .ok (.idiv, 1)) (h0 : y ≠ 0) (hr : rng (x.tdiv y)) (kk : AW E mi G kc ns (pc + 1) L (vI (x.tdiv y) :: st) M) : AW E mi G kc ns pc L (vI y :: vI x :: st) M := by
  intro C hs hL hst hM H locs ls hP hS hl
  have hy : rng y := okhd hst
  have hx : rng x := okhd (oktl hst)
  have w := kk C hs hL (okc1 hr (oktl (oktl hst))) hM H locs ls hP hS hl
  refine lv_idiv (x := i32 x) (y := i32 y) C.1 C.2.1 hd (fun q => h0 ((i32_eq hy (show rng 0 from ⟨by omega, by omega⟩)).mp q)) ?_
  rw [i32_div hx hy hr]
  exact w
theorem A_irem {x y : Int} (hd : decode mi.2.1 pc = .ok (.irem, 1)) (h0 : y ≠ 0) (hq : rng (x.tdiv y)) (hr : rng (x.tmod y)) (kk : AW E mi G kc ns (pc + 1) L (vI (x.tmod y) :: st) M) : AW E mi G kc ns pc L (vI y :: vI x :: st) M := by
  intro C hs hL hst hM H locs ls hP hS hl
  have hy : rng y := okhd hst
  have hx : rng x := okhd (oktl hst)
  have w := kk C hs hL (okc1 hr (oktl (oktl hst))) hM H locs ls hP hS hl
  refine lv_irem (x := i32 x) (y := i32 y) C.1 C.2.1 hd (fun q => h0 ((i32_eq hy (show rng 0 from ⟨by omega, by omega⟩)).mp q)) ?_
  rw [i32_rem hx hy hq]
  exact w
theorem A_iand {x y z : Int} (hd : decode mi.2.1 pc = .ok (.iand, 1)) (he : i32 x &&& i32 y = i32 z) (hr : rng z) (kk : AW E mi G kc ns (pc + 1) L (vI z :: st) M) : AW E mi G kc ns pc L (vI y :: vI x :: st) M := by
  intro C hs hL hst hM H locs ls hP hS hl
  have w := kk C hs hL (okc1 hr (oktl (oktl hst))) hM H locs ls hP hS hl
  refine lv_iand (x := i32 x) (y := i32 y) C.1 C.2.1 hd ?_
  rw [he]
  exact w
theorem A_ior {x y z : Int} (hd : decode mi.2.1 pc = .ok (.ior, 1)) (he : i32 x ||| i32 y = i32 z) (hr : rng z) (kk : AW E mi G kc ns (pc + 1) L (vI z :: st) M) : AW E mi G kc ns pc L (vI y :: vI x :: st) M := by
  intro C hs hL hst hM H locs ls hP hS hl
  have w := kk C hs hL (okc1 hr (oktl (oktl hst))) hM H locs ls hP hS hl
  refine lv_ior (x := i32 x) (y := i32 y) C.1 C.2.1 hd ?_
  rw [he]
  exact w
theorem A_ixor {x y z : Int} (hd : decode mi.2.1 pc = .ok (.ixor, 1)) (he : i32 x ^^^ i32 y = i32 z) (hr : rng z) (kk : AW E mi G kc ns (pc + 1) L (vI z :: st) M) : AW E mi G kc ns pc L (vI y :: vI x :: st) M := by
  intro C hs hL hst hM H locs ls hP hS hl
  have w := kk C hs hL (okc1 hr (oktl (oktl hst))) hM H locs ls hP hS hl
  refine lv_ixor (x := i32 x) (y := i32 y) C.1 C.2.1 hd ?_
  rw [he]
  exact w
theorem A_ishl {x y z : Int} (hd : decode mi.2.1 pc = .ok (.ishl, 1)) (he : i32 x <<< (i32 y &&& 31) = i32 z) (hr : rng z) (kk : AW E mi G kc ns (pc + 1) L (vI z :: st) M) : AW E mi G kc ns pc L (vI y :: vI x :: st) M := by
  intro C hs hL hst hM H locs ls hP hS hl
  have w := kk C hs hL (okc1 hr (oktl (oktl hst))) hM H locs ls hP hS hl
  refine lv_ishl (x := i32 x) (y := i32 y) C.1 C.2.1 hd ?_
  rw [he]
  exact w
theorem A_ishr {x y z : Int} (hd : decode mi.2.1 pc = .ok (.ishr, 1)) (he : i32 x >>> (i32 y &&& 31) = i32 z) (hr : rng z) (kk : AW E mi G kc ns (pc + 1) L (vI z :: st) M) : AW E mi G kc ns pc L (vI y :: vI x :: st) M := by
  intro C hs hL hst hM H locs ls hP hS hl
  have w := kk C hs hL (okc1 hr (oktl (oktl hst))) hM H locs ls hP hS hl
  refine lv_ishr (x := i32 x) (y := i32 y) C.1 C.2.1 hd ?_
  rw [he]
  exact w
theorem A_land {x y z : Int} (hd : decode mi.2.1 pc = .ok (.land, 1)) (he : i64 x &&& i64 y = i64 z) (hr : rngL z) (kk : AW E mi G kc ns (pc + 1) L (vL z :: st) M) : AW E mi G kc ns pc L (vL y :: vL x :: st) M := by
  intro C hs hL hst hM H locs ls hP hS hl
  have w := kk C hs hL (okc1 hr (oktl (oktl hst))) hM H locs ls hP hS hl
  refine lv_land (x := i64 x) (y := i64 y) C.1 C.2.1 hd ?_
  rw [he]
  exact w
theorem A_lor {x y z : Int} (hd : decode mi.2.1 pc = .ok (.lor, 1)) (he : i64 x ||| i64 y = i64 z) (hr : rngL z) (kk : AW E mi G kc ns (pc + 1) L (vL z :: st) M) : AW E mi G kc ns pc L (vL y :: vL x :: st) M := by
  intro C hs hL hst hM H locs ls hP hS hl
  have w := kk C hs hL (okc1 hr (oktl (oktl hst))) hM H locs ls hP hS hl
  refine lv_lor (x := i64 x) (y := i64 y) C.1 C.2.1 hd ?_
  rw [he]
  exact w
theorem A_lshl {x y z : Int} (hd : decode mi.2.1 pc = .ok (.lshl, 1)) (he : i64 x <<< ((i32 y).toInt64 &&& 63) = i64 z) (hr : rngL z) (kk : AW E mi G kc ns (pc + 1) L (vL z :: st) M) : AW E mi G kc ns pc L (vI y :: vL x :: st) M := by
  intro C hs hL hst hM H locs ls hP hS hl
  exact lv_lshl (x := i64 x) (y := i32 y) C.1 C.2.1 hd he (kk C hs hL (okc1 hr (oktl (oktl hst))) hM H locs ls hP hS hl)
theorem A_lshr {x y z : Int} (hd : decode mi.2.1 pc = .ok (.lshr, 1)) (he : i64 x >>> ((i32 y).toInt64 &&& 63) = i64 z) (hr : rngL z) (kk : AW E mi G kc ns (pc + 1) L (vL z :: st) M) : AW E mi G kc ns pc L (vI y :: vL x :: st) M := by
  intro C hs hL hst hM H locs ls hP hS hl
  exact lv_lshr (x := i64 x) (y := i32 y) C.1 C.2.1 hd he (kk C hs hL (okc1 hr (oktl (oktl hst))) hM H locs ls hP hS hl)
theorem A_i2l {x : Int} (hd : decode mi.2.1 pc = .ok (.i2l, 1)) (kk : AW E mi G kc ns (pc + 1) L (vL x :: st) M) : AW E mi G kc ns pc L (vI x :: st) M := by
  intro C hs hL hst hM H locs ls hP hS hl
  have hx : rng x := okhd hst
  have hx' : rngL x := ⟨by have := hx.1; omega, by have := hx.2; omega⟩
  refine lv_i2l (x := i32 x) (v := i64 x) C.1 C.2.1 hd ?_ (kk C hs hL (okc1 hx' (oktl hst)) hM H locs ls hP hS hl)
  apply Int64.toInt_inj.mp
  rw [Int32.toInt_toInt64, i32_toInt hx, i64_toInt hx']
theorem A_l2i {x z : Int} (hd : decode mi.2.1 pc = .ok (.l2i, 1)) (he : (i64 x).toInt32 = i32 z) (hr : rng z) (kk : AW E mi G kc ns (pc + 1) L (vI z :: st) M) : AW E mi G kc ns pc L (vL x :: st) M := by
  intro C hs hL hst hM H locs ls hP hS hl
  exact lv_l2i (x := i64 x) C.1 C.2.1 hd he (kk C hs hL (okc1 hr (oktl hst)) hM H locs ls hP hS hl)
def lcm (x y : Int) : Int := if x < y then -1 else if x = y then 0 else 1
theorem A_lcmp {x y : Int} (hd : decode mi.2.1 pc = .ok (.lcmp, 1)) (kk : AW E mi G kc ns (pc + 1) L (vI (lcm x y) :: st) M) : AW E mi G kc ns pc L (vL y :: vL x :: st) M := by
  intro C hs hL hst hM H locs ls hP hS hl
  have hy : rngL y := okhd hst
  have hx : rngL x := okhd (oktl hst)
  have hr : rng (lcm x y) := by
    unfold lcm
    split
    · exact ⟨by omega, by omega⟩
    · split <;> exact ⟨by omega, by omega⟩
  have w := kk C hs hL (okc1 hr (oktl (oktl hst))) hM H locs ls hP hS hl
  refine W.lcmp (x := i64 x) (y := i64 y) C.1 C.2.1 hd ?_
  have e : lg_cmp (i64 x) (i64 y) = i32 (lcm x y) := by
    have l3 : i64 y < i64 x ↔ y < x := by rw [Int64.lt_iff_toInt_lt, i64_toInt hx, i64_toInt hy]
    have l2 : i64 x = i64 y ↔ x = y := ⟨fun h => by have := congrArg Int64.toInt h; rwa [i64_toInt hx, i64_toInt hy] at this, fun h => by rw [h]⟩
    unfold lg_cmp lcm
    simp only [l2, l3]
    by_cases h1 : x < y
    · rw [if_neg (by omega), if_neg (by omega), if_pos h1]; rfl
    · by_cases h2 : x = y
      · rw [if_neg (by omega), if_pos h2, if_neg h1, if_pos h2]; rfl
      · rw [if_pos (by omega), if_neg h1, if_neg h2]; rfl
  rw [e]
  exact w
theorem A_dup {v : AV} (hd : decode mi.2.1 pc = .ok (.dup, 1)) (hv : (cval E v).category = 1) (kk : AW E mi G kc ns (pc + 1) L (v :: v :: st) M) : AW E mi G kc ns pc L (v :: st) M := by
  intro C hs hL hst hM H locs ls hP hS hl
  exact lv_dup C.1 C.2.1 hd hv (kk C hs hL (okc1 (okhd hst) hst) hM H locs ls hP hS hl)
theorem A_pop {v : AV} (hd : decode mi.2.1 pc = .ok (.pop, 1)) (hv : (cval E v).category = 1) (kk : AW E mi G kc ns (pc + 1) L st M) : AW E mi G kc ns pc L (v :: st) M := by
  intro C hs hL hst hM H locs ls hP hS hl
  exact lv_pop C.1 C.2.1 hd hv (kk C hs hL (oktl hst) hM H locs ls hP hS hl)
theorem A_dup_x1 {v w : AV} (hd : decode mi.2.1 pc = .ok (.dup_x1, 1)) (hv : (cval E v).category = 1) (hw : (cval E w).category = 1) (kk : AW E mi G kc ns (pc + 1) L (v :: w :: v :: st) M) : AW E mi G kc ns pc L (v :: w :: st) M := by
  intro C hs hL hst hM H locs ls hP hS hl
  exact lv_dup_x1 C.1 C.2.1 hd hv hw (kk C hs hL (okc1 (okhd hst) (okc1 (okhd (oktl hst)) (okc1 (okhd hst) (oktl (oktl hst))))) hM H locs ls hP hS hl)
theorem A_dup2 {v w : AV} (hd : decode mi.2.1 pc = .ok (.dup2, 1)) (hv : (cval E v).category = 1) (hw : (cval E w).category = 1) (kk : AW E mi G kc ns (pc + 1) L (v :: w :: v :: w :: st) M) : AW E mi G kc ns pc L (v :: w :: st) M := by
  intro C hs hL hst hM H locs ls hP hS hl
  exact lv_dup2_11 C.1 C.2.1 hd hv hw (kk C hs hL (okc1 (okhd hst) (okc1 (okhd (oktl hst)) hst)) hM H locs ls hP hS hl)
theorem A_goto {off : Int} {tgt : Nat} (hd : decode mi.2.1 pc = .ok (.goto off, 3)) (ht : (pc : Int) + off = (tgt : Int)) (kk : AW E mi G kc ns tgt L st M) : AW E mi G kc ns pc L st M := by
  intro C hs hL hst hM H locs ls hP hS hl
  exact lv_goto C.1 C.2.1 hd ht (kk C hs hL hst hM H locs ls hP hS hl)
theorem A_if_eq {x : Int} {off : Int} {tgt : Nat} (hd : decode mi.2.1 pc = .ok (.ifCond .eq off, 3)) (ht : (pc : Int) + off = (tgt : Int)) (kt : x = 0 → AW E mi G kc ns tgt L st M) (kf : ¬ x = 0 → AW E mi G kc ns (pc + 3) L st M) : AW E mi G kc ns pc L (vI x :: st) M := by
  intro C hs hL hst hM H locs ls hP hS hl
  have hy : rng 0 := ⟨by omega, by omega⟩
  have hx : rng x := okhd hst
  exact lv_if_eq (x := i32 x) C.1 C.2.1 hd ht (fun q => kt ((i32_eq hx hy).mp q) C hs hL (oktl hst) hM H locs ls hP hS hl) (fun q => kf (fun z => q ((i32_eq hx hy).mpr z)) C hs hL (oktl hst) hM H locs ls hP hS hl)
theorem A_icmp_eq {x y : Int} {off : Int} {tgt : Nat} (hd : decode mi.2.1 pc = .ok (.if_icmp .eq off, 3)) (ht : (pc : Int) + off = (tgt : Int)) (kt : x = y → AW E mi G kc ns tgt L st M) (kf : ¬ x = y → AW E mi G kc ns (pc + 3) L st M) : AW E mi G kc ns pc L (vI y :: vI x :: st) M := by
  intro C hs hL hst hM H locs ls hP hS hl
  have hy : rng y := okhd hst
  have hx : rng x := okhd (oktl hst)
  exact lv_icmp_eq (x := i32 x) (y := i32 y) C.1 C.2.1 hd ht (fun q => kt ((i32_eq hx hy).mp q) C hs hL (oktl (oktl hst)) hM H locs ls hP hS hl) (fun q => kf (fun z => q ((i32_eq hx hy).mpr z)) C hs hL (oktl (oktl hst)) hM H locs ls hP hS hl)
theorem A_if_ne {x : Int} {off : Int} {tgt : Nat} (hd : decode mi.2.1 pc = .ok (.ifCond .ne off, 3)) (ht : (pc : Int) + off = (tgt : Int)) (kt : ¬ x = 0 → AW E mi G kc ns tgt L st M) (kf : x = 0 → AW E mi G kc ns (pc + 3) L st M) : AW E mi G kc ns pc L (vI x :: st) M := by
  intro C hs hL hst hM H locs ls hP hS hl
  have hy : rng 0 := ⟨by omega, by omega⟩
  have hx : rng x := okhd hst
  exact lv_if_ne (x := i32 x) C.1 C.2.1 hd ht (fun q => kt (fun z => q ((i32_eq hx hy).mpr z)) C hs hL (oktl hst) hM H locs ls hP hS hl) (fun q => kf ((i32_eq hx hy).mp q) C hs hL (oktl hst) hM H locs ls hP hS hl)
theorem A_icmp_ne {x y : Int} {off : Int} {tgt : Nat} (hd : decode mi.2.1 pc = .ok (.if_icmp .ne off, 3)) (ht : (pc : Int) + off = (tgt : Int)) (kt : ¬ x = y → AW E mi G kc ns tgt L st M) (kf : x = y → AW E mi G kc ns (pc + 3) L st M) : AW E mi G kc ns pc L (vI y :: vI x :: st) M := by
  intro C hs hL hst hM H locs ls hP hS hl
  have hy : rng y := okhd hst
  have hx : rng x := okhd (oktl hst)
  exact lv_icmp_ne (x := i32 x) (y := i32 y) C.1 C.2.1 hd ht (fun q => kt (fun z => q ((i32_eq hx hy).mpr z)) C hs hL (oktl (oktl hst)) hM H locs ls hP hS hl) (fun q => kf ((i32_eq hx hy).mp q) C hs hL (oktl (oktl hst)) hM H locs ls hP hS hl)
theorem A_if_lt {x : Int} {off : Int} {tgt : Nat} (hd : decode mi.2.1 pc = .ok (.ifCond .lt off, 3)) (ht : (pc : Int) + off = (tgt : Int)) (kt : x < 0 → AW E mi G kc ns tgt L st M) (kf : ¬ x < 0 → AW E mi G kc ns (pc + 3) L st M) : AW E mi G kc ns pc L (vI x :: st) M := by
  intro C hs hL hst hM H locs ls hP hS hl
  have hy : rng 0 := ⟨by omega, by omega⟩
  have hx : rng x := okhd hst
  exact lv_if_lt (x := i32 x) C.1 C.2.1 hd ht (fun q => kt ((i32_lt hx hy).mp q) C hs hL (oktl hst) hM H locs ls hP hS hl) (fun q => kf (fun z => q ((i32_lt hx hy).mpr z)) C hs hL (oktl hst) hM H locs ls hP hS hl)
theorem A_icmp_lt {x y : Int} {off : Int} {tgt : Nat} (hd : decode mi.2.1 pc = .ok (.if_icmp .lt off, 3)) (ht : (pc : Int) + off = (tgt : Int)) (kt : x < y → AW E mi G kc ns tgt L st M) (kf : ¬ x < y → AW E mi G kc ns (pc + 3) L st M) : AW E mi G kc ns pc L (vI y :: vI x :: st) M := by
  intro C hs hL hst hM H locs ls hP hS hl
  have hy : rng y := okhd hst
  have hx : rng x := okhd (oktl hst)
  exact lv_icmp_lt (x := i32 x) (y := i32 y) C.1 C.2.1 hd ht (fun q => kt ((i32_lt hx hy).mp q) C hs hL (oktl (oktl hst)) hM H locs ls hP hS hl) (fun q => kf (fun z => q ((i32_lt hx hy).mpr z)) C hs hL (oktl (oktl hst)) hM H locs ls hP hS hl)
theorem A_if_ge {x : Int} {off : Int} {tgt : Nat} (hd : decode mi.2.1 pc = .ok (.ifCond .ge off, 3)) (ht : (pc : Int) + off = (tgt : Int)) (kt : 0 ≤ x → AW E mi G kc ns tgt L st M) (kf : ¬ 0 ≤ x → AW E mi G kc ns (pc + 3) L st M) : AW E mi G kc ns pc L (vI x :: st) M := by
  intro C hs hL hst hM H locs ls hP hS hl
  have hy : rng 0 := ⟨by omega, by omega⟩
  have hx : rng x := okhd hst
  exact lv_if_ge (x := i32 x) C.1 C.2.1 hd ht (fun q => kt ((i32_le hy hx).mp q) C hs hL (oktl hst) hM H locs ls hP hS hl) (fun q => kf (fun z => q ((i32_le hy hx).mpr z)) C hs hL (oktl hst) hM H locs ls hP hS hl)
theorem A_icmp_ge {x y : Int} {off : Int} {tgt : Nat} (hd : decode mi.2.1 pc = .ok (.if_icmp .ge off, 3)) (ht : (pc : Int) + off = (tgt : Int)) (kt : y ≤ x → AW E mi G kc ns tgt L st M) (kf : ¬ y ≤ x → AW E mi G kc ns (pc + 3) L st M) : AW E mi G kc ns pc L (vI y :: vI x :: st) M := by
  intro C hs hL hst hM H locs ls hP hS hl
  have hy : rng y := okhd hst
  have hx : rng x := okhd (oktl hst)
  exact lv_icmp_ge (x := i32 x) (y := i32 y) C.1 C.2.1 hd ht (fun q => kt ((i32_le hy hx).mp q) C hs hL (oktl (oktl hst)) hM H locs ls hP hS hl) (fun q => kf (fun z => q ((i32_le hy hx).mpr z)) C hs hL (oktl (oktl hst)) hM H locs ls hP hS hl)
theorem A_if_gt {x : Int} {off : Int} {tgt : Nat} (hd : decode mi.2.1 pc = .ok (.ifCond .gt off, 3)) (ht : (pc : Int) + off = (tgt : Int)) (kt : 0 < x → AW E mi G kc ns tgt L st M) (kf : ¬ 0 < x → AW E mi G kc ns (pc + 3) L st M) : AW E mi G kc ns pc L (vI x :: st) M := by
  intro C hs hL hst hM H locs ls hP hS hl
  have hy : rng 0 := ⟨by omega, by omega⟩
  have hx : rng x := okhd hst
  exact lv_if_gt (x := i32 x) C.1 C.2.1 hd ht (fun q => kt ((i32_lt hy hx).mp q) C hs hL (oktl hst) hM H locs ls hP hS hl) (fun q => kf (fun z => q ((i32_lt hy hx).mpr z)) C hs hL (oktl hst) hM H locs ls hP hS hl)
theorem A_icmp_gt {x y : Int} {off : Int} {tgt : Nat} (hd : decode mi.2.1 pc = .ok (.if_icmp .gt off, 3)) (ht : (pc : Int) + off = (tgt : Int)) (kt : y < x → AW E mi G kc ns tgt L st M) (kf : ¬ y < x → AW E mi G kc ns (pc + 3) L st M) : AW E mi G kc ns pc L (vI y :: vI x :: st) M := by
  intro C hs hL hst hM H locs ls hP hS hl
  have hy : rng y := okhd hst
  have hx : rng x := okhd (oktl hst)
  exact lv_icmp_gt (x := i32 x) (y := i32 y) C.1 C.2.1 hd ht (fun q => kt ((i32_lt hy hx).mp q) C hs hL (oktl (oktl hst)) hM H locs ls hP hS hl) (fun q => kf (fun z => q ((i32_lt hy hx).mpr z)) C hs hL (oktl (oktl hst)) hM H locs ls hP hS hl)
theorem A_if_le {x : Int} {off : Int} {tgt : Nat} (hd : decode mi.2.1 pc = .ok (.ifCond .le off, 3)) (ht : (pc : Int) + off = (tgt : Int)) (kt : x ≤ 0 → AW E mi G kc ns tgt L st M) (kf : ¬ x ≤ 0 → AW E mi G kc ns (pc + 3) L st M) : AW E mi G kc ns pc L (vI x :: st) M := by
  intro C hs hL hst hM H locs ls hP hS hl
  have hy : rng 0 := ⟨by omega, by omega⟩
  have hx : rng x := okhd hst
  exact lv_if_le (x := i32 x) C.1 C.2.1 hd ht (fun q => kt ((i32_le hx hy).mp q) C hs hL (oktl hst) hM H locs ls hP hS hl) (fun q => kf (fun z => q ((i32_le hx hy).mpr z)) C hs hL (oktl hst) hM H locs ls hP hS hl)
theorem A_icmp_le {x y : Int} {off : Int} {tgt : Nat} (hd : decode mi.2.1 pc = .ok (.if_icmp .le off, 3)) (ht : (pc : Int) + off = (tgt : Int)) (kt : x ≤ y → AW E mi G kc ns tgt L st M) (kf : ¬ x ≤ y → AW E mi G kc ns (pc + 3) L st M) : AW E mi G kc ns pc L (vI y :: vI x :: st) M := by
  intro C hs hL hst hM H locs ls hP hS hl
  have hy : rng y := okhd hst
  have hx : rng x := okhd (oktl hst)
  exact lv_icmp_le (x := i32 x) (y := i32 y) C.1 C.2.1 hd ht (fun q => kt ((i32_le hx hy).mp q) C hs hL (oktl (oktl hst)) hM H locs ls hP hS hl) (fun q => kf (fun z => q ((i32_le hx hy).mpr z)) C hs hL (oktl (oktl hst)) hM H locs ls hP hS hl)
theorem A_tsOut {dflt lo hi x : Int} {offs : Array Int} {len tgt : Nat} (hd : decode mi.2.1 pc = .ok (.tableswitch dflt lo hi offs, len)) (h : x < lo ∨ hi < x) (ht : (pc : Int) + dflt = (tgt : Int)) (kk : AW E mi G kc ns tgt L st M) : AW E mi G kc ns pc L (vI x :: st) M := by
  intro C hs hL hst hM H locs ls hP hS hl
  have hx : rng x := okhd hst
  exact lv_tableOut (x := i32 x) C.1 C.2.1 hd (by rw [i32_toInt hx]; exact h) ht (kk C hs hL (oktl hst) hM H locs ls hP hS hl)
theorem A_tsIn {dflt lo hi x off : Int} {offs : Array Int} {len tgt : Nat} (hd : decode mi.2.1 pc = .ok (.tableswitch dflt lo hi offs, len)) (k : Nat) (hk : x = lo + k) (h2 : x ≤ hi) (ho : offs[k]? = some off) (ht : (pc : Int) + off = (tgt : Int)) (kk : AW E mi G kc ns tgt L st M) : AW E mi G kc ns pc L (vI x :: st) M := by
  intro C hs hL hst hM H locs ls hP hS hl
  have hx : rng x := okhd hst
  refine lv_tableIn (x := i32 x) (off := off) C.1 C.2.1 hd (by rw [i32_toInt hx]; omega) (by rw [i32_toInt hx]; omega) ?_ ht (kk C hs hL (oktl hst) hM H locs ls hP hS hl)
  rw [i32_toInt hx, show (x - lo).toNat = k by omega]
  exact ho
theorem A_ls {dflt x off : Int} {ps : Array (Int × Int)} {len tgt : Nat} (hd : decode mi.2.1 pc = .ok (.lookupswitch dflt ps, len)) (hp : (ps.toList.zip (ps.toList.drop 1)).all (fun (a, next) => a.1 < next.1) = true) (ho : Op.lookupswitch.offset ps.toList dflt x = off) (ht : (pc : Int) + off = (tgt : Int)) (kk : AW E mi G kc ns tgt L st M) : AW E mi G kc ns pc L (vI x :: st) M := by
  intro C hs hL hst hM H locs ls hP hS hl
  have hx : rng x := okhd hst
  exact lv_lookup (x := i32 x) C.1 C.2.1 hd hp (by rw [i32_toInt hx]; exact ho) ht (kk C hs hL (oktl hst) hM H locs ls hP hS hl)
end ROWS
