/-! A LAYER OVER THE KIT: the world is a fixed shape (cells by number) and one memory of numbers; a frame is a list of values; AW is the kit's W over these. -/
def i32 (z : Int) : Int32 := Int32.ofInt z
def i64 (z : Int) : Int64 := Int64.ofInt z
abbrev rng (z : Int) : Prop := -2147483648 ≤ z ∧ z ≤ 2147483647
abbrev rngL (z : Int) : Prop := -9223372036854775808 ≤ z ∧ z ≤ 9223372036854775807
theorem i32_toInt {z : Int} (h : rng z) : (i32 z).toInt = z := by
  exact Int32.toInt_ofInt_of_le (by have := h.1; omega) (by have := h.2; omega)
theorem i64_toInt {z : Int} (h : rngL z) : (i64 z).toInt = z := by
  exact Int64.toInt_ofInt_of_le (by have := h.1; omega) (by have := h.2; omega)
theorem i32_of (x : Int32) : i32 x.toInt = x := by unfold i32; exact Int32.ofInt_toInt x
theorem i64_of (x : Int64) : i64 x.toInt = x := by unfold i64; exact Int64.ofInt_toInt x
theorem rng_toInt (x : Int32) : rng x.toInt := ⟨by have := Int32.le_toInt x; omega, by have := Int32.toInt_lt x; omega⟩
theorem i32_lt {a b : Int} (ha : rng a) (hb : rng b) : i32 a < i32 b ↔ a < b := by rw [Int32.lt_iff_toInt_lt, i32_toInt ha, i32_toInt hb]
theorem i32_le {a b : Int} (ha : rng a) (hb : rng b) : i32 a ≤ i32 b ↔ a ≤ b := by rw [Int32.le_iff_toInt_le, i32_toInt ha, i32_toInt hb]
theorem i32_eq {a b : Int} (ha : rng a) (hb : rng b) : i32 a = i32 b ↔ a = b := by
  constructor
  · intro h
    have := congrArg Int32.toInt h
    rwa [i32_toInt ha, i32_toInt hb] at this
  · intro h; rw [h]
theorem i32_add (a b : Int) : i32 a + i32 b = i32 (a + b) := by
  apply Int32.toInt_inj.mp
  simp [i32, Int32.toInt_add, Int32.toInt_ofInt]
theorem i32_sub (a b : Int) : i32 a - i32 b = i32 (a - b) := by
  apply Int32.toInt_inj.mp
  simp [i32, Int32.toInt_sub, Int32.toInt_ofInt]
theorem i32_mul (a b : Int) : i32 a * i32 b = i32 (a * b) := by
  apply Int32.toInt_inj.mp
  simp [i32, Int32.toInt_mul, Int32.toInt_ofInt]
theorem i32_div {a b : Int} (ha : rng a) (hb : rng b) (hr : rng (a.tdiv b)) : i32 a / i32 b = i32 (a.tdiv b) := by
  apply Int32.toInt_inj.mp
  rw [Int32.toInt_div, i32_toInt ha, i32_toInt hb, i32_toInt hr]
  exact Int.bmod_eq_of_le (by have := hr.1; omega) (by have := hr.2; omega)
theorem i32_rem {a b : Int} (ha : rng a) (hb : rng b) (hr : rng (a.tdiv b)) : i32 a - i32 a / i32 b * i32 b = i32 (a.tmod b) := by
  rw [i32_div ha hb hr, i32_mul, i32_sub]
  congr 1
  have := Int.tmod_add_mul_tdiv a b
  rw [Int.mul_comm (a.tdiv b) b]
  omega
theorem i32_clamp {z : Int} (h0 : 0 ≤ z) (h : rng z) : (i32 z).toNatClampNeg = z.toNat := by
  show (i32 z).toInt.toNat = z.toNat
  rw [i32_toInt h]
theorem i32_nn {z : Int} (h0 : 0 ≤ z) (h : rng z) : ¬ i32 z < 0 := by
  rw [show (0 : Int32) = i32 0 from rfl, i32_lt h ⟨by omega, by omega⟩]; omega
theorem i32_in {z : Int} {n : Nat} (h0 : 0 ≤ z) (h1 : z < n) (h : rng z) : vp_in (i32 z) n := by
  rintro (q | q)
  · exact i32_nn h0 h q
  · rw [i32_clamp h0 h] at q; omega
/-! values: int, cell, long, outer object (a constant text, the script), unset -/
abbrev AV : Type := Int ⊕ (Nat ⊕ (Int ⊕ (Nat ⊕ Unit)))
abbrev vI (z : Int) : AV := .inl z
abbrev vR (c : Nat) : AV := .inr (.inl c)
abbrev vL (z : Int) : AV := .inr (.inr (.inl z))
abbrev vS (k : Nat) : AV := .inr (.inr (.inr (.inl k)))
abbrev vU : AV := .inr (.inr (.inr (.inr ())))
def okv (v : AV) : Prop := match v with
  | .inl z => rng z
  | .inr (.inr (.inl z)) => rngL z
  | _ => True
abbrev Mem : Type := Nat → Int → Int
def okM (M : Mem) : Prop := ∀ c k, rng (M c k)
def upm (M : Mem) (c : Nat) (k v : Int) : Mem := fun c' k' => if c' = c ∧ k' = k then v else M c' k'
theorem upm_s (M : Mem) (c : Nat) (k v : Int) : upm M c k v c k = v := by simp [upm]
theorem upm_c {M : Mem} {c c' : Nat} {k v : Int} (h : c' ≠ c) : upm M c k v c' = M c' := by funext k'; simp [upm, h]
theorem upm_k {M : Mem} {c : Nat} {k k' v : Int} (h : k' ≠ k) : upm M c k v c k' = M c k' := by simp [upm, h]
theorem okM_upm {M : Mem} {c : Nat} {k v : Int} (h : okM M) (hv : rng v) : okM (upm M c k v) := by
  intro c' k'
  unfold upm
  split
  · exact hv
  · exact h c' k'
/-! the shape: an object (its class's place, its fields: a number, or null or a cell), or an array (0 int, 1 boolean, 2 cells; its length; its cells) -/
abbrev Shp : Type := (Nat × List (Option (Option Nat))) ⊕ (Nat × Nat × (Nat → Option Nat))
/-- classes and slots; addresses of the cells; of the outer objects; the array classes; how many cells; the shape -/
abbrev EN : Type := va_G × (Nat → Nat) × (Nat → Nat) × (ClassId × ClassId × ClassId) × Nat × (Nat → Shp)
abbrev eD (E : EN) : va_G := E.1
abbrev eAd (E : EN) : Nat → Nat := E.2.1
abbrev eSa (E : EN) : Nat → Nat := E.2.2.1
abbrev eCs (E : EN) : ClassId × ClassId × ClassId := E.2.2.2.1
abbrev eN (E : EN) : Nat := E.2.2.2.2.1
abbrev eSh (E : EN) : Nat → Shp := E.2.2.2.2.2
def eTy (E : EN) : List (ClassId × FieldType) := [((eCs E).1, .int), ((eCs E).2.1, .boolean), ((eCs E).2.2, .object RX0)]
def cval (E : EN) (v : AV) : Value := match v with
  | .inl z => .int (i32 z)
  | .inr (.inl c) => .ref (eAd E c)
  | .inr (.inr (.inl z)) => .long (i64 z)
  | .inr (.inr (.inr (.inl k))) => .ref (eSa E k)
  | .inr (.inr (.inr (.inr _))) => .null
def fval (E : EN) (M : Mem) (c k : Nat) (o : Option (Option Nat)) : Value := match o with
  | none => .int (i32 (M c k))
  | some none => .null
  | some (some j) => .ref (eAd E j)
def ccell (E : EN) (M : Mem) (c : Nat) : va_E := match eSh E c with
  | .inl (ci, fs) => .inr (ci, fs.mapIdx (fun k o => fval E M c k o))
  | .inr (0, n, _) => .inl ((eCs E).1, n, .inl (fun k => i32 (M c k)))
  | .inr (1, n, _) => .inl ((eCs E).2.1, n, .inl (fun k => i32 (M c k)))
  | .inr (_, n, g) => .inl ((eCs E).2.2, n, .inr (.inr (.inr (.inr (fun k => (g k).map (eAd E))))))
def WS (E : EN) (M : Mem) : va_W := (List.range (eN E)).map (fun c => (eAd E c, ccell E M c))
theorem WS_at {E : EN} {M : Mem} {c : Nat} (h : c < eN E) : (WS E M)[c]? = some (eAd E c, ccell E M c) := by
  simp [WS, h]
theorem WS_of {E : EN} {M : Mem} {k : Nat} {q : Nat × va_E} (h : (WS E M)[k]? = some q) : k < eN E ∧ q = (eAd E k, ccell E M k) := by
  unfold WS at h
  rw [List.getElem?_map] at h
  by_cases hk : k < eN E
  · rw [List.getElem?_range hk] at h
    exact ⟨hk, (Option.some.inj h).symm⟩
  · rw [List.getElem?_eq_none (by simp; omega)] at h
    cases h
/-- the cells' addresses differ, and are of a kind -/
def eDj (E : EN) (A : Nat → Prop) : Prop := (∀ i j, i < eN E → j < eN E → eAd E i = eAd E j → i = j) ∧ ∀ i, i < eN E → A (eAd E i)
theorem eDj.D {E : EN} {A : Nat → Prop} (h : eDj E A) (M : Mem) : va_D A (WS E M) := by
  refine ⟨fun i j p q hi hj hpq => ?_, fun k q hk => ?_⟩
  · obtain ⟨h1, rfl⟩ := WS_of hi
    obtain ⟨h2, rfl⟩ := WS_of hj
    exact h.1 i j h1 h2 hpq
  · obtain ⟨h1, rfl⟩ := WS_of hk
    exact h.2 k h1
theorem WS_set {E : EN} {M : Mem} {c : Nat} {k v : Int} {x : va_E} (hc : c < eN E) (hx : x = ccell E (upm M c k v) c) : (WS E M).set c (eAd E c, x) = WS E (upm M c k v) := by
  subst hx
  apply List.ext_getElem?
  intro i
  by_cases hi : i < eN E
  · rw [WS_at hi, List.getElem?_set]
    by_cases hci : c = i
    · subst hci
      simp [WS, hc]
    · rw [if_neg hci, WS_at hi]
      have : ccell E (upm M c k v) i = ccell E M i := by
        unfold ccell fval
        have e : upm M c k v i = M i := upm_c (fun h => hci h.symm)
        rw [e]
      rw [this]
  · rw [List.getElem?_eq_none (by simp [WS]; omega), List.getElem?_eq_none (by simp [WS]; omega)]
def eA (E : EN) : Nat → Prop := fun q => ∃ i, i < eN E ∧ q = eAd E i
/-! constant texts -/
def tLen : List Nat := [6, 5, 5, 6, 6, 5, 4, 4, 6]
def tTxt : List String := ["office", "plain", "licks", "stamps", "cellar", "trail", "file", "fade", "winter"]
