/-! WHAT AN OFFICE IS, in numbers: what was told (T), how it stands (C); a minute -/
abbrev Fn : Type := Int → Int
/-- desks, trails, files, fade, winter, kinds, trails' desks, scents, files' starts, ends, sweetness -/
abbrev TD : Type := Nat × Nat × Nat × Int × Int × Fn × Fn × Fn × Fn × Fn × Fn × Fn
abbrev oD (T : TD) : Nat := T.1
abbrev oT (T : TD) : Nat := T.2.1
abbrev oF (T : TD) : Nat := T.2.2.1
abbrev oFa (T : TD) : Int := T.2.2.2.1
abbrev oW (T : TD) : Int := T.2.2.2.2.1
abbrev oK (T : TD) : Fn := T.2.2.2.2.2.1
abbrev oA (T : TD) : Fn := T.2.2.2.2.2.2.1
abbrev oB (T : TD) : Fn := T.2.2.2.2.2.2.2.1
abbrev oS (T : TD) : Fn := T.2.2.2.2.2.2.2.2.1
abbrev oSt (T : TD) : Fn := T.2.2.2.2.2.2.2.2.2.1
abbrev oE (T : TD) : Fn := T.2.2.2.2.2.2.2.2.2.2.1
abbrev oSw (T : TD) : Fn := T.2.2.2.2.2.2.2.2.2.2.2
/-- winter, minutes gone, queen, scents, where files are, sweetness, came by, filed in -/
abbrev CS : Type := Int × Int × Int × Fn × Fn × Fn × Fn × Fn
abbrev csW (C : CS) : Int := C.1
abbrev csG (C : CS) : Int := C.2.1
abbrev csQ (C : CS) : Int := C.2.2.1
abbrev csS (C : CS) : Fn := C.2.2.2.1
abbrev csA (C : CS) : Fn := C.2.2.2.2.1
abbrev csSw (C : CS) : Fn := C.2.2.2.2.2.1
abbrev csC (C : CS) : Fn := C.2.2.2.2.2.2.1
abbrev csF (C : CS) : Fn := C.2.2.2.2.2.2.2
abbrev onT (T : TD) (j d : Int) : Prop := oA T j = d ∨ oB T j = d
/-- well told -/
def wT (T : TD) : Prop := (2 ≤ oD T ∧ oD T ≤ 8 ∧ oT T ≤ 12 ∧ oF T ≤ 6 ∧ 0 ≤ oFa T ∧ oFa T ≤ 9 ∧ 0 ≤ oW T ∧ oW T ≤ 99) ∧ (∀ k : Int, 0 ≤ k → k < 8 → 0 ≤ oK T k ∧ oK T k ≤ 3) ∧
  (∀ k : Int, 0 ≤ k → k < oT T → 0 ≤ oA T k ∧ oA T k < oD T ∧ 0 ≤ oB T k ∧ oB T k < oD T ∧ oA T k ≠ oB T k ∧ 0 ≤ oS T k ∧ oS T k ≤ 99) ∧
  (∀ k : Int, 0 ≤ k → k < oF T → 0 ≤ oSt T k ∧ oSt T k < oD T ∧ 0 ≤ oE T k ∧ oE T k < oD T ∧ oSt T k ≠ oE T k ∧ 0 ≤ oSw T k ∧ oSw T k ≤ 9)
/-- well standing -/
def wC (T : TD) (C : CS) : Prop := (0 ≤ csW C ∧ csW C ≤ 99 ∧ 0 ≤ csG C ∧ -1 ≤ csQ C ∧ csQ C < oD T) ∧ (∀ k : Int, 0 ≤ k → k < oT T → 0 ≤ csS C k ∧ csS C k ≤ 99) ∧
  (∀ k : Int, 0 ≤ k → k < oF T → 0 ≤ csA C k ∧ csA C k < oD T ∧ 0 ≤ csSw C k ∧ csSw C k ≤ 9 ∧ -1 ≤ csC C k ∧ csC C k < oT T ∧ (csC C k ≠ -1 → onT T (csC C k) (csA C k)) ∧ -1 ≤ csF C k ∧ csF C k < csG C)
/-- the sweetest file at a desk among the first; -1 -/
def swN (C : CS) (d : Int) : Nat → Int
  | 0 => -1
  | n + 1 => if csA C n = d ∧ csF C n = -1 ∧ 0 < csSw C n ∧ (swN C d n = -1 ∨ csSw C (swN C d n) < csSw C n) then n else swN C d n
/-- the trail of a desk that smells most among the first, but one; -1 -/
def wyN (T : TD) (C : CS) (d but : Int) : Nat → Int
  | 0 => -1
  | n + 1 => if onT T n d ∧ (n : Int) ≠ but ∧ (wyN T C d but n = -1 ∨ csS C (wyN T C d but n) < csS C n) then n else wyN T C d but n
/-- the way from a desk -/
def way (T : TD) (C : CS) (d but : Int) : Int := if wyN T C d but (oT T) = -1 then but else wyN T C d but (oT T)
/-- the trail by which a file is carried in the minute that comes; -1 -/
def crd (T : TD) (C : CS) (f : Int) : Int := if 0 < csW C ∨ oK T (csA C f) = 3 ∨ csQ C = csA C f ∨ swN C (csA C f) (oF T) ≠ f then -1 else way T C (csA C f) (csC C f)
/-- a trail's scent, with what the first files leave -/
def scN (C : CS) (cr : Fn) (j : Int) : Nat → Int
  | 0 => csS C j
  | n + 1 => if cr n = j then min 99 (scN C cr j n + csSw C n) else scN C cr j n
def acr (T : TD) (j d : Int) : Int := if oA T j = d then oB T j else oA T j
/-- where a file is behind a minute -/
def atN (T : TD) (C : CS) (cr : Fn) (f : Int) : Int := if cr f = -1 then csA C f else acr T (cr f) (csA C f)
/-- a minute, by what is carried -/
def mnB (T : TD) (C : CS) (cr : Fn) : CS := (if 0 < csW C then csW C - 1 else csW C, csG C + 1, csQ C, fun j => max 0 (scN C cr j (oF T) - oFa T), atN T C cr, fun f => if cr f = -1 then csSw C f else swb (oK T (atN T C cr f)) (csSw C f), fun f => if cr f = -1 then csC C f else cr f, fun f => if cr f ≠ -1 ∧ atN T C cr f = oE T f then csG C else csF C f)
def mnC (T : TD) (C : CS) : CS := mnB T C (crd T C)
/-- files that are filed, by bits -/
def fsN (F : Fn) : Nat → Nat
  | 0 => 0
  | n + 1 => if F n = -1 then fsN F n else fsN F n + 2 ^ n
def atB (A : Fn) (d : Int) : Nat → Nat
  | 0 => 0
  | n + 1 => if A n = d then atB A d n + 2 ^ n else atB A d n
/-- how it is told as a start -/
def bgC (T : TD) : CS := (oW T, 0, -1, oS T, oSt T, oSw T, fun _ => -1, fun _ => -1)
/-! facts -/
theorem swN_r (C : CS) (d : Int) : ∀ n : Nat, -1 ≤ swN C d n ∧ swN C d n < n
  | 0 => by unfold swN; omega
  | n + 1 => by
    have := swN_r C d n
    unfold swN
    split <;> omega
theorem swN_p (C : CS) (d : Int) : ∀ n : Nat, swN C d n ≠ -1 → csA C (swN C d n) = d ∧ csF C (swN C d n) = -1 ∧ 0 < csSw C (swN C d n)
  | 0 => fun h => by unfold swN at h; omega
  | n + 1 => fun h => by
    have ih := swN_p C d n
    unfold swN at h ⊢
    split
    · rename_i q; exact ⟨q.1, q.2.1, q.2.2.1⟩
    · rename_i q; rw [if_neg q] at h; exact ih h
theorem wyN_r (T : TD) (C : CS) (d but : Int) : ∀ n : Nat, -1 ≤ wyN T C d but n ∧ wyN T C d but n < n
  | 0 => by unfold wyN; omega
  | n + 1 => by
    have := wyN_r T C d but n
    unfold wyN
    split <;> omega
theorem wyN_p (T : TD) (C : CS) (d but : Int) : ∀ n : Nat, wyN T C d but n ≠ -1 → onT T (wyN T C d but n) d
  | 0 => fun h => by unfold wyN at h; omega
  | n + 1 => fun h => by
    have ih := wyN_p T C d but n
    unfold wyN at h ⊢
    split
    · rename_i q; exact q.1
    · rename_i q; rw [if_neg q] at h; exact ih h
theorem way_p {T : TD} {C : CS} {d but : Int} (h1 : -1 ≤ but) (h2 : but < oT T) (h3 : but ≠ -1 → onT T but d) : -1 ≤ way T C d but ∧ way T C d but < oT T ∧ (way T C d but ≠ -1 → onT T (way T C d but) d) := by
  have := wyN_r T C d but (oT T)
  have q := wyN_p T C d but (oT T)
  unfold way
  split
  · exact ⟨h1, h2, h3⟩
  · rename_i h; exact ⟨by omega, by omega, fun _ => q h⟩
theorem crd_p {T : TD} {C : CS} (hC : wC T C) {f : Int} (h0 : 0 ≤ f) (h1 : f < oF T) : -1 ≤ crd T C f ∧ crd T C f < oT T ∧ (crd T C f ≠ -1 → onT T (crd T C f) (csA C f)) := by
  obtain ⟨-, -, hf⟩ := hC
  have h := hf f h0 h1
  unfold crd
  split
  · exact ⟨by omega, by omega, fun q => absurd rfl q⟩
  · exact way_p h.2.2.2.2.1 h.2.2.2.2.2.1 h.2.2.2.2.2.2.1
theorem swb_r {k v : Int} (h0 : 0 ≤ v) (h1 : v ≤ 9) : 0 ≤ swb k v ∧ swb k v ≤ 9 := by
  unfold swb
  split
  · omega
  · split <;> omega
theorem acr_r {T : TD} (hT : wT T) {j d : Int} (h0 : 0 ≤ j) (h1 : j < oT T) (hd : onT T j d) : 0 ≤ acr T j d ∧ acr T j d < oD T ∧ onT T j (acr T j d) := by
  have h := hT.2.2.1 j h0 h1
  unfold acr
  split
  · exact ⟨h.2.2.1, h.2.2.2.1, Or.inr rfl⟩
  · exact ⟨h.1, h.2.1, Or.inl rfl⟩
theorem scN_r {C : CS} {cr : Fn} {j : Int} (h0 : 0 ≤ csS C j) (h1 : csS C j ≤ 99) : ∀ n : Nat, (∀ f : Int, 0 ≤ f → f < n → 0 ≤ csSw C f ∧ csSw C f ≤ 9) → 0 ≤ scN C cr j n ∧ scN C cr j n ≤ 99
  | 0, _ => ⟨h0, h1⟩
  | n + 1, hs => by
    have ih := scN_r (cr := cr) h0 h1 n (fun f a b => hs f a (by omega))
    have := hs n (by omega) (by omega)
    unfold scN
    split <;> omega
theorem mnC_w {T : TD} {C : CS} (hT : wT T) (hC : wC T C) : wC T (mnC T C) := by
  have hc := hC
  obtain ⟨h1, h2, h3⟩ := hC
  refine ⟨?_, fun k a b => ?_, fun k a b => ?_⟩
  · show 0 ≤ (if 0 < csW C then csW C - 1 else csW C) ∧ (if 0 < csW C then csW C - 1 else csW C) ≤ 99 ∧ 0 ≤ csG C + 1 ∧ -1 ≤ csQ C ∧ csQ C < oD T
    split <;> omega
  · have q := scN_r (cr := crd T C) (h2 k a b).1 (h2 k a b).2 (oF T) (fun f x y => ⟨(h3 f x y).2.2.1, (h3 f x y).2.2.2.1⟩)
    have w := hT.1
    show 0 ≤ max 0 (scN C (crd T C) k (oF T) - oFa T) ∧ max 0 (scN C (crd T C) k (oF T) - oFa T) ≤ 99
    omega
  · have q := h3 k a b
    obtain ⟨c1, c2, c3⟩ := crd_p hc a b
    show 0 ≤ atN T C (crd T C) k ∧ atN T C (crd T C) k < oD T ∧ 0 ≤ (if crd T C k = -1 then csSw C k else swb (oK T (atN T C (crd T C) k)) (csSw C k)) ∧ (if crd T C k = -1 then csSw C k else swb (oK T (atN T C (crd T C) k)) (csSw C k)) ≤ 9 ∧ -1 ≤ (if crd T C k = -1 then csC C k else crd T C k) ∧ (if crd T C k = -1 then csC C k else crd T C k) < oT T ∧ ((if crd T C k = -1 then csC C k else crd T C k) ≠ -1 → onT T (if crd T C k = -1 then csC C k else crd T C k) (atN T C (crd T C) k)) ∧ -1 ≤ (if crd T C k ≠ -1 ∧ atN T C (crd T C) k = oE T k then csG C else csF C k) ∧ (if crd T C k ≠ -1 ∧ atN T C (crd T C) k = oE T k then csG C else csF C k) < csG C + 1
    unfold atN
    by_cases hk : crd T C k = -1
    · simp only [if_pos hk]
      exact ⟨q.1, q.2.1, q.2.2.1, q.2.2.2.1, q.2.2.2.2.1, q.2.2.2.2.2.1, q.2.2.2.2.2.2.1, by rw [if_neg (by omega)]; omega, by rw [if_neg (by omega)]; omega⟩
    · simp only [if_neg hk]
      obtain ⟨d1, d2, d3⟩ := acr_r hT (by omega) c2 (c3 hk)
      obtain ⟨e1, e2⟩ := swb_r (k := oK T (acr T (crd T C k) (csA C k))) q.2.2.1 q.2.2.2.1
      exact ⟨d1, d2, e1, e2, c1, c2, fun _ => d3, by split <;> omega, by split <;> omega⟩
theorem fsN_bit (F : Fn) : ∀ n : Nat, fsN F n < 2 ^ n ∧ ∀ i : Nat, (fsN F n).testBit i = decide (i < n ∧ F i ≠ -1)
  | 0 => ⟨by unfold fsN; omega, fun i => by unfold fsN; simp⟩
  | n + 1 => by
    obtain ⟨h1, h2⟩ := fsN_bit F n
    have e2 : 2 ^ (n + 1) = 2 ^ n + 2 ^ n := by rw [Nat.pow_succ]; omega
    unfold fsN
    by_cases hF : F n = -1
    · rw [if_pos hF]
      refine ⟨by omega, fun i => ?_⟩
      rw [h2]
      by_cases hi : i = n
      · subst hi; simp [hF]
      · have : i < n + 1 ↔ i < n := by omega
        simp [this]
    · rw [if_neg hF]
      refine ⟨by omega, fun i => ?_⟩
      rw [Nat.add_comm]
      rcases Nat.lt_trichotomy i n with h | h | h
      · rw [Nat.testBit_two_pow_add_gt h, h2]
        have e : i < n + 1 := by omega
        simp [h, e]
      · subst h
        rw [Nat.testBit_two_pow_add_eq, Nat.testBit_lt_two_pow h1]
        simp [hF]
      · have hlt : 2 ^ n + fsN F n < 2 ^ i := Nat.lt_of_lt_of_le (by omega : 2 ^ n + fsN F n < 2 ^ (n + 1)) (Nat.pow_le_pow_right (by omega) (by omega))
        rw [Nat.testBit_lt_two_pow hlt]
        have e : ¬ i < n + 1 := by omega
        simp [e]
theorem b_nI (n : Nat) : i32 (n : Int) = nI n := rfl
theorem b_shl : ∀ f : Nat, f < 30 → i32 1 <<< (i32 (f : Int) &&& 31) = i32 ((2 ^ f : Nat) : Int) := by decide +kernel
theorem b_or (a b : Nat) : i32 (a : Int) ||| i32 (b : Int) = i32 ((a ||| b : Nat) : Int) := by
  rw [b_nI, b_nI, b_nI]
  apply Int32.toBitVec_inj.mp
  simp [nI]
theorem b_and (a b : Nat) : i32 (a : Int) &&& i32 (b : Int) = i32 ((a &&& b : Nat) : Int) := by
  rw [b_nI, b_nI, b_nI]
  apply Int32.toBitVec_inj.mp
  simp [nI]
/-- a bit set is added -/
theorem b_add {x n : Nat} (h : x < 2 ^ n) : x ||| 2 ^ n = x + 2 ^ n := by
  have h' := Nat.two_pow_add_eq_or_of_lt h 1
  rw [Nat.mul_one] at h'
  rw [Nat.or_comm, ← h', Nat.add_comm]
theorem atB_lt (A : Fn) (d : Int) : ∀ n : Nat, atB A d n < 2 ^ n
  | 0 => by unfold atB; omega
  | n + 1 => by
    have := atB_lt A d n
    have e2 : 2 ^ (n + 1) = 2 ^ n + 2 ^ n := by rw [Nat.pow_succ]; omega
    unfold atB
    split <;> omega
theorem p2_le {i n : Nat} (h : i ≤ n) : 2 ^ i ≤ 2 ^ n := Nat.pow_le_pow_right (by omega) h
theorem sw_same {C : CS} {d : Int} {i : Nat} (h : ¬ (csA C i = d ∧ csF C i = -1 ∧ 0 < csSw C i ∧ (swN C d i = -1 ∨ csSw C (swN C d i) < csSw C i))) : swN C d (i + 1) = swN C d i := by rw [swN, if_neg h]
theorem sw_new {C : CS} {d : Int} {i : Nat} (h : csA C i = d ∧ csF C i = -1 ∧ 0 < csSw C i ∧ (swN C d i = -1 ∨ csSw C (swN C d i) < csSw C i)) : swN C d (i + 1) = i := by rw [swN, if_pos h]
theorem fsN_ext {F F' : Fn} : ∀ n : Nat, (∀ k : Nat, k < n → (F k = -1 ↔ F' k = -1)) → fsN F n = fsN F' n
  | 0, _ => rfl
  | n + 1, h => by
    have ih := fsN_ext n (fun k hk => h k (by omega))
    have q := h n (by omega)
    unfold fsN
    by_cases e : F n = -1
    · rw [if_pos e, if_pos (q.mp e), ih]
    · rw [if_neg e, if_neg (fun z => e (q.mpr z)), ih]
theorem fsN_set {F F' : Fn} {i n : Nat} (hi : i < n) (h1 : F' i ≠ -1) (h2 : ∀ k : Nat, k < n → k ≠ i → (F' k = -1 ↔ F k = -1)) : fsN F n ||| 2 ^ i = fsN F' n := by
  apply Nat.eq_of_testBit_eq
  intro j
  rw [Nat.testBit_or, (fsN_bit F n).2, (fsN_bit F' n).2, Nat.testBit_two_pow]
  by_cases hj : j = i
  · subst hj; simp [hi, h1]
  · have e : ¬ i = j := fun q => hj q.symm
    by_cases hn : j < n
    · have := h2 j hn hj
      simp [hn, e, this]
    · simp [hn, e]
