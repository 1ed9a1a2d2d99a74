/-! THE WHOLE STANDING, of both sides -/
/-- told; as it stands; what is kept, and whether; the text; what was seen; the crumbs -/
abbrev GS : Type := TD × CS × (CS × CS) × (Int × Int) × (Nat × Fn) × (Nat × Fn × Fn × Fn) × Fn
abbrev sT (S : GS) : TD := S.1
abbrev sC (S : GS) : CS := S.2.1
abbrev sK0 (S : GS) : CS := S.2.2.1.1
abbrev sK1 (S : GS) : CS := S.2.2.1.2
abbrev sb0 (S : GS) : Int := S.2.2.2.1.1
abbrev sb1 (S : GS) : Int := S.2.2.2.1.2
abbrev sL (S : GS) : Nat := S.2.2.2.2.1.1
abbrev sX (S : GS) : Fn := S.2.2.2.2.1.2
abbrev sN (S : GS) : Nat := S.2.2.2.2.2.1.1
abbrev sFl (S : GS) : Fn := S.2.2.2.2.2.1.2.1
abbrev sDk (S : GS) : Fn := S.2.2.2.2.2.1.2.2.1
abbrev sMn (S : GS) : Fn := S.2.2.2.2.2.1.2.2.2
abbrev sR (S : GS) : Fn := S.2.2.2.2.2.2
def uC (S : GS) (C : CS) : GS := (S.1, C, S.2.2)
def uT (S : GS) (n : Nat) (x : Fn) : GS := (S.1, S.2.1, S.2.2.1, S.2.2.2.1, (n, x), S.2.2.2.2.2)
def uS (S : GS) (n : Nat) (a b c : Fn) : GS := (S.1, S.2.1, S.2.2.1, S.2.2.2.1, S.2.2.2.2.1, (n, a, b, c), S.2.2.2.2.2.2)
def uR (S : GS) (r : Fn) : GS := (S.1, S.2.1, S.2.2.1, S.2.2.2.1, S.2.2.2.2.1, S.2.2.2.2.2.1, r)
def uK (S : GS) (k : Int) : GS := if k = 0 then (S.1, S.2.1, (sC S, sK1 S), (1, sb1 S), S.2.2.2.2) else (S.1, S.2.1, (sK0 S, sC S), (sb0 S, 1), S.2.2.2.2)
def wS (S : GS) : Prop := wT (sT S) ∧ (wC (sT S) (sC S) ∧ csG (sC S) ≤ 9999) ∧ ((sb0 S = 0 ∨ sb0 S = 1) ∧ (sb1 S = 0 ∨ sb1 S = 1)) ∧ (sb0 S = 1 → wC (sT S) (sK0 S) ∧ csG (sK0 S) ≤ 9999) ∧ (sb1 S = 1 → wC (sT S) (sK1 S) ∧ csG (sK1 S) ≤ 9999) ∧ sL S ≤ 200 ∧ (sN S ≤ 6 ∧ ∀ k : Int, 0 ≤ k → k < sN S → 0 ≤ sFl S k ∧ sFl S k < oF (sT S) ∧ 0 ≤ sDk S k ∧ sDk S k < oD (sT S) ∧ 0 ≤ sMn S k ∧ sMn S k ≤ 99) ∧ (∀ k : Int, 0 ≤ k → k < 8 → 0 ≤ sR S k ∧ sR S k ≤ 99) ∧ ∀ k : Int, oD (sT S) ≤ k → k < 8 → sR S k = 0
def rX (M : Mem) (S : GS) : Prop := rT M 3 (sT S) ∧ rC M 20 (sT S) (sC S) ∧ (sb0 S = 1 → rC M 29 (sT S) (sK0 S)) ∧ (sb1 S = 1 → rC M 37 (sT S) (sK1 S)) ∧ (M 45 0 = sb0 S ∧ M 45 1 = sb1 S) ∧ (M 1 1 = sL S ∧ ∀ k : Int, 0 ≤ k → k < sL S → M 2 k = sX S k) ∧ rS M 59 (sN S) (sFl S) (sDk S) (sMn S) ∧ ∀ k : Int, 0 ≤ k → k < 8 → M 64 k = sR S k
def rY (M : Mem) (m : Nat) (S : GS) : Prop := rI M m (sT S) ∧ rM M m 0 (sT S) (sC S) ∧ (sb0 S = 1 → rM M m 39 (sT S) (sK0 S)) ∧ (sb1 S = 1 → rM M m 78 (sT S) (sK1 S)) ∧ rM M m 156 (sT S) (bgC (sT S)) ∧ (M (m + 2) 0 = sb0 S ∧ M (m + 2) 1 = sb1 S) ∧ (M m 3 = sL S ∧ ∀ k : Int, 0 ≤ k → k < sL S → M (m + 3) k = sX S k) ∧ (M m 23 = sN S ∧ ∀ k : Int, 0 ≤ k → k < sN S → M (m + 11) (3 * k) = sFl S k ∧ M (m + 11) (3 * k + 1) = sDk S k ∧ M (m + 11) (3 * k + 2) = sMn S k) ∧ ∀ k : Int, 0 ≤ k → k < 8 → M (m + 12) k = sR S k
def frX (M M1 : Mem) : Prop := ∀ y, 65 ≤ y → M1 y = M y
def frY (M M1 : Mem) (m : Nat) : Prop := ∀ y, y < m → M1 y = M y
/-- what is tried, carried, read changes nothing of the standing -/
theorem rY_fr {M M1 : Mem} {m : Nat} {S : GS} (h : rY M m S) (hT : wT (sT S)) (h0 : ∀ k : Int, k = 3 ∨ k = 6 ∨ k = 10 ∨ k = 12 ∨ k = 13 ∨ k = 23 → M1 m k = M m k) (h1 : ∀ y, y = m + 2 ∨ y = m + 3 ∨ y = m + 5 ∨ y = m + 6 ∨ y = m + 7 ∨ y = m + 8 ∨ y = m + 11 ∨ y = m + 12 → M1 y = M y) (h2 : ∀ k : Int, k < 117 ∨ 156 ≤ k → M1 (m + 1) k = M (m + 1) k) : rY M1 m S := by
  obtain ⟨⟨⟨a1, a2, a3, a4⟩, a5, a6, a7⟩, b1, b2, b3, b4, b5, b6, b7, b8⟩ := h
  refine ⟨⟨⟨by rw [h0 6 (by omega)]; exact a1, by rw [h0 10 (by omega)]; exact a2, by rw [h0 12 (by omega)]; exact a3, by rw [h0 13 (by omega)]; exact a4⟩, by rw [h1 (m + 5) (by omega)]; exact a5, by rw [h1 (m + 6) (by omega), h1 (m + 7) (by omega)]; exact a6, by rw [h1 (m + 8) (by omega)]; exact a7⟩,
    rM_fr b1 hT (fun k x y => h2 k (by omega)), fun z => rM_fr (b2 z) hT (fun k x y => h2 k (by omega)), fun z => rM_fr (b3 z) hT (fun k x y => h2 k (by omega)), rM_fr b4 hT (fun k x y => h2 k (by omega)), by rw [h1 (m + 2) (by omega)]; exact b5, by rw [h0 3 (by omega), h1 (m + 3) (by omega)]; exact b6, by rw [h0 23 (by omega), h1 (m + 11) (by omega)]; exact b7, by rw [h1 (m + 12) (by omega)]; exact b8⟩
theorem rY_try {M M1 : Mem} {m : Nat} {S : GS} (h : rY M m S) (hT : wT (sT S)) (hf : frM M M1 m 117) : rY M1 m S ∧ frY M M1 m :=
  ⟨rY_fr h hT (fun k _ => by rw [hf.1 m (by omega) (by omega)]) (fun y hy => hf.1 y (by omega) (by omega)) (fun k hk => hf.2 k (by omega)), fun y hy => hf.1 y (by omega) (by omega)⟩
theorem rM_0 {M : Mem} {m : Nat} {T : TD} {C : CS} (h : rM M m 0 T C) : (M (m + 1) 0 = csG C ∧ M (m + 1) 1 = csW C ∧ M (m + 1) 2 = csQ C) ∧ (∀ k : Int, 0 ≤ k → k < oT T → M (m + 1) (3 + k) = csS C k) ∧ ∀ k : Int, 0 ≤ k → k < oF T → M (m + 1) (15 + k) = csA C k ∧ M (m + 1) (21 + k) = csSw C k ∧ M (m + 1) (27 + k) = csC C k ∧ M (m + 1) (33 + k) = csF C k := by
  obtain ⟨⟨a, b, c⟩, d, e⟩ := h
  refine ⟨⟨a, b, c⟩, fun k x y => ?_, fun k x y => ?_⟩
  · have := d k x y
    rwa [show ((0 : Nat) : Int) + 3 + k = 3 + k by omega] at this
  · have := e k x y
    rwa [show ((0 : Nat) : Int) + 15 + k = 15 + k by omega, show ((0 : Nat) : Int) + 21 + k = 21 + k by omega, show ((0 : Nat) : Int) + 27 + k = 27 + k by omega, show ((0 : Nat) : Int) + 33 + k = 33 + k by omega] at this
theorem rM_0i {M : Mem} {m : Nat} {T : TD} {C : CS} (h1 : M (m + 1) 0 = csG C ∧ M (m + 1) 1 = csW C ∧ M (m + 1) 2 = csQ C) (h2 : ∀ k : Int, 0 ≤ k → k < oT T → M (m + 1) (3 + k) = csS C k) (h3 : ∀ k : Int, 0 ≤ k → k < oF T → M (m + 1) (15 + k) = csA C k ∧ M (m + 1) (21 + k) = csSw C k ∧ M (m + 1) (27 + k) = csC C k ∧ M (m + 1) (33 + k) = csF C k) : rM M m 0 T C := by
  refine ⟨h1, fun k x y => ?_, fun k x y => ?_⟩
  · have := h2 k x y
    rwa [show ((0 : Nat) : Int) + 3 + k = 3 + k by omega]
  · have := h3 k x y
    rwa [show ((0 : Nat) : Int) + 15 + k = 15 + k by omega, show ((0 : Nat) : Int) + 21 + k = 21 + k by omega, show ((0 : Nat) : Int) + 27 + k = 27 + k by omega, show ((0 : Nat) : Int) + 33 + k = 33 + k by omega]
/-- of the standing alone something else -/
theorem rY_uC {M M1 : Mem} {m : Nat} {S : GS} {C : CS} (h : rY M m S) (hT : wT (sT S)) (h0 : ∀ y, y ≠ m + 1 → y ≠ m + 9 → M1 y = M y) (h2 : ∀ k : Int, 39 ≤ k ∧ k < 117 ∨ 156 ≤ k → M1 (m + 1) k = M (m + 1) k) (hC : rM M1 m 0 (sT S) C) : rY M1 m (uC S C) := by
  obtain ⟨a, b1, b2, b3, b4, b5, b6, b7, b8⟩ := h
  have e : ∀ y, y ≠ m + 1 → y ≠ m + 9 → M1 y = M y := h0
  refine ⟨rI_fr a (fun y hy => e y (by omega) (by omega)), hC, fun z => rM_fr (b2 z) hT (fun k x y => h2 k (by omega)), fun z => rM_fr (b3 z) hT (fun k x y => h2 k (by omega)), rM_fr b4 hT (fun k x y => h2 k (by omega)), by rw [e (m + 2) (by omega) (by omega)]; exact b5, by rw [e m (by omega) (by omega), e (m + 3) (by omega) (by omega)]; exact b6, by rw [e m (by omega) (by omega), e (m + 11) (by omega) (by omega)]; exact b7, by rw [e (m + 12) (by omega) (by omega)]; exact b8⟩
/-! what the calls answer -/
def f_desk (S : GS) (d w : Int) : Int := if 0 ≤ d ∧ d < oD (sT S) then (if w = 0 then oK (sT S) d else if w = 1 then (atB (csA (sC S)) d (oF (sT S)) : Nat) else if w = 2 then trN (oA (sT S)) (oB (sT S)) d (oT (sT S)) else -3) else -2
def f_trail (S : GS) (t w : Int) : Int := if 0 ≤ t ∧ t < oT (sT S) then (if w = 0 then oA (sT S) t else if w = 1 then oB (sT S) t else if w = 2 then csS (sC S) t else -3) else -2
def f_file (S : GS) (f w : Int) : Int := if 0 ≤ f ∧ f < oF (sT S) then (if w = 0 then csA (sC S) f else if w = 1 then oE (sT S) f else if w = 2 then csSw (sC S) f else if w = 3 then csC (sC S) f else if w = 4 then csF (sC S) f else -3) else -2
def f_as (S : GS) (d a : Int) : Int := if 0 ≤ d ∧ d < oD (sT S) then (if 0 ≤ a ∧ a ≤ 4 then (if a = 0 ∨ a = 1 ∧ oK (sT S) d ≠ 3 ∨ a = 2 ∧ oK (sT S) d = 1 ∨ a = 3 ∧ oK (sT S) d = 2 ∨ a = 4 ∧ oK (sT S) d = 3 then swb (oK (sT S) d) 5 else -4) else -3) else -2
def f_next (S : GS) (f : Int) : Int := if 0 ≤ f ∧ f < oF (sT S) then crd (sT S) (sC S) f else -2
/-- half the scents -/
def rnC (C : CS) : CS := (csW C, csG C, csQ C, fun k => csS C k / 2, csA C, csSw C, csC C, csF C)
/-- how many files that are not filed are at a desk -/
def quN (C : CS) (d : Int) : Nat → Int
  | 0 => 0
  | n + 1 => if csA C n = d ∧ csF C n = -1 then quN C d n + 1 else quN C d n
theorem quN_r (C : CS) (d : Int) : ∀ n : Nat, 0 ≤ quN C d n ∧ quN C d n ≤ n
  | 0 => by unfold quN; omega
  | n + 1 => by
    have := quN_r C d n
    unfold quN
    split <;> omega
theorem atB_ext {A B : Fn} {d : Int} : ∀ n : Nat, (∀ k : Int, 0 ≤ k → k < n → A k = B k) → atB A d n = atB B d n
  | 0, _ => rfl
  | n + 1, h => by rw [atB, atB, atB_ext n (fun k x y => h k x (by omega)), h n (by omega) (by omega)]
theorem trN_ext {A B A' B' : Fn} {d : Int} : ∀ n : Nat, (∀ k : Int, 0 ≤ k → k < n → A k = A' k ∧ B k = B' k) → trN A B d n = trN A' B' d n
  | 0, _ => rfl
  | n + 1, h => by rw [trN, trN, trN_ext n (fun k x y => h k x (by omega)), (h n (by omega) (by omega)).1, (h n (by omega) (by omega)).2]
