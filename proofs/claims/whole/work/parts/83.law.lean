/-! THE LAW: the script, and both sides together -/
def sx (xs : Nat → Int32) (k : Int) : Int := (xs k.toNat).toInt
abbrev mL_law : MI := (yL_law, cL_law, 4, some .boolean)
section ROWSL
variable {E : EN} {mi : MI} {G : CX} {kc ns pc : Nat} {L st : List AV} {M : Mem}
theorem A_sld {b n : Nat} {xs : Nat → Int32} {i : Int} (hd : decode mi.2.1 pc = .ok (.iaload, 1)) (hX : va_X (eSa E b) n xs (gs G) (gs G).heap) (hbl : eSa E b < (gs G).heap.size) (hbA : ¬ gA G (eSa E b)) (h0 : 0 ≤ i) (h1 : i < n) (kk : AW E mi G kc ns (pc + 1) L (vI (sx xs i) :: st) M) : AW E mi G kc ns pc L (vI i :: vS b :: st) M := by
  intro C hs hL hst hM H locs ls hP hS hl
  have hr : rng i := okhd hst
  have w := kk C hs hL (okc1 (rng_toInt _) (oktl (oktl hst))) hM H locs ls hP hS hl
  refine va_sld (i := i32 i) C.1 C.2.1 hX hbl hbA hS (i32_in h0 h1 hr) hd ?_
  rw [i32_clamp h0 hr]
  have e : cval E (vI (sx xs i)) = .int (xs i.toNat) := by
    show Value.int (i32 ((xs i.toNat).toInt)) = _
    rw [i32_of]
  rw [List.map_cons, e] at w
  exact w
theorem A_slen {b n : Nat} {xs : Nat → Int32} (hd : decode mi.2.1 pc = .ok (.arraylength, 1)) (hX : va_X (eSa E b) n xs (gs G) (gs G).heap) (hbl : eSa E b < (gs G).heap.size) (hbA : ¬ gA G (eSa E b)) (hn : n ≤ 2048) (kk : AW E mi G kc ns (pc + 1) L (vI n :: st) M) : AW E mi G kc ns pc L (vS b :: st) M := by
  intro C hs hL hst hM H locs ls hP hS hl
  exact va_slen C.1 C.2.1 hX hbl hbA hS hd (kk C hs hL (okc1 ⟨by omega, by omega⟩ (oktl hst)) hM H locs ls hP hS hl)
end ROWSL
/-- the object's standing lies in its cells -/
theorem rX_65 {M M1 : Mem} {S : GS} (h : rX M S) (f : ∀ y, y < 65 → M1 y = M y) : rX M1 S := by
  obtain ⟨a, b1, b2, b3, b4, b5, b6, b7⟩ := h
  refine ⟨?_, rC_6 b1 (fun y _ _ => f y (by omega)), fun z => rC_6 (b2 z) (fun y _ _ => f y (by omega)), fun z => rC_6 (b3 z) (fun y _ _ => f y (by omega)), by rw [f 45 (by omega)]; exact b4, by rw [f 1 (by omega), f 2 (by omega)]; exact b5, rS_fr b6 (fun y _ _ => f y (by omega)), by rw [f 64 (by omega)]; exact b7⟩
  obtain ⟨a1, a2, a3, a4⟩ := a
  exact ⟨by rw [f 3 (by omega)]; exact a1, by rw [f (3 + 1) (by omega)]; exact a2, by rw [f (3 + 2) (by omega), f (3 + 3) (by omega), f (3 + 4) (by omega)]; exact a3, by rw [f (3 + 5) (by omega), f (3 + 6) (by omega), f (3 + 7) (by omega)]; exact a4⟩
theorem rY_65 {M M1 : Mem} {S : GS} (h : rY M 65 S) (hT : wT (sT S)) (f : frX M M1) : rY M1 65 S := rY_fr h hT (fun k _ => by rw [f 65 (by omega)]) (fun y hy => f y (by omega)) (fun k _ => by rw [f (65 + 1) (by omega)])
def lwH (E : EN) (G : CX) (n : Nat) (xs : Nat → Int32) : Prop := isApp E ∧ isMod E 65 ∧ Rm G 20 78 1218 ∧ va_X (eSa E 40) n xs (gs G) (gs G).heap ∧ eSa E 40 < (gs G).heap.size ∧ ¬ gA G (eSa E 40) ∧ n ≤ 2048
def lwS (M : Mem) (S : GS) : Prop := rX M S ∧ rY M 65 S ∧ wS S ∧ wX S
theorem wx_go {S : GS} (n : Int) (h : wX S) : wX (g_go S n) := by
  unfold g_go
  repeat' split
  all_goals exact h
theorem wx_spill {S : GS} (t v : Int) (h : wX S) : wX (g_spill S t v) := by
  unfold g_spill
  repeat' split
  all_goals exact h
theorem wx_stamp {S : GS} (f v : Int) (h : wX S) : wX (g_stamp S f v) := by
  unfold g_stamp
  repeat' split
  all_goals exact h
theorem wx_sit {S : GS} (d : Int) (h : wX S) : wX (g_sit S d) := by
  unfold g_sit
  repeat' split
  all_goals exact h
theorem wx_keep {S : GS} (k : Int) (h : wX S) : wX (g_keep S k) := by
  unfold g_keep
  unfold uK
  repeat' split
  all_goals exact h
theorem wx_back {S : GS} (k : Int) (h : wX S) : wX (g_back S k) := by
  unfold g_back
  repeat' split
  all_goals exact h
theorem wx_seen {S : GS} (f d t : Int) (h : wX S) : wX (g_seen S f d t) := by
  unfold g_seen
  repeat' split
  all_goals exact h
theorem wx_crumbs {S : GS} (d n : Int) (h : wX S) : wX (g_crumbs S d n) := by
  unfold g_crumbs
  repeat' split
  all_goals exact h
