/-! THE START: what the Statement gives of it -/
theorem tbm (i : Nat) {w : Cond} (h : tables_1[i]? = some w) : w ∈ lw_tbl := List.mem_append_right _ (List.mem_of_getElem? h)
theorem g_ex : ∀ i, i < 9 → Cond.exactly (.string RX3 (tIdx.getD i 0)) "java/lang/String" ∈ flatC (Jvm.Cond.and given_1 narrow_1) := by decide +kernel
theorem g_co : ∀ i, i < 9 → Cond.eq (.field (.string RX3 (tIdx.getD i 0)) "java/lang/String" "coder" "B") (.int 0) ∈ flatC (Jvm.Cond.and given_1 narrow_1) := by decide +kernel
theorem g_ar : ∀ i, i < 9 → Cond.arrayOf (.field (.string RX3 (tIdx.getD i 0)) "java/lang/String" "value" "[B") .byte ∈ flatC (Jvm.Cond.and given_1 narrow_1) := by decide +kernel
theorem g_le : ∀ i, i < 9 → Cond.eq (.length (.field (.string RX3 (tIdx.getD i 0)) "java/lang/String" "value" "[B")) (.int (Int32.ofNat (tLen.getD i 0))) ∈ flatC (Jvm.Cond.and given_1 narrow_1) := by decide +kernel
theorem g_el : ∀ i, i < 9 → ∀ j, j < tLen.getD i 0 → Cond.eq (.elem (.field (.string RX3 (tIdx.getD i 0)) "java/lang/String" "value" "[B") (.int (Int32.ofNat j))) (.int ((tByt.getD i []).getD j 0)) ∈ flatC (Jvm.Cond.and given_1 narrow_1) := by decide +kernel
theorem g_ne : ∀ i, i < 9 → ∀ j, j < 9 → i ≠ j → Cond.not (Cond.eq (.string RX3 (tIdx.getD i 0)) (.string RX3 (tIdx.getD j 0))) ∈ flatC (Jvm.Cond.and given_1 narrow_1) ∨ Cond.not (Cond.eq (.string RX3 (tIdx.getD j 0)) (.string RX3 (tIdx.getD i 0))) ∈ flatC (Jvm.Cond.and given_1 narrow_1) := by decide +kernel
theorem g_cs : Cond.eq (.static "java/lang/String" "COMPACT_STRINGS" "Z") (.int 1) ∈ flatC (Jvm.Cond.and given_1 narrow_1) := by decide +kernel
theorem g_fm : Cond.isRef (.static "jdk/internal/util/Preconditions" "SIOOBE_FORMATTER" "Ljava/util/function/BiFunction;") ∈ flatC (Jvm.Cond.and given_1 narrow_1) := by decide +kernel
theorem g_sr : ∀ i, i < 9 → Cond.stringRef RX3 (tIdx.getD i 0) (tTxt.getD i "") ∈ lw_tbl := fun i hi => by
  match i, hi with
  | 0, _ => exact tbm 359 (by decide +kernel)
  | 1, _ => exact tbm 425 (by decide +kernel)
  | 2, _ => exact tbm 430 (by decide +kernel)
  | 3, _ => exact tbm 431 (by decide +kernel)
  | 4, _ => exact tbm 432 (by decide +kernel)
  | 5, _ => exact tbm 433 (by decide +kernel)
  | 6, _ => exact tbm 446 (by decide +kernel)
  | 7, _ => exact tbm 455 (by decide +kernel)
  | 8, _ => exact tbm 460 (by decide +kernel)
  | k + 9, hi => omega
theorem ins0 : Cond.instantiable RX0 11 ∈ lw_tbl := tbm 153 (by decide +kernel)
theorem ins1 : Cond.instantiable RX1 1 ∈ lw_tbl := tbm 273 (by decide +kernel)
theorem ins2 : Cond.instantiable RX2 7 ∈ lw_tbl := tbm 220 (by decide +kernel)
theorem ins3 : Cond.instantiable RX3 6 ∈ lw_tbl := tbm 123 (by decide +kernel)
theorem ins4 : Cond.instantiable RX4 4 ∈ lw_tbl := tbm 253 (by decide +kernel)
theorem ins5 : Cond.instantiable RX5 2 ∈ lw_tbl := tbm 27 (by decide +kernel)
theorem ins6 : Cond.instantiable RX6 12 ∈ lw_tbl := tbm 43 (by decide +kernel)
theorem ins7 : Cond.instantiable RX7 9 ∈ lw_tbl := tbm 19 (by decide +kernel)
theorem ins8 : Cond.instantiable RX8 25 ∈ lw_tbl := tbm 774 (by decide +kernel)
theorem st_K {s : State} {b : Nat} (hts : ∀ w ∈ lw_tbl, w.before #[Value.ref b] s = true) : ∃ (D : va_G) (cs : ClassId × ClassId × ClassId), va_K D vwCl [(cs.1, .int), (cs.2.1, .boolean), (cs.2.2, .object RX0)] s := by
  have hTB : ∀ w ∈ TB, w.before #[Value.ref b] s = true := fun w hw => hts w (List.mem_filter.mp hw).1
  have hk : ∀ c : Nat, ∃ d : ClassId × (Nat → Nat), ∀ q, vwCl[c]? = some q → u_Kn s q.1 q.2.1 q.2.2 d.1 d.2 := by
    intro c
    match c with
    | 0 =>
      obtain ⟨a, f, h⟩ := u_known (ws := TB) hTB cls0.2.1 (hts _ ins0)
      exact ⟨(a, f), fun q hq => by cases hq; exact h⟩
    | 1 =>
      obtain ⟨a, f, h⟩ := u_known (ws := TB) hTB cls1.2.1 (hts _ ins1)
      exact ⟨(a, f), fun q hq => by cases hq; exact h⟩
    | 2 =>
      obtain ⟨a, f, h⟩ := u_known (ws := TB) hTB cls2.2.1 (hts _ ins2)
      exact ⟨(a, f), fun q hq => by cases hq; exact h⟩
    | 3 =>
      obtain ⟨a, f, h⟩ := u_known (ws := TB) hTB cls3.2.1 (hts _ ins3)
      exact ⟨(a, f), fun q hq => by cases hq; exact h⟩
    | 4 =>
      obtain ⟨a, f, h⟩ := u_known (ws := TB) hTB cls4.2.1 (hts _ ins4)
      exact ⟨(a, f), fun q hq => by cases hq; exact h⟩
    | 5 =>
      obtain ⟨a, f, h⟩ := u_known (ws := TB) hTB cls5.2.1 (hts _ ins5)
      exact ⟨(a, f), fun q hq => by cases hq; exact h⟩
    | 6 =>
      obtain ⟨a, f, h⟩ := u_known (ws := TB) hTB cls6.2.1 (hts _ ins6)
      exact ⟨(a, f), fun q hq => by cases hq; exact h⟩
    | 7 =>
      obtain ⟨a, f, h⟩ := u_known (ws := TB) hTB cls7.2.1 (hts _ ins7)
      exact ⟨(a, f), fun q hq => by cases hq; exact h⟩
    | 8 =>
      obtain ⟨a, f, h⟩ := u_known (ws := TB) hTB cls8.2.1 (hts _ ins8)
      exact ⟨(a, f), fun q hq => by cases hq; exact h⟩
    | k + 9 =>
      obtain ⟨a, f, h⟩ := u_known (ws := TB) hTB cls0.2.1 (hts _ ins0)
      exact ⟨(a, f), fun q hq => by simp [vwCl] at hq⟩
  obtain ⟨f, hf⟩ := Classical.axiomOfChoice hk
  have hi : (Cond.arrayClass .int).before #[Value.ref b] s = true := hts _ (tbm 41 (by decide +kernel))
  have hz : (Cond.arrayClass .boolean).before #[Value.ref b] s = true := hts _ (tbm 251 (by decide +kernel))
  have hc : (Cond.arrayOver (.object RX0)).before #[Value.ref b] s = true := hts _ (tbm 218 (by decide +kernel))
  obtain ⟨c1, k1, p1, a1, a2, a3⟩ := Cond.arrayClass_spec hi
  obtain ⟨c2, k2, p2, b1, b2, b3⟩ := Cond.arrayClass_spec hz
  obtain ⟨p3, c3, k3, d1, -, d2, d3, d4⟩ := Cond.arrayOver_spec hc
  refine ⟨(fun c => (f c).1, fun c => (f c).2), (c1, c2, c3), hf, fun k q hq => ?_⟩
  match k, hq with
  | 0, hq => cases hq; exact ⟨fun n z => ⟨fun k h => (by cases h), k1, a2, p1, a3⟩, a1⟩
  | 1, hq => cases hq; exact ⟨fun n z => ⟨fun k h => (by cases h), k2, b2, p2, b3⟩, b1⟩
  | 2, hq => cases hq; exact ⟨fun n z => ⟨fun k h => (by cases h), k3, d2, p3, d3⟩, k3, p3, d2, d3, d1, d4⟩
  | k + 3, hq => simp at hq
theorem st_N {s : State} {b : Nat} (hts : ∀ w ∈ lw_tbl, w.before #[Value.ref b] s = true) : Nst s :=
  ⟨
    va_Nw.of rfl (A := #[Value.ref b]) (hts _ (tbm 28 (by decide +kernel))),
    va_Nw.of rfl (A := #[Value.ref b]) (hts _ (tbm 154 (by decide +kernel))),
    va_Nw.of rfl (A := #[Value.ref b]) (hts _ (tbm 226 (by decide +kernel))),
    va_Nw.of rfl (A := #[Value.ref b]) (hts _ (tbm 254 (by decide +kernel))),
    va_Nw.of rfl (A := #[Value.ref b]) (hts _ (tbm 274 (by decide +kernel))),
    va_AO.of (A := #[Value.ref b]) (hts _ (tbm 218 (by decide +kernel)))⟩
def stP (s : State) (b : Nat) : Prop := ∃ sa : Nat → Nat, sa 40 = b ∧ vk_S 9 tLen tByt sa (fun i => sa (20 + i)) (fun q => s.heap.size ≤ q) s s.heap ∧ (∀ i, i < 9 → vk_R RX3 (tIdx.getD i 0) (tTxt.getD i "") (sa i) s) ∧ va_Z "java/lang/String" "COMPACT_STRINGS" "Z" (.int 1) (fun q => s.heap.size ≤ q) s s.heap ∧ (va_Z "jdk/internal/util/Preconditions" "SIOOBE_FORMATTER" "Ljava/util/function/BiFunction;" .null (fun q => s.heap.size ≤ q) s s.heap ∨ va_Z "jdk/internal/util/Preconditions" "SIOOBE_FORMATTER" "Ljava/util/function/BiFunction;" (.ref (sa 10)) (fun q => s.heap.size ≤ q) s s.heap)
theorem st_S {s : State} {b : Nat} (hts : ∀ w ∈ lw_tbl, w.before #[Value.ref b] s = true) (hg : (Jvm.Cond.and given_1 narrow_1).before #[Value.ref b] s = true) : stP s b := by
  have hs := flat_of_before _ hg
  have hA : ∀ a : Nat, a < s.heap.size → ¬ (fun q : Nat => s.heap.size ≤ q) a := fun a h => Nat.not_le.mpr h
  obtain ⟨adK, adV, hS, hE⟩ := vk_Sof (args := #[Value.ref b]) (s := s) (N := 9) (tm := fun i => .string RX3 (tIdx.getD i 0)) (len := tLen) (byt := tByt) (A := fun q => s.heap.size ≤ q) (by decide) (fun i hi => hs _ (g_ex i hi)) (fun i hi => hs _ (g_co i hi)) (fun i hi => hs _ (g_ar i hi)) (fun i hi => hs _ (g_le i hi)) (fun i hi j hj => hs _ (g_el i hi j hj)) (fun i j hi hj hij => (g_ne i hi j hj hij).elim (fun h => Or.inl (hs _ h)) (fun h => Or.inr (hs _ h))) hA
  have hC := va_Zof (v := .int 1) (A := fun q => s.heap.size ≤ q) (hts (.laysStatic "java/lang/String" "COMPACT_STRINGS" "Z") (tbm 373 (by decide +kernel))) (hts (.initialized "java/lang/String") (tbm 12 (by decide +kernel))) (va_eqt (hs _ g_cs)) hA
  have hF := va_Zqof (A := fun q => s.heap.size ≤ q) (hts (.laysStatic "jdk/internal/util/Preconditions" "SIOOBE_FORMATTER" "Ljava/util/function/BiFunction;") (tbm 389 (by decide +kernel))) (hts (.initialized "jdk/internal/util/Preconditions") (tbm 14 (by decide +kernel))) (hs _ g_fm) hA
  have key : ∀ t : Nat, (va_Z "jdk/internal/util/Preconditions" "SIOOBE_FORMATTER" "Ljava/util/function/BiFunction;" .null (fun q => s.heap.size ≤ q) s s.heap ∨ va_Z "jdk/internal/util/Preconditions" "SIOOBE_FORMATTER" "Ljava/util/function/BiFunction;" (.ref t) (fun q => s.heap.size ≤ q) s s.heap) → stP s b := fun t ht => by
    refine ⟨fun k => if k < 9 then adK k else if k = 10 then t else if k = 40 then b else adV (k - 20), rfl, ⟨fun i hi => ?_, fun i j hi hj => ?_⟩, fun i hi => ?_, hC, ht⟩
    · have e1 : (if i < 9 then adK i else if i = 10 then t else if i = 40 then b else adV (i - 20)) = adK i := if_pos hi
      have e2 : (if 20 + i < 9 then adK (20 + i) else if 20 + i = 10 then t else if 20 + i = 40 then b else adV (20 + i - 20)) = adV i := by
        rw [if_neg (by omega), if_neg (by omega), if_neg (by omega), show 20 + i - 20 = i by omega]
      show va_O _ (if i < 9 then adK i else if i = 10 then t else if i = 40 then b else adV (i - 20)) _ _ _ ∧ va_OF _ _ _ _ (if i < 9 then adK i else if i = 10 then t else if i = 40 then b else adV (i - 20)) _ _ _ ∧ va_OF _ _ _ (.ref (if 20 + i < 9 then adK (20 + i) else if 20 + i = 10 then t else if 20 + i = 40 then b else adV (20 + i - 20))) (if i < 9 then adK i else if i = 10 then t else if i = 40 then b else adV (i - 20)) _ _ _ ∧ va_T _ (if 20 + i < 9 then adK (20 + i) else if 20 + i = 10 then t else if 20 + i = 40 then b else adV (20 + i - 20)) _ _ _ _ _
      rw [e1, e2]
      exact hS.1 i hi
    · show (if i < 9 then adK i else _) = (if j < 9 then adK j else _) → _
      rw [if_pos hi, if_pos hj]
      exact hS.2 i j hi hj
    · show vk_R _ _ _ (if i < 9 then adK i else _) s
      rw [if_pos hi]
      exact vk_R.of (hts _ (g_sr i hi)) (hE i hi)
  rcases hF with h | ⟨t, h⟩
  · exact key 0 (Or.inl h)
  · exact key t (Or.inr h)
theorem st_E {s : State} {b : Nat} (hts : ∀ w ∈ lw_tbl, w.before #[Value.ref b] s = true) (hg : (Jvm.Cond.and given_1 narrow_1).before #[Value.ref b] s = true) : ∃ E : EN, eN E = 0 ∧ wE E ∧ eSa E 40 = b ∧ Sta E (fun q => s.heap.size ≤ q) s := by
  obtain ⟨D, cs, hK⟩ := st_K hts
  obtain ⟨sa, h40, hS⟩ := st_S hts hg
  exact ⟨(D, fun _ => 0, sa, cs, 0, fun _ => .inr (0, 0, nG)), rfl, fun c hc => absurd hc (Nat.not_lt_zero c), h40, hK, ⟨fun i j hi => absurd hi (Nat.not_lt_zero i), fun i hi => absurd hi (Nat.not_lt_zero i)⟩, hS⟩
theorem wS_0 : wS S0 ∧ wX S0 := by
  refine ⟨⟨wT_0, ⟨bgC_w wT_0, ?_⟩, ⟨Or.inl rfl, Or.inl rfl⟩, fun z => absurd z (by decide), fun z => absurd z (by decide), Nat.zero_le _, ⟨Nat.zero_le _, fun k x y => absurd (show k < 0 from y) (by omega)⟩, fun k x y => ?_, fun k x y => rfl⟩, fun k x y => absurd (show k < 0 from y) (by omega)⟩
  · show (0 : Int) ≤ 9999; decide
  · show (0 : Int) ≤ 0 ∧ (0 : Int) ≤ 99; decide
