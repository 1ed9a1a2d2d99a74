/-! what is made: facts of the tables; the leaves -/
theorem cl_RL_7 : Cond.classLink RL 7 RX7 ∈ TB := tb_t 18 (by decide +kernel) (by decide +kernel)
theorem nw_RL_7 : NW RL 7 7 [some none, some none, some none, some none, some none, some none, some none, some none, some none] := ⟨RX7, TX7, 9, tyX7, cls7, rfl, tyX7_ok, fun j hj => by
  match j, hj with
  | 0, _ => rfl
  | 1, _ => rfl
  | 2, _ => rfl
  | 3, _ => rfl
  | 4, _ => rfl
  | 5, _ => rfl
  | 6, _ => rfl
  | 7, _ => rfl
  | 8, _ => rfl
  | k + 9, hj => omega, cl_RL_7, tb_t 19 (by decide +kernel) (by decide +kernel), tb_t 1 (by decide +kernel) (by decide +kernel), by decide⟩
theorem cl_RX7_7 : Cond.classLink RX7 7 RX5 ∈ TB := tb_t 26 (by decide +kernel) (by decide +kernel)
theorem nw_RX7_7 : NW RX7 7 5 [some none, none] := ⟨RX5, TX5, 2, tyX5, cls5, rfl, tyX5_ok, fun j hj => by
  match j, hj with
  | 0, _ => rfl
  | 1, _ => rfl
  | k + 2, hj => omega, cl_RX7_7, tb_t 27 (by decide +kernel) (by decide +kernel), tb_t 2 (by decide +kernel) (by decide +kernel), by decide⟩
theorem cl_RX7_16 : Cond.classLink RX7 16 RX6 ∈ TB := tb_t 42 (by decide +kernel) (by decide +kernel)
theorem nw_RX7_16 : NW RX7 16 6 [none, none, none, none, none, some none, some none, some none, some none, some none, some none, some none] := ⟨RX6, TX6, 12, tyX6, cls6, rfl, tyX6_ok, fun j hj => by
  match j, hj with
  | 0, _ => rfl
  | 1, _ => rfl
  | 2, _ => rfl
  | 3, _ => rfl
  | 4, _ => rfl
  | 5, _ => rfl
  | 6, _ => rfl
  | 7, _ => rfl
  | 8, _ => rfl
  | 9, _ => rfl
  | 10, _ => rfl
  | 11, _ => rfl
  | k + 12, hj => omega, cl_RX7_16, tb_t 43 (by decide +kernel) (by decide +kernel), tb_t 3 (by decide +kernel) (by decide +kernel), by decide⟩
theorem cl_RX7_23 : Cond.classLink RX7 23 RX3 ∈ TB := tb_t 122 (by decide +kernel) (by decide +kernel)
theorem nw_RX7_23 : NW RX7 23 3 [some none, some none, none, none, none, none] := ⟨RX3, TX3, 6, tyX3, cls3, rfl, tyX3_ok, fun j hj => by
  match j, hj with
  | 0, _ => rfl
  | 1, _ => rfl
  | 2, _ => rfl
  | 3, _ => rfl
  | 4, _ => rfl
  | 5, _ => rfl
  | k + 6, hj => omega, cl_RX7_23, tb_t 123 (by decide +kernel) (by decide +kernel), tb_t 5 (by decide +kernel) (by decide +kernel), by decide⟩
theorem cl_RX3_9 : Cond.classLink RX3 9 RX6 ∈ TB := tb_t 128 (by decide +kernel) (by decide +kernel)
theorem nw_RX3_9 : NW RX3 9 6 [none, none, none, none, none, some none, some none, some none, some none, some none, some none, some none] := ⟨RX6, TX6, 12, tyX6, cls6, rfl, tyX6_ok, fun j hj => by
  match j, hj with
  | 0, _ => rfl
  | 1, _ => rfl
  | 2, _ => rfl
  | 3, _ => rfl
  | 4, _ => rfl
  | 5, _ => rfl
  | 6, _ => rfl
  | 7, _ => rfl
  | 8, _ => rfl
  | 9, _ => rfl
  | 10, _ => rfl
  | 11, _ => rfl
  | k + 12, hj => omega, cl_RX3_9, tb_t 43 (by decide +kernel) (by decide +kernel), tb_t 3 (by decide +kernel) (by decide +kernel), by decide⟩
theorem cl_RX7_32 : Cond.classLink RX7 32 RX0 ∈ TB := tb_t 152 (by decide +kernel) (by decide +kernel)
theorem nw_RX7_32 : NW RX7 32 0 [none, none, none, none, some none, some none, some none, some none, some none, some none, some none] := ⟨RX0, TX0, 11, tyX0, cls0, rfl, tyX0_ok, fun j hj => by
  match j, hj with
  | 0, _ => rfl
  | 1, _ => rfl
  | 2, _ => rfl
  | 3, _ => rfl
  | 4, _ => rfl
  | 5, _ => rfl
  | 6, _ => rfl
  | 7, _ => rfl
  | 8, _ => rfl
  | 9, _ => rfl
  | 10, _ => rfl
  | k + 11, hj => omega, cl_RX7_32, tb_t 153 (by decide +kernel) (by decide +kernel), tb_t 6 (by decide +kernel) (by decide +kernel), by decide⟩
theorem cl_RX7_51 : Cond.classLink RX7 51 RX2 ∈ TB := tb_t 219 (by decide +kernel) (by decide +kernel)
theorem nw_RX7_51 : NW RX7 51 2 [some none, some none, some none, some none, some none, some none, some none] := ⟨RX2, TX2, 7, tyX2, cls2, rfl, tyX2_ok, fun j hj => by
  match j, hj with
  | 0, _ => rfl
  | 1, _ => rfl
  | 2, _ => rfl
  | 3, _ => rfl
  | 4, _ => rfl
  | 5, _ => rfl
  | 6, _ => rfl
  | k + 7, hj => omega, cl_RX7_51, tb_t 220 (by decide +kernel) (by decide +kernel), tb_t 8 (by decide +kernel) (by decide +kernel), by decide⟩
theorem cl_RX2_9 : Cond.classLink RX2 9 RX0 ∈ TB := tb_t 225 (by decide +kernel) (by decide +kernel)
theorem nw_RX2_9 : NW RX2 9 0 [none, none, none, none, some none, some none, some none, some none, some none, some none, some none] := ⟨RX0, TX0, 11, tyX0, cls0, rfl, tyX0_ok, fun j hj => by
  match j, hj with
  | 0, _ => rfl
  | 1, _ => rfl
  | 2, _ => rfl
  | 3, _ => rfl
  | 4, _ => rfl
  | 5, _ => rfl
  | 6, _ => rfl
  | 7, _ => rfl
  | 8, _ => rfl
  | 9, _ => rfl
  | 10, _ => rfl
  | k + 11, hj => omega, cl_RX2_9, tb_t 153 (by decide +kernel) (by decide +kernel), tb_t 6 (by decide +kernel) (by decide +kernel), by decide⟩
theorem cl_RX7_60 : Cond.classLink RX7 60 RX4 ∈ TB := tb_t 252 (by decide +kernel) (by decide +kernel)
theorem nw_RX7_60 : NW RX7 60 4 [none, some none, some none, some none] := ⟨RX4, TX4, 4, tyX4, cls4, rfl, tyX4_ok, fun j hj => by
  match j, hj with
  | 0, _ => rfl
  | 1, _ => rfl
  | 2, _ => rfl
  | 3, _ => rfl
  | k + 4, hj => omega, cl_RX7_60, tb_t 253 (by decide +kernel) (by decide +kernel), tb_t 9 (by decide +kernel) (by decide +kernel), by decide⟩
theorem cl_RX7_67 : Cond.classLink RX7 67 RX1 ∈ TB := tb_t 272 (by decide +kernel) (by decide +kernel)
theorem nw_RX7_67 : NW RX7 67 1 [some none] := ⟨RX1, TX1, 1, tyX1, cls1, rfl, tyX1_ok, fun j hj => by
  match j, hj with
  | 0, _ => rfl
  | k + 1, hj => omega, cl_RX7_67, tb_t 273 (by decide +kernel) (by decide +kernel), tb_t 10 (by decide +kernel) (by decide +kernel), by decide⟩
theorem cl_RL_10 : Cond.classLink RL 10 RX8 ∈ TB := tb_t 773 (by decide +kernel) (by decide +kernel)
theorem nw_RL_10 : NW RL 10 8 [some none, some none, some none, none, some none, none, none, some none, some none, some none, none, some none, none, none, none, none, none, none, none, none, some none, some none, some none, none, some none] := ⟨RX8, TX8, 25, tyX8, cls8, rfl, tyX8_ok, fun j hj => by
  match j, hj with
  | 0, _ => rfl
  | 1, _ => rfl
  | 2, _ => rfl
  | 3, _ => rfl
  | 4, _ => rfl
  | 5, _ => rfl
  | 6, _ => rfl
  | 7, _ => rfl
  | 8, _ => rfl
  | 9, _ => rfl
  | 10, _ => rfl
  | 11, _ => rfl
  | 12, _ => rfl
  | 13, _ => rfl
  | 14, _ => rfl
  | 15, _ => rfl
  | 16, _ => rfl
  | 17, _ => rfl
  | 18, _ => rfl
  | 19, _ => rfl
  | 20, _ => rfl
  | 21, _ => rfl
  | 22, _ => rfl
  | 23, _ => rfl
  | 24, _ => rfl
  | k + 25, hj => omega, cl_RL_10, tb_t 774 (by decide +kernel) (by decide +kernel), tb_t 11 (by decide +kernel) (by decide +kernel), by decide⟩
theorem fr0_4 : FRf RX0 0 4 := ⟨RX0, TX0, 11, .array .int, rfl, rfl, by decide +kernel, fun a => ⟨rfl, rfl⟩, rfl⟩
theorem fr0_5 : FRf RX0 0 5 := ⟨RX0, TX0, 11, .array .int, rfl, rfl, by decide +kernel, fun a => ⟨rfl, rfl⟩, rfl⟩
theorem fr0_6 : FRf RX0 0 6 := ⟨RX0, TX0, 11, .array .int, rfl, rfl, by decide +kernel, fun a => ⟨rfl, rfl⟩, rfl⟩
theorem fr0_7 : FRf RX0 0 7 := ⟨RX0, TX0, 11, .array .int, rfl, rfl, by decide +kernel, fun a => ⟨rfl, rfl⟩, rfl⟩
theorem fr0_8 : FRf RX0 0 8 := ⟨RX0, TX0, 11, .array .int, rfl, rfl, by decide +kernel, fun a => ⟨rfl, rfl⟩, rfl⟩
theorem fr0_9 : FRf RX0 0 9 := ⟨RX0, TX0, 11, .array .int, rfl, rfl, by decide +kernel, fun a => ⟨rfl, rfl⟩, rfl⟩
theorem fr0_10 : FRf RX0 0 10 := ⟨RX0, TX0, 11, .array .int, rfl, rfl, by decide +kernel, fun a => ⟨rfl, rfl⟩, rfl⟩
theorem fr1_0 : FRf RX1 1 0 := ⟨RX1, TX1, 1, .array .int, rfl, rfl, by decide +kernel, fun a => ⟨rfl, rfl⟩, rfl⟩
theorem fr2_0 : FRf RX2 2 0 := ⟨RX2, TX2, 7, .object "SugarStamps$Told", rfl, rfl, by decide +kernel, fun a => ⟨rfl, rfl⟩, rfl⟩
theorem fr2_1 : FRf RX2 2 1 := ⟨RX2, TX2, 7, .object "SugarStamps$Course", rfl, rfl, by decide +kernel, fun a => ⟨rfl, rfl⟩, rfl⟩
theorem fr2_2 : FRf RX2 2 2 := ⟨RX2, TX2, 7, .object "SugarStamps$Course", rfl, rfl, by decide +kernel, fun a => ⟨rfl, rfl⟩, rfl⟩
theorem fr2_3 : FRf RX2 2 3 := ⟨RX2, TX2, 7, .array .int, rfl, rfl, by decide +kernel, fun a => ⟨rfl, rfl⟩, rfl⟩
theorem fr2_4 : FRf RX2 2 4 := ⟨RX2, TX2, 7, .array .int, rfl, rfl, by decide +kernel, fun a => ⟨rfl, rfl⟩, rfl⟩
theorem fr2_5 : FRf RX2 2 5 := ⟨RX2, TX2, 7, .array .int, rfl, rfl, by decide +kernel, fun a => ⟨rfl, rfl⟩, rfl⟩
theorem fr2_6 : FRf RX2 2 6 := ⟨RX2, TX2, 7, .array .int, rfl, rfl, by decide +kernel, fun a => ⟨rfl, rfl⟩, rfl⟩
theorem fr3_0 : FRf RX3 3 0 := ⟨RX3, TX3, 6, .object "SugarStamps$Text", rfl, rfl, by decide +kernel, fun a => ⟨rfl, rfl⟩, rfl⟩
theorem fr3_1 : FRf RX3 3 1 := ⟨RX3, TX3, 6, .object "SugarStamps$Told", rfl, rfl, by decide +kernel, fun a => ⟨rfl, rfl⟩, rfl⟩
theorem fr4_1 : FRf RX4 4 1 := ⟨RX4, TX4, 4, .array .int, rfl, rfl, by decide +kernel, fun a => ⟨rfl, rfl⟩, rfl⟩
theorem fr4_2 : FRf RX4 4 2 := ⟨RX4, TX4, 4, .array .int, rfl, rfl, by decide +kernel, fun a => ⟨rfl, rfl⟩, rfl⟩
theorem fr4_3 : FRf RX4 4 3 := ⟨RX4, TX4, 4, .array .int, rfl, rfl, by decide +kernel, fun a => ⟨rfl, rfl⟩, rfl⟩
theorem fr5_0 : FRf RX5 5 0 := ⟨RX5, TX5, 2, .array .int, rfl, rfl, by decide +kernel, fun a => ⟨rfl, rfl⟩, rfl⟩
theorem fr6_5 : FRf RX6 6 5 := ⟨RX6, TX6, 12, .array .int, rfl, rfl, by decide +kernel, fun a => ⟨rfl, rfl⟩, rfl⟩
theorem fr6_6 : FRf RX6 6 6 := ⟨RX6, TX6, 12, .array .int, rfl, rfl, by decide +kernel, fun a => ⟨rfl, rfl⟩, rfl⟩
theorem fr6_7 : FRf RX6 6 7 := ⟨RX6, TX6, 12, .array .int, rfl, rfl, by decide +kernel, fun a => ⟨rfl, rfl⟩, rfl⟩
theorem fr6_8 : FRf RX6 6 8 := ⟨RX6, TX6, 12, .array .int, rfl, rfl, by decide +kernel, fun a => ⟨rfl, rfl⟩, rfl⟩
theorem fr6_9 : FRf RX6 6 9 := ⟨RX6, TX6, 12, .array .int, rfl, rfl, by decide +kernel, fun a => ⟨rfl, rfl⟩, rfl⟩
theorem fr6_10 : FRf RX6 6 10 := ⟨RX6, TX6, 12, .array .int, rfl, rfl, by decide +kernel, fun a => ⟨rfl, rfl⟩, rfl⟩
theorem fr6_11 : FRf RX6 6 11 := ⟨RX6, TX6, 12, .array .int, rfl, rfl, by decide +kernel, fun a => ⟨rfl, rfl⟩, rfl⟩
theorem fr7_0 : FRf RX7 7 0 := ⟨RX7, TX7, 9, .object "SugarStamps$Text", rfl, rfl, by decide +kernel, fun a => ⟨rfl, rfl⟩, rfl⟩
theorem fr7_1 : FRf RX7 7 1 := ⟨RX7, TX7, 9, .object "SugarStamps$Told", rfl, rfl, by decide +kernel, fun a => ⟨rfl, rfl⟩, rfl⟩
theorem fr7_2 : FRf RX7 7 2 := ⟨RX7, TX7, 9, .object "SugarStamps$Reader", rfl, rfl, by decide +kernel, fun a => ⟨rfl, rfl⟩, rfl⟩
theorem fr7_3 : FRf RX7 7 3 := ⟨RX7, TX7, 9, .object "SugarStamps$Course", rfl, rfl, by decide +kernel, fun a => ⟨rfl, rfl⟩, rfl⟩
theorem fr7_4 : FRf RX7 7 4 := ⟨RX7, TX7, 9, .array (.object "SugarStamps$Course"), rfl, rfl, by decide +kernel, fun a => ⟨rfl, rfl⟩, rfl⟩
theorem fr7_5 : FRf RX7 7 5 := ⟨RX7, TX7, 9, .array .boolean, rfl, rfl, by decide +kernel, fun a => ⟨rfl, rfl⟩, rfl⟩
theorem fr7_6 : FRf RX7 7 6 := ⟨RX7, TX7, 9, .object "SugarStamps$Foresight", rfl, rfl, by decide +kernel, fun a => ⟨rfl, rfl⟩, rfl⟩
theorem fr7_7 : FRf RX7 7 7 := ⟨RX7, TX7, 9, .object "SugarStamps$Sightings", rfl, rfl, by decide +kernel, fun a => ⟨rfl, rfl⟩, rfl⟩
theorem fr7_8 : FRf RX7 7 8 := ⟨RX7, TX7, 9, .object "SugarStamps$Crumbs", rfl, rfl, by decide +kernel, fun a => ⟨rfl, rfl⟩, rfl⟩
theorem fr8_0 : FRf RX8 8 0 := ⟨RX8, TX8, 25, .array .int, rfl, rfl, by decide +kernel, fun a => ⟨rfl, rfl⟩, rfl⟩
theorem fr8_1 : FRf RX8 8 1 := ⟨RX8, TX8, 25, .array .boolean, rfl, rfl, by decide +kernel, fun a => ⟨rfl, rfl⟩, rfl⟩
theorem fr8_2 : FRf RX8 8 2 := ⟨RX8, TX8, 25, .array .int, rfl, rfl, by decide +kernel, fun a => ⟨rfl, rfl⟩, rfl⟩
theorem fr8_4 : FRf RX8 8 4 := ⟨RX8, TX8, 25, .array .int, rfl, rfl, by decide +kernel, fun a => ⟨rfl, rfl⟩, rfl⟩
theorem fr8_7 : FRf RX8 8 7 := ⟨RX8, TX8, 25, .array .int, rfl, rfl, by decide +kernel, fun a => ⟨rfl, rfl⟩, rfl⟩
theorem fr8_8 : FRf RX8 8 8 := ⟨RX8, TX8, 25, .array .int, rfl, rfl, by decide +kernel, fun a => ⟨rfl, rfl⟩, rfl⟩
theorem fr8_9 : FRf RX8 8 9 := ⟨RX8, TX8, 25, .array .int, rfl, rfl, by decide +kernel, fun a => ⟨rfl, rfl⟩, rfl⟩
theorem fr8_11 : FRf RX8 8 11 := ⟨RX8, TX8, 25, .array .int, rfl, rfl, by decide +kernel, fun a => ⟨rfl, rfl⟩, rfl⟩
theorem fr8_20 : FRf RX8 8 20 := ⟨RX8, TX8, 25, .array .int, rfl, rfl, by decide +kernel, fun a => ⟨rfl, rfl⟩, rfl⟩
theorem fr8_21 : FRf RX8 8 21 := ⟨RX8, TX8, 25, .array .int, rfl, rfl, by decide +kernel, fun a => ⟨rfl, rfl⟩, rfl⟩
theorem fr8_22 : FRf RX8 8 22 := ⟨RX8, TX8, 25, .array .int, rfl, rfl, by decide +kernel, fun a => ⟨rfl, rfl⟩, rfl⟩
theorem fr8_24 : FRf RX8 8 24 := ⟨RX8, TX8, 25, .array .int, rfl, rfl, by decide +kernel, fun a => ⟨rfl, rfl⟩, rfl⟩
theorem oi_RX7 : Cond.methodLink RX7 1 Lib.objectInit ∈ TB := tb_t 23 (by decide +kernel) (by decide +kernel)
theorem oi_RX5 : Cond.methodLink RX5 3 Lib.objectInit ∈ TB := tb_t 31 (by decide +kernel) (by decide +kernel)
theorem oi_RX6 : Cond.methodLink RX6 3 Lib.objectInit ∈ TB := tb_t 47 (by decide +kernel) (by decide +kernel)
theorem oi_RX3 : Cond.methodLink RX3 3 Lib.objectInit ∈ TB := tb_t 127 (by decide +kernel) (by decide +kernel)
theorem oi_RX0 : Cond.methodLink RX0 3 Lib.objectInit ∈ TB := tb_t 157 (by decide +kernel) (by decide +kernel)
theorem oi_RX2 : Cond.methodLink RX2 3 Lib.objectInit ∈ TB := tb_t 224 (by decide +kernel) (by decide +kernel)
theorem oi_RX4 : Cond.methodLink RX4 3 Lib.objectInit ∈ TB := tb_t 257 (by decide +kernel) (by decide +kernel)
theorem oi_RX1 : Cond.methodLink RX1 3 Lib.objectInit ∈ TB := tb_t 277 (by decide +kernel) (by decide +kernel)
theorem oi_RX8 : Cond.methodLink RX8 1 Lib.objectInit ∈ TB := tb_t 778 (by decide +kernel) (by decide +kernel)
theorem T0_w : True := trivial
/-- what is told at first -/
def fz : Fn := fun _ => 0
def T0 : TD := (2, 0, 0, 1, 0, fz, fz, fz, fz, fz, fz, fz)
theorem wT_0 : wT T0 := by
  refine ⟨⟨by decide, by decide, by decide, by decide, by decide, by decide, by decide, by decide⟩, fun k _ _ => ?_, fun k x y => ?_, fun k x y => ?_⟩
  · show (0 : Int) ≤ 0 ∧ (0 : Int) ≤ 3; decide
  · have y : k < ((0 : Nat) : Int) := y; omega
  · have y : k < ((0 : Nat) : Int) := y; omega
theorem told_end (M : Mem) (t : Nat) : rT (flm (upm (upm (upm (upm (upm M t 0 2) t 1 0) t 2 0) t 3 1) t 4 0) (t + 1) 8 0) t T0 ∧ ∀ c k, c < t ∨ t + 8 ≤ c → flm (upm (upm (upm (upm (upm M t 0 2) t 1 0) t 2 0) t 3 1) t 4 0) (t + 1) 8 0 c k = M c k := by
  have e0 : ∀ k : Int, flm (upm (upm (upm (upm (upm M t 0 2) t 1 0) t 2 0) t 3 1) t 4 0) (t + 1) 8 0 t k = upm (upm (upm (upm (upm M t 0 2) t 1 0) t 2 0) t 3 1) t 4 0 t k := fun k => by rw [flm_o (by omega)]
  refine ⟨⟨⟨?_, ?_, ?_, ?_, ?_⟩, fun k a b => ?_, fun k a b => ?_, fun k a b => ?_⟩, fun c k hc => by rw [flm_o (by omega), upm_c (by omega), upm_c (by omega), upm_c (by omega), upm_c (by omega), upm_c (by omega)]⟩
  · rw [e0, upm_k (by omega), upm_k (by omega), upm_k (by omega), upm_k (by omega), upm_s]; rfl
  · rw [e0, upm_k (by omega), upm_k (by omega), upm_k (by omega), upm_s]; rfl
  · rw [e0, upm_k (by omega), upm_k (by omega), upm_s]; rfl
  · rw [e0, upm_k (by omega), upm_s]; rfl
  · rw [e0, upm_s]; rfl
  · rw [flm_i (by omega) (by omega)]; rfl
  · have b : k < ((0 : Nat) : Int) := b; omega
  · have b : k < ((0 : Nat) : Int) := b; omega
set_option maxRecDepth 100000 in
set_option maxHeartbeats 4000000 in
theorem i_txt {E : EN} {l : Launch} {M : Mem} {t : Nat} (hn : eN E = t + 1) (hw : wE E) (a0 : At E t (.inl (5, [some none, none]))) (hz0 : ∀ c k, t ≤ c → M c k = 0) : CnI E l mX5_init 1 1 200 [vR t] M (fun E' M' => eN E' = t + 2 ∧ isTxt E' t ∧ (∀ c sh, c < t → At E c sh → At E' c sh) ∧ (∀ c k, c < t ∨ t + 2 ≤ c → M' c k = M c k) ∧ M' t 1 = 0) := by
  refine CnI.of (by decide) rfl rfl (Nat.le_of_ble_eq_true rfl) 0 rfl (fun oka okm sz G hR => ?_)
  have hx := xt_r (E := E)
  have hup : ∀ c sh, c < t → At E c sh → At E c sh := fun c sh _ h => h
  have hz : ∀ c k, t < c → M c k = 0 := fun c k hc => hz0 c k (by omega)
  refine A_aload_n dX5_init_0 rfl ?_
  refine A_objI dX5_init_1 (hR.rm (by decide) (by decide)) (by decide) oi_RX5 rfl ?_
  refine A_aload_n dX5_init_4 rfl ?_
  refine A_sipush dX5_init_5 sp_200 (by decide) ?_
  refine A_newI (n := t + 1) (N := 200) dX5_init_8 rfl (by decide) hn hw (fun k => hz _ _ (by omega)) hR.fr (hR.c (by decide)) (hR.s (by decide)) (bn_c (by show _ < _; omega) bn_n) (bn_c (by show _ < _; omega) bn_n) (fun E1 x1 (n1 : eN E1 = t + 2) b1 u1 w1 => ?_)
  replace hx := xt_t hx x1
  replace a0 := u1 _ _ a0
  replace hup : ∀ c sh, c < t → At E c sh → At E1 c sh := fun c sh hc h => u1 c sh (hup c sh hc h)
  have a1 : At E1 (t + 1) (aI 200 nG) := b1
  replace hn := n1
  replace hw := w1
  clear n1 w1 u1 b1 x1
  refine A_putF dX5_init_10 fl_RX5_9 fr5_0 a0 hn (by omega) (Nat.le_of_ble_eq_true rfl) hw hR.2.2.2.2.2.2 (fun E2 x2 (n2 : eN E2 = t + 2) b2 u2 w2 => ?_)
  replace hx := xt_t hx x2
  replace a1 := u2 _ _ (by omega) a1
  replace hup : ∀ c sh, c < t → At E c sh → At E2 c sh := fun c sh hc h => u2 c sh (by omega) (hup c sh hc h)
  replace a0 : At E2 (t) (.inl (5, [rf (t + 1), none])) := b2
  replace hn := n2
  replace hw := w2
  clear n2 w2 u2 b2 x2
  refine A_aload_n dX5_init_13 rfl ?_
  refine A_iconst dX5_init_14 (by decide) ?_
  refine A_putI (ki := 1) dX5_init_15 fl_RX5_15 fi5_1 a0 (by rfl) rfl (fun M3 e3 k3 => ?_)
  replace hz : ∀ c k, t < c → M3 c k = 0 := fun c k hc => by rw [e3, upm_c (by omega)]; exact hz c k hc
  refine A_iend hR hx hw dX5_init_18 rfl ?_
  exact ⟨hn, ⟨a0, a1⟩, hup, fun c k hc => by rw [e3, upm_c (by omega)], by rw [e3, upm_s]⟩

set_option maxRecDepth 100000 in
set_option maxHeartbeats 4000000 in
theorem i_sgt {E : EN} {l : Launch} {M : Mem} {t : Nat} (hn : eN E = t + 1) (hw : wE E) (a0 : At E t (.inl (4, [none, some none, some none, some none]))) (hz0 : ∀ c k, t ≤ c → M c k = 0) : CnI E l mX4_init 1 3 18 [vR t] M (fun E' M' => eN E' = t + 4 ∧ isSgt E' t ∧ (∀ c sh, c < t → At E c sh → At E' c sh) ∧ (∀ c k, c < t ∨ t + 4 ≤ c → M' c k = M c k) ∧ M' t 0 = 0) := by
  refine CnI.of (by decide) rfl rfl (Nat.le_of_ble_eq_true rfl) 0 rfl (fun oka okm sz G hR => ?_)
  have hx := xt_r (E := E)
  have hup : ∀ c sh, c < t → At E c sh → At E c sh := fun c sh _ h => h
  have hz : ∀ c k, t < c → M c k = 0 := fun c k hc => hz0 c k (by omega)
  refine A_aload_n dX4_init_0 rfl ?_
  refine A_objI dX4_init_1 (hR.rm (by decide) (by decide)) (by decide) oi_RX4 rfl ?_
  refine A_aload_n dX4_init_4 rfl ?_
  refine A_iconst dX4_init_5 (by decide) ?_
  refine A_putI (ki := 0) dX4_init_6 fl_RX4_9 fi4_0 a0 (by rfl) rfl (fun M1 e1 k1 => ?_)
  replace hz : ∀ c k, t < c → M1 c k = 0 := fun c k hc => by rw [e1, upm_c (by omega)]; exact hz c k hc
  refine A_aload_n dX4_init_9 rfl ?_
  refine A_bipush dX4_init_10 bp_6 (by decide) ?_
  refine A_newI (n := t + 1) (N := 6) dX4_init_12 rfl (by decide) hn hw (fun k => hz _ _ (by omega)) hR.fr (hR.c (by decide)) (hR.s (by decide)) (bn_c (by show _ < _; omega) bn_n) (bn_c (by show _ < _; omega) bn_n) (fun E2 x2 (n2 : eN E2 = t + 2) b2 u2 w2 => ?_)
  replace hx := xt_t hx x2
  replace a0 := u2 _ _ a0
  replace hup : ∀ c sh, c < t → At E c sh → At E2 c sh := fun c sh hc h => u2 c sh (hup c sh hc h)
  have a1 : At E2 (t + 1) (aI 6 nG) := b2
  replace hn := n2
  replace hw := w2
  clear n2 w2 u2 b2 x2
  refine A_putF dX4_init_14 fl_RX4_15 fr4_1 a0 hn (by omega) (Nat.le_of_ble_eq_true rfl) hw hR.2.2.2.2.2.2 (fun E3 x3 (n3 : eN E3 = t + 2) b3 u3 w3 => ?_)
  replace hx := xt_t hx x3
  replace a1 := u3 _ _ (by omega) a1
  replace hup : ∀ c sh, c < t → At E c sh → At E3 c sh := fun c sh hc h => u3 c sh (by omega) (hup c sh hc h)
  replace a0 : At E3 (t) (.inl (4, [none, rf (t + 1), some none, some none])) := b3
  replace hn := n3
  replace hw := w3
  clear n3 w3 u3 b3 x3
  refine A_aload_n dX4_init_17 rfl ?_
  refine A_bipush dX4_init_18 bp_6 (by decide) ?_
  refine A_newI (n := t + 2) (N := 6) dX4_init_20 rfl (by decide) hn hw (fun k => hz _ _ (by omega)) hR.fr (hR.c (by decide)) (hR.s (by decide)) (bn_c (by show _ < _; omega) bn_n) (bn_c (by show _ < _; omega) bn_n) (fun E4 x4 (n4 : eN E4 = t + 3) b4 u4 w4 => ?_)
  replace hx := xt_t hx x4
  replace a0 := u4 _ _ a0
  replace a1 := u4 _ _ a1
  replace hup : ∀ c sh, c < t → At E c sh → At E4 c sh := fun c sh hc h => u4 c sh (hup c sh hc h)
  have a2 : At E4 (t + 2) (aI 6 nG) := b4
  replace hn := n4
  replace hw := w4
  clear n4 w4 u4 b4 x4
  refine A_putF dX4_init_22 fl_RX4_19 fr4_2 a0 hn (by omega) (Nat.le_of_ble_eq_true rfl) hw hR.2.2.2.2.2.2 (fun E5 x5 (n5 : eN E5 = t + 3) b5 u5 w5 => ?_)
  replace hx := xt_t hx x5
  replace a1 := u5 _ _ (by omega) a1
  replace a2 := u5 _ _ (by omega) a2
  replace hup : ∀ c sh, c < t → At E c sh → At E5 c sh := fun c sh hc h => u5 c sh (by omega) (hup c sh hc h)
  replace a0 : At E5 (t) (.inl (4, [none, rf (t + 1), rf (t + 2), some none])) := b5
  replace hn := n5
  replace hw := w5
  clear n5 w5 u5 b5 x5
  refine A_aload_n dX4_init_25 rfl ?_
  refine A_bipush dX4_init_26 bp_6 (by decide) ?_
  refine A_newI (n := t + 3) (N := 6) dX4_init_28 rfl (by decide) hn hw (fun k => hz _ _ (by omega)) hR.fr (hR.c (by decide)) (hR.s (by decide)) (bn_c (by show _ < _; omega) bn_n) (bn_c (by show _ < _; omega) bn_n) (fun E6 x6 (n6 : eN E6 = t + 4) b6 u6 w6 => ?_)
  replace hx := xt_t hx x6
  replace a0 := u6 _ _ a0
  replace a1 := u6 _ _ a1
  replace a2 := u6 _ _ a2
  replace hup : ∀ c sh, c < t → At E c sh → At E6 c sh := fun c sh hc h => u6 c sh (hup c sh hc h)
  have a3 : At E6 (t + 3) (aI 6 nG) := b6
  replace hn := n6
  replace hw := w6
  clear n6 w6 u6 b6 x6
  refine A_putF dX4_init_30 fl_RX4_22 fr4_3 a0 hn (by omega) (Nat.le_of_ble_eq_true rfl) hw hR.2.2.2.2.2.2 (fun E7 x7 (n7 : eN E7 = t + 4) b7 u7 w7 => ?_)
  replace hx := xt_t hx x7
  replace a1 := u7 _ _ (by omega) a1
  replace a2 := u7 _ _ (by omega) a2
  replace a3 := u7 _ _ (by omega) a3
  replace hup : ∀ c sh, c < t → At E c sh → At E7 c sh := fun c sh hc h => u7 c sh (by omega) (hup c sh hc h)
  replace a0 : At E7 (t) (.inl (4, [none, rf (t + 1), rf (t + 2), rf (t + 3)])) := b7
  replace hn := n7
  replace hw := w7
  clear n7 w7 u7 b7 x7
  refine A_iend hR hx hw dX4_init_33 rfl ?_
  exact ⟨hn, ⟨a0, a1, a2, a3⟩, hup, fun c k hc => by rw [e1, upm_c (by omega)], by rw [e1, upm_s]⟩

set_option maxRecDepth 100000 in
set_option maxHeartbeats 4000000 in
theorem i_crm {E : EN} {l : Launch} {M : Mem} {t : Nat} (hn : eN E = t + 1) (hw : wE E) (a0 : At E t (.inl (1, [some none]))) (hz0 : ∀ c k, t ≤ c → M c k = 0) : CnI E l mX1_init 1 1 8 [vR t] M (fun E' M' => eN E' = t + 2 ∧ isCrm E' t ∧ (∀ c sh, c < t → At E c sh → At E' c sh) ∧ (∀ c k, c < t ∨ t + 2 ≤ c → M' c k = M c k) ∧ ∀ k, M' (t + 1) k = 0) := by
  refine CnI.of (by decide) rfl rfl (Nat.le_of_ble_eq_true rfl) 0 rfl (fun oka okm sz G hR => ?_)
  have hx := xt_r (E := E)
  have hup : ∀ c sh, c < t → At E c sh → At E c sh := fun c sh _ h => h
  have hz : ∀ c k, t < c → M c k = 0 := fun c k hc => hz0 c k (by omega)
  refine A_aload_n dX1_init_0 rfl ?_
  refine A_objI dX1_init_1 (hR.rm (by decide) (by decide)) (by decide) oi_RX1 rfl ?_
  refine A_aload_n dX1_init_4 rfl ?_
  refine A_bipush dX1_init_5 bp_8 (by decide) ?_
  refine A_newI (n := t + 1) (N := 8) dX1_init_7 rfl (by decide) hn hw (fun k => hz _ _ (by omega)) hR.fr (hR.c (by decide)) (hR.s (by decide)) (bn_c (by show _ < _; omega) bn_n) (bn_c (by show _ < _; omega) bn_n) (fun E1 x1 (n1 : eN E1 = t + 2) b1 u1 w1 => ?_)
  replace hx := xt_t hx x1
  replace a0 := u1 _ _ a0
  replace hup : ∀ c sh, c < t → At E c sh → At E1 c sh := fun c sh hc h => u1 c sh (hup c sh hc h)
  have a1 : At E1 (t + 1) (aI 8 nG) := b1
  replace hn := n1
  replace hw := w1
  clear n1 w1 u1 b1 x1
  refine A_putF dX1_init_9 fl_RX1_9 fr1_0 a0 hn (by omega) (Nat.le_of_ble_eq_true rfl) hw hR.2.2.2.2.2.2 (fun E2 x2 (n2 : eN E2 = t + 2) b2 u2 w2 => ?_)
  replace hx := xt_t hx x2
  replace a1 := u2 _ _ (by omega) a1
  replace hup : ∀ c sh, c < t → At E c sh → At E2 c sh := fun c sh hc h => u2 c sh (by omega) (hup c sh hc h)
  replace a0 : At E2 (t) (.inl (1, [rf (t + 1)])) := b2
  replace hn := n2
  replace hw := w2
  clear n2 w2 u2 b2 x2
  refine A_iend hR hx hw dX1_init_12 rfl ?_
  exact ⟨hn, ⟨a0, a1⟩, hup, fun _ _ _ => rfl, fun k => hz _ _ (by omega)⟩

