/-! ===== the start: what the tables give; the world behind both constructors; the relation there ===== -/
set_option maxRecDepth 20000 in
theorem jq_inF : ∀ w ∈ jp_nF.map (fun q => Cond.fieldLinkNest q.1 q.2.1 q.2.2.1 q.2.2.2.1 q.2.2.2.2 "JobSpread"), w ∈ lw_tbl := jw_in [87, 101, 103, 106, 108, 110, 113, 115] (by decide +kernel)
set_option maxRecDepth 20000 in
theorem jq_inM : ∀ w ∈ jp_nM.map (fun q => Cond.methodLinkNest q.1 q.2.1 q.2.2 "JobSpread"), w ∈ lw_tbl := jw_in [81, 96, 178, 186, 189, 190, 199, 211, 223, 228, 233, 238, 242, 243, 252, 276, 330, 341, 349, 353, 367, 371, 385, 390, 402, 407, 421, 445] (by decide +kernel)
theorem jq_N {s : State} {A : Array Value} (hts : ∀ w ∈ lw_tbl, w.before A s = true) : jp_N s := ⟨fun q hq => va_Nw.of rfl (hts _ (jq_inF _ (List.mem_map.mpr ⟨q, hq, rfl⟩))), fun q hq => va_Nw.of rfl (hts _ (jq_inM _ (List.mem_map.mpr ⟨q, hq, rfl⟩)))⟩
theorem jq_i0 : Cond.instantiable RX0 9 ∈ lw_tbl := List.mem_of_getElem? (i := 95) (by decide +kernel)
theorem jq_i1 : Cond.instantiable RX1 2 ∈ lw_tbl := List.mem_of_getElem? (i := 80) (by decide +kernel)
theorem jq_i2 : Cond.instantiable RX2 9 ∈ lw_tbl := List.mem_of_getElem? (i := 72) (by decide +kernel)
theorem jq_i3 : Cond.instantiable RX3 11 ∈ lw_tbl := List.mem_of_getElem? (i := 447) (by decide +kernel)
theorem jq_aI : Cond.arrayClass .int ∈ lw_tbl := List.mem_of_getElem? (i := 93) (by decide +kernel)
theorem jq_aL : Cond.arrayClass .long ∈ lw_tbl := List.mem_of_getElem? (i := 163) (by decide +kernel)
theorem jq_aZ : Cond.arrayClass .boolean ∈ lw_tbl := List.mem_of_getElem? (i := 486) (by decide +kernel)
theorem jq_n2 : Cond.initialized RX2 ∈ lw_tbl := List.mem_of_getElem? (i := 65) (by decide +kernel)
theorem jq_n3 : Cond.initialized RX3 ∈ lw_tbl := List.mem_of_getElem? (i := 68) (by decide +kernel)
theorem jq_c2 : Cond.classLink RL 7 RX2 ∈ lw_tbl := List.mem_of_getElem? (i := 71) (by decide +kernel)
theorem jq_c3 : Cond.classLink RL 10 RX3 ∈ lw_tbl := List.mem_of_getElem? (i := 446) (by decide +kernel)
theorem jq_m2 : Cond.methodLink RL 9 yX2_init ∈ lw_tbl := List.mem_of_getElem? (i := 73) (by decide +kernel)
theorem jq_m3 : Cond.methodLink RL 12 yX3_init ∈ lw_tbl := List.mem_of_getElem? (i := 448) (by decide +kernel)
theorem jq_o2 : Cond.instanceMethod yX2_init ∈ lw_tbl := List.mem_of_getElem? (i := 74) (by decide +kernel)
theorem jq_o3 : Cond.instanceMethod yX3_init ∈ lw_tbl := List.mem_of_getElem? (i := 449) (by decide +kernel)
theorem jq_arrI {s : State} {A : Array Value} (h : (Cond.arrayClass .int).before A s = true) : ∃ cA : ClassId, ArrOfT s cA .int ∧ va_RA s cA .int := by
  obtain ⟨cA, kA, comp, h1, h2, h3⟩ := Cond.arrayClass_spec h
  exact ⟨cA, fun n z => ⟨fun k h => (by cases h), kA, h2, comp, h3⟩, h1⟩
theorem jq_arrL {s : State} {A : Array Value} (h : (Cond.arrayClass .long).before A s = true) : ∃ cA : ClassId, ArrOfT s cA .long ∧ va_RA s cA .long := by
  obtain ⟨cA, kA, comp, h1, h2, h3⟩ := Cond.arrayClass_spec h
  exact ⟨cA, fun n z => ⟨fun k h => (by cases h), kA, h2, comp, h3⟩, h1⟩
theorem jq_arrZ {s : State} {A : Array Value} (h : (Cond.arrayClass .boolean).before A s = true) : ∃ cA : ClassId, ArrOfT s cA .boolean ∧ va_RA s cA .boolean := by
  obtain ⟨cA, kA, comp, h1, h2, h3⟩ := Cond.arrayClass_spec h
  exact ⟨cA, fun n z => ⟨fun k h => (by cases h), kA, h2, comp, h3⟩, h1⟩
def jq_4 {α : Type} (a b c d : α) (k : Nat) : α := match k with
  | 0 => a
  | 1 => b
  | 2 => c
  | _ => d
theorem jq_K {s : State} {A : Array Value} (hts : ∀ w ∈ lw_tbl, w.before A s = true) : ∃ (G : va_G) (q : ClassId × ClassId × ClassId), va_K G vwCl (jn_T q) s := by
  obtain ⟨c0, i0, k0⟩ := u_known (C := RX0) (T := TX0) (N := 9) (n := 9) hts jw_in_X00 (hts _ jq_i0)
  obtain ⟨c1, i1, k1⟩ := u_known (C := RX1) (T := TX1) (N := 2) (n := 2) hts jw_in_X10 (hts _ jq_i1)
  obtain ⟨c2, i2, k2⟩ := u_known (C := RX2) (T := TX2) (N := 9) (n := 9) hts jw_in_X20 (hts _ jq_i2)
  obtain ⟨c3, i3, k3⟩ := u_known (C := RX3) (T := TX3) (N := 11) (n := 11) hts jw_in_X30 (hts _ jq_i3)
  obtain ⟨aI, hI⟩ := jq_arrI (hts _ jq_aI)
  obtain ⟨aL, hL⟩ := jq_arrL (hts _ jq_aL)
  obtain ⟨aZ, hZ⟩ := jq_arrZ (hts _ jq_aZ)
  refine ⟨(jq_4 c0 c1 c2 c3, jq_4 i0 i1 i2 i3), (aI, aL, aZ), fun k x hx => ?_, fun k x hx => ?_⟩
  · match k, hx with
    | 0, hx => obtain rfl := Option.some.inj (show some (RX0, TX0, 9) = some x from hx); exact k0
    | 1, hx => obtain rfl := Option.some.inj (show some (RX1, TX1, 2) = some x from hx); exact k1
    | 2, hx => obtain rfl := Option.some.inj (show some (RX2, TX2, 9) = some x from hx); exact k2
    | 3, hx => obtain rfl := Option.some.inj (show some (RX3, TX3, 11) = some x from hx); exact k3
    | k + 4, hx => simp [vwCl] at hx
  · match k, hx with
    | 0, hx => obtain rfl := Option.some.inj (show some (aI, FieldType.int) = some x from hx); exact hI
    | 1, hx => obtain rfl := Option.some.inj (show some (aL, FieldType.long) = some x from hx); exact hL
    | 2, hx => obtain rfl := Option.some.inj (show some (aZ, FieldType.boolean) = some x from hx); exact hZ
    | k + 3, hx => simp [jn_T] at hx
/-- addresses and contents behind both constructors -/
def jq_ad (a0 : Nat) (ad : Nat → Nat → Nat) (a7 : Nat) (bm : Nat → Nat) : Nat → Nat → Nat := fun b => match b with
  | 0 => jn_a0 a0 (ad 0)
  | 7 => jn_a0 a7 bm
  | b => ad b
def jq_r (x y : Nat → Int32) : jf_B := fun r => match r with
  | 1 => x
  | 5 => y
  | _ => fun _ => 0
def jq_m (x : Nat → Int32) : jf_B := fun r => match r with
  | 1 => x
  | _ => fun _ => 0
def jq_h (f g : Nat → Nat → Int32) (x : Nat → Int32) : Nat → jf_B := fun b => match b with
  | 0 => fun _ _ => 0
  | 1 => fun _ _ => 0
  | 7 => jq_m x
  | b => jq_r (f b) (g b)
def jq_E (G : va_G) (q : ClassId × ClassId × ClassId) (a0 : Nat) (ad : Nat → Nat → Nat) (a7 : Nat) (bm : Nat → Nat) : jp_E := (G, jq_ad a0 ad a7 bm, q.1, q.2.1, q.2.2)
def jq_H (f g : Nat → Nat → Int32) (x : Nat → Int32) : jp_H := (jq_h f g x, fun _ _ _ => 0)
set_option maxRecDepth 100000 in
theorem jq_w (G : va_G) (q : ClassId × ClassId × ClassId) (a0 : Nat) (ad : Nat → Nat → Nat) (a7 : Nat) (bm : Nat → Nat) (f g : Nat → Nat → Int32) (x : Nat → Int32) : jn_jsW q a0 ad f g ++ jn_modW q a7 bm x = jp_w (jq_E G q a0 ad a7 bm) (jq_H f g x) := rfl
theorem jq_I {E : jp_E} {h : jp_H} {A : Nat → Prop} (hD : va_D A (jp_w E h)) : jp_I E := fun i j p q hi hj e => hD.1 i j _ _ (jp_w_get (b := p.1) (r := p.2) hi) (jp_w_get (b := q.1) (r := q.2) hj) e
theorem jq_A {E : jp_E} {h : jp_H} {A : Nat → Prop} (hD : va_D A (jp_w E h)) : ∀ a, jp_A E a → A a := by
  rintro a ⟨q, hq, rfl⟩
  obtain ⟨i, hi⟩ := List.getElem?_of_mem hq
  exact hD.2 i _ (jp_w_get (b := q.1) (r := q.2) hi)
theorem jq_deg {M : jf_B} (h : ∀ j, j < 64 → M 1 (24 + j) = -6) {a : Nat} (ha : a < 8) : ∀ k, k ≤ 8 → jk_deg M a k = 0
  | 0, _ => rfl
  | k + 1, hk => by
    have e : jk_edge M a k = false := by
      unfold jk_edge
      by_cases q : a = k
      · rw [if_pos q]
      · have hs : jf_spot a k < 64 := by
          unfold jf_spot
          split <;> omega
        rw [if_neg q, h _ hs, if_pos jm_neg6]
    unfold jk_deg
    rw [e, jq_deg h ha k (by omega)]
    rfl
theorem jq_cnt {M : jf_B} (h : ∀ j, j < 64 → M 1 (24 + j) = -6) : ∀ k, k ≤ 64 → jk_cnt M k = 0
  | 0, _ => rfl
  | k + 1, hk => by
    unfold jk_cnt
    rw [h k (by omega), if_pos jm_neg6, jq_cnt h k (by omega)]
theorem jq_jr {f g : Nat → Nat → Int32} {x : Nat → Int32} (hf : ∀ b, 2 ≤ b → b ≤ 6 → ∀ i, i < 8 → f b i = 1) (hg : ∀ b, 2 ≤ b → b ≤ 6 → ∀ j, j < 64 → g b j = -1) (hx : jn_modF x) : jr 0 (jq_H f g x).1 := by
  obtain ⟨x1, x2, x3⟩ := hx
  have hM : ∀ j, j < 64 → jq_m x 1 (24 + j) = -6 := x2
  have hz : ∀ k, k < 8 → jm_x (jq_m x) k = (fun _ => (0 : Int)) k := fun k hk => by
    show (x (8 + k)).toInt = 0
    rw [x3 _ (Or.inl ⟨by omega, by omega⟩)]
    decide
  show jr 0 (jq_h f g x)
  refine ⟨⟨⟨fun i hi => ?_, fun j hj => ?_, fun i hi => ?_, ?_⟩, fun i hi => ?_, fun i hi => ?_, fun j hj => ?_, ?_, fun i hi => rfl⟩, ⟨fun j hj => Or.inl (x2 j hj), fun i hi => ?_, fun j hj => ?_, fun i hi => ?_, ?_, ⟨0, Nat.le_refl 0, ?_⟩, ?_, ?_⟩, fun b hb i hi => ?_, ⟨0, ?_⟩, fun k hk hk2 => absurd rfl hk2, ?_⟩
  · show f 2 i = x i
    rw [hf 2 (by omega) (by omega) i hi, x1 i hi]
  · show g 2 j = if x (24 + j) < 0 then -1 else x (24 + j)
    rw [x2 j hj, if_pos jm_neg6, hg 2 (by omega) (by omega) j hj]
  · show (0 : Int32) = nI (jk_deg (jq_m x) i 8)
    rw [jq_deg hM hi 8 (Nat.le_refl 8)]
    rfl
  · show (0 : Int32) = nI (jk_cnt (jq_m x) 64)
    rw [jq_cnt hM 64 (Nat.le_refl 64)]
    rfl
  · show (0 : Int32) = x (8 + i)
    rw [x3 _ (Or.inl ⟨by omega, by omega⟩)]
  · show (0 : Int32) = x (16 + i)
    rw [x3 _ (Or.inl ⟨by omega, by omega⟩)]
  · show (0 : Int32) = x (88 + j)
    rw [x3 _ (Or.inr (by omega))]
  · show (0 : Int32) = x 152
    rw [x3 _ (Or.inr (by omega))]
  · show 1 ≤ (x i).toInt ∧ (x i).toInt ≤ 4
    rw [x1 i hi]
    decide
  · show (-31 ≤ (x (88 + j)).toInt ∧ (x (88 + j)).toInt ≤ 31) ∧ (x (24 + j) < 0 → x (88 + j) = 0)
    rw [x3 (88 + j) (Or.inr (by omega))]
    exact ⟨by decide, fun _ => rfl⟩
  · exact ⟨0, by omega, x3 (16 + i) (Or.inl ⟨by omega, by omega⟩)⟩
  · show jk_cnt (jq_m x) 64 ≤ 12
    rw [jq_cnt hM 64 (Nat.le_refl 64)]
    omega
  · exact x3 152 (Or.inr (by omega))
  · show jm_ps (jm_x (jq_m x)) ≤ 186 * ((0 : Nat) : Int)
    rw [jm_ps_c hz]
    decide
  · show jm_ng (jm_x (jq_m x)) ≤ 186 * ((0 : Nat) : Int)
    rw [jm_ng_c hz]
    decide
  · rcases hb with e | e | e | e <;> subst e <;> rfl
  · exact ⟨rfl, rfl, by omega, fun i hi => ⟨rfl, by show 0 ≤ (0 : Int32).toInt; decide, by show (0 : Int32).toInt ≤ 126; decide⟩⟩
  · show (0 : Int32) = nI ((if (0 : Int32) = 0 then 0 else 1) + if (0 : Int32) = 0 then 0 else 2)
    rw [if_pos rfl, if_pos rfl]
    rfl
