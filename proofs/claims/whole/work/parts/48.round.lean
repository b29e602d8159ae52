/-! ===== one round, many rounds ===== -/
def jm_I (c : Nat) (M : jf_B) : Prop := jm_co M ∧ jm_sp M ∧ jm_ca M ∧ jm_ro M ∧ jk_cnt M 64 ≤ 12 ∧ (∃ r : Nat, r ≤ c ∧ M 1 152 = nI r) ∧ jm_ps (jm_x M) ≤ 186 * (c : Int) ∧ jm_ng (jm_x M) ≤ 186 * (c : Int)
def jm_R (N M : jf_B) : Prop := jm_S N M ∧ jm_D N M
theorem jm_ps_c {x y : Nat → Int} (h : ∀ k, k < 8 → y k = x k) : jm_ps y = jm_ps x := jm_sm_c (fun k hk => by rw [h k hk])
theorem jm_ng_c {x y : Nat → Int} (h : ∀ k, k < 8 → y k = x k) : jm_ng y = jm_ng x := jm_sm_c (fun k hk => by rw [h k hk])
theorem jm_I_c {c : Nat} {M M' : jf_B} (h : ∀ j, j < 153 → M' 1 j = M 1 j) (hI : jm_I c M) : jm_I c M' := by
  obtain ⟨a1, a2, a3, a4, a5, ⟨r, a6, a7⟩, a8, a9⟩ := hI
  have hx : ∀ k, k < 8 → jm_x M' k = jm_x M k := fun k hk => by unfold jm_x; rw [h _ (by omega)]
  refine ⟨jm_co_c (fun j hj => h _ (by omega)) a1, fun i hi => ?_, fun j hj => ?_, fun i hi => ?_, ?_, ⟨r, a6, ?_⟩, ?_, ?_⟩
  · rw [h i (by omega)]; exact a2 i hi
  · rw [h (88 + j) (by omega), h (24 + j) (by omega)]; exact a3 j hj
  · rw [h (16 + i) (by omega)]; exact a4 i hi
  · rw [jk_cnt_c (fun j hj => h _ (by omega)) 64 (Nat.le_refl 64)]; exact a5
  · rw [h 152 (by omega)]; exact a7
  · rw [jm_ps_c hx]; exact a8
  · rw [jm_ng_c hx]; exact a9
theorem jm_I_le {c c' : Nat} {M : jf_B} (h : c ≤ c') (hI : jm_I c M) : jm_I c' M := by
  obtain ⟨a1, a2, a3, a4, a5, ⟨r, a6, a7⟩, a8, a9⟩ := hI
  exact ⟨a1, a2, a3, a4, a5, ⟨r, by omega, a7⟩, by omega, by omega⟩
theorem jm_D_c {N M N' M' : jf_B} (hN : ∀ r j, (r = 2 ∨ r = 3 ∨ r = 7) ∧ j < 8 ∨ r = 6 ∧ j < 64 ∨ r = 0 ∧ j = 8 → N' r j = N r j) (hM : ∀ j, 8 ≤ j ∧ j < 24 ∨ 88 ≤ j ∧ j < 153 → M' 1 j = M 1 j) (hD : jm_D N M) : jm_D N' M' := by
  obtain ⟨a1, a2, a3, a4, a5⟩ := hD
  refine ⟨fun i hi => ?_, fun i hi => ?_, fun j hj => ?_, ?_, fun i hi => ?_⟩
  · rw [hN 2 i (by omega), hM _ (by omega)]; exact a1 i hi
  · rw [hN 3 i (by omega), hM _ (by omega)]; exact a2 i hi
  · rw [hN 6 j (by omega), hM _ (by omega)]; exact a3 j hj
  · rw [hN 0 8 (by omega), hM _ (by omega)]; exact a4
  · rw [hN 7 i (by omega)]; exact a5 i hi
theorem jm_great3 {M : jf_B} (hC : jm_co M) : ∀ n, n ≤ 64 → ∃ k : Nat, k ≤ 3 ∧ jk_great M n = nI k
  | 0, _ => ⟨0, by omega, rfl⟩
  | n + 1, h => by
    obtain ⟨k, h1, h2⟩ := jm_great3 hC n (by omega)
    show ∃ k : Nat, k ≤ 3 ∧ (if M 1 (24 + n) ≤ jk_great M n then jk_great M n else M 1 (24 + n)) = nI k
    by_cases q : M 1 (24 + n) ≤ jk_great M n
    · rw [if_pos q]; exact ⟨k, h1, h2⟩
    · rw [if_neg q]
      rcases hC n (by omega) with e | ⟨e1, e2, _⟩
      · rw [e, h2] at q
        exfalso
        apply q
        rw [Int32.le_iff_toInt_le, nI_toInt (by omega)]
        have : ((-6 : Int32)).toInt = -6 := by decide
        omega
      · refine ⟨(M 1 (24 + n)).toInt.toNat, by omega, ?_⟩
        rw [← Int32.toInt_inj, nI_toInt (by omega)]
        omega
theorem jm_col4 {M : jf_B} (hC : jm_co M) : ∃ k : Nat, k ≤ 3 ∧ jk_col M = nI (k + 1) := by
  obtain ⟨k, h1, h2⟩ := jm_great3 hC 64 (Nat.le_refl 64)
  refine ⟨k, h1, ?_⟩
  unfold jk_col
  rw [h2, nI_add, Nat.add_comm]
theorem jm_turn_r {M : jf_B} {r k : Nat} (h1 : M 1 152 = nI r) (hr : r < 2 ^ 31) (hk : k ≤ 3) (h2 : jk_col M = nI (k + 1)) : jk_turn M = nI (r % (k + 1)) := by
  unfold jk_turn jf_rem
  rw [h1, h2, pk_rem hr (by omega) (by omega)]
theorem jm_turn_nn {M : jf_B} (hC : jm_co M) {r : Nat} (hr : r < 2 ^ 31) (h : M 1 152 = nI r) : ¬ jk_turn M < 0 := by
  obtain ⟨k, h1, h2⟩ := jm_col4 hC
  rw [jm_turn_r h hr h1 h2]
  have := Nat.mod_le r (k + 1)
  rw [jm_lt0, nI_toInt (by omega)]
  omega
theorem jm_ok {M : jf_B} (hP : jm_sp M) : jk_ok M := fun a c ha hc e => by
  have h1 := hP a ha
  have h2 := hP c hc
  rw [Nat.zero_add, Nat.zero_add] at e
  have := jm_add (a := M 1 a) (b := M 1 c) (by omega) (by omega)
  rw [e, Int32.toInt_zero] at this
  omega
/-- what a round leaves as it was: speeds, colours, rounds -/
def jm_Z (M M' : jf_B) : Prop := ∀ j, j < 8 ∨ (24 ≤ j ∧ j < 88) → M' 1 j = M 1 j
theorem jm_one {c : Nat} (hc : c ≤ 40000) (ru : Int32) {N M : jf_B} (hR : jm_R N M) (hI : jm_I c M) : (jf_one ru N).2 = (jk_one ru M).2 ∧ jm_R (jf_one ru N).1 (jk_one ru M).1 ∧ (jk_one ru M).1 1 152 = M 1 152 ∧ jm_Z M (jk_one ru M).1 ∧ jm_ca (jk_one ru M).1 ∧ jm_ro (jk_one ru M).1 ∧ jm_ps (jm_x (jk_one ru M).1) ≤ 186 * ((c : Int) + 1) ∧ jm_ng (jm_x (jk_one ru M).1) ≤ 186 * ((c : Int) + 1) := by
  obtain ⟨a1, a2, a3, a4, a5, ⟨r, a6, a7⟩, a8, a9⟩ := hI
  obtain ⟨hS, hD⟩ := hR
  unfold jf_one jk_one
  by_cases q0 : ru = 0
  · rw [if_pos q0, if_pos q0]
    obtain ⟨b1, b2, b3, b4, b5, b6⟩ := jm_flow hS a1 hD
    obtain ⟨d1, d2, d3⟩ := jm_flowB a1 a2 a5 a3 (by omega) (by omega)
    refine ⟨b1, ⟨jm_S_of hS (b5 1 (by decide) (by decide) (by decide)) (b5 5 (by decide) (by decide) (by decide)) (b5 4 (by decide) (by decide) (by decide)) (by rw [b5 0 (by decide) (by decide) (by decide)]) (fun j hj => b6 j (by omega)), b2, fun i hi => ?_, b3, ?_, b4⟩, b6 152 (by omega), fun j hj => b6 j (by omega), d1, fun i hi => ?_, by omega, by omega⟩
    · rw [b5 3 (by decide) (by decide) (by decide), b6 _ (by omega)]; exact hD.2.1 i hi
    · rw [b5 0 (by decide) (by decide) (by decide), b6 _ (by omega)]; exact hD.2.2.2.1
    · rw [b6 _ (by omega)]; exact a4 i hi
  · rw [if_neg q0, if_neg q0]
    by_cases q1 : ru = nI 1
    · rw [if_pos q1, if_pos q1]
      obtain ⟨b1, b2, b3, b4, b5, b6⟩ := jm_exch (K := 186 * (c : Int)) hS a1 a2 hD (by omega) a8 a9 (jm_turn_nn a1 (by omega) a7)
      refine ⟨b1, ⟨jm_S_of hS (b2 1 (by decide)) (b2 5 (by decide)) (b2 4 (by decide)) (by rw [b2 0 (by decide)]) (fun j hj => b3 j (by omega)), b4, fun i hi => ?_, fun j hj => ?_, ?_, fun i hi => ?_⟩, b3 152 (by omega), fun j hj => b3 j (by omega), fun j hj => ?_, fun i hi => ?_, by omega, by omega⟩
      · rw [b2 3 (by decide), b3 _ (by omega)]; exact hD.2.1 i hi
      · rw [b2 6 (by decide), b3 _ (by omega)]; exact hD.2.2.1 j hj
      · rw [b2 0 (by decide), b3 _ (by omega)]; exact hD.2.2.2.1
      · rw [b2 7 (by decide)]; exact hD.2.2.2.2 i hi
      · rw [b3 (88 + j) (by omega), b3 (24 + j) (by omega)]; exact a3 j hj
      · rw [b3 _ (by omega)]; exact a4 i hi
    · rw [if_neg q1, if_neg q1]
      obtain ⟨b1, b2, b3, b4, b5, b6, b7, b8, b9⟩ := jm_rot hS a1 hD a4 (by omega) (by omega)
      refine ⟨b1, ⟨jm_S_of hS (b2 1 (by decide) (by decide) (by decide)) (b2 5 (by decide) (by decide) (by decide)) (b2 4 (by decide) (by decide) (by decide)) (by rw [b2 0 (by decide) (by decide) (by decide)]) (fun j hj => b3 j (by omega)), b4, b5, fun j hj => ?_, ?_, b6⟩, b3 152 (by omega), fun j hj => b3 j (by omega), fun j hj => ?_, b7, by omega, by omega⟩
      · rw [b2 6 (by decide) (by decide) (by decide), b3 _ (by omega)]; exact hD.2.2.1 j hj
      · rw [b2 0 (by decide) (by decide) (by decide), b3 _ (by omega)]; exact hD.2.2.2.1
      · rw [b3 (88 + j) (by omega), b3 (24 + j) (by omega)]; exact a3 j hj
theorem jm_round {c : Nat} (hc : c ≤ 40000) (ru : Int32) {N M : jf_B} (hR : jm_R N M) (hI : jm_I c M) (i : Nat) (s : Int32) : (jf_rnd ru i (N, s)).2 = s + (jk_round ru M).2 ∧ jm_R (jf_rnd ru i (N, s)).1 (jk_round ru M).1 ∧ jm_I (c + 1) (jk_round ru M).1 ∧ jm_Z M (jk_round ru M).1 := by
  obtain ⟨b1, ⟨bS, bD⟩, b3, b4, b5, b6, b7, b8⟩ := jm_one hc ru hR hI
  obtain ⟨a1, a2, a3, a4, a5, ⟨r, a6, a7⟩, a8, a9⟩ := hI
  unfold jf_rnd jk_round
  dsimp only
  generalize jf_one ru N = N1 at *
  generalize jk_one ru M = M1 at *
  have hw : ∀ j, j < 152 → jf_w M1.1 1 152 (M1.1 1 152 + nI 1) 1 j = M1.1 1 j := fun j hj => by rw [jf_w_if, if_neg (by omega)]
  have hz : ∀ j, j < 64 → jf_w M1.1 1 152 (M1.1 1 152 + nI 1) 1 (24 + j) = M 1 (24 + j) := fun j hj => by rw [hw _ (by omega), b4 _ (by omega)]
  have hx : ∀ k, k < 8 → jm_x (jf_w M1.1 1 152 (M1.1 1 152 + nI 1)) k = jm_x M1.1 k := fun k hk => by unfold jm_x; rw [hw _ (by omega)]
  refine ⟨by rw [b1], ⟨jm_S_of bS (jf_w_r _ _ _ (by decide)) (jf_w_r _ _ _ (by decide)) (jf_w_r _ _ _ (by decide)) (by rw [jf_w_if, if_neg (by omega)]) (fun j hj => hw j (by omega)), fun i hi => ?_, fun i hi => ?_, fun j hj => ?_, ?_, fun i hi => ?_⟩, ⟨jm_co_c hz a1, fun i hi => ?_, fun j hj => ?_, fun i hi => ?_, ?_, ⟨r + 1, by omega, ?_⟩, ?_, ?_⟩, fun j hj => ?_⟩
  · rw [jf_w_r _ _ _ (by decide), hw _ (by omega)]; exact bD.1 i hi
  · rw [jf_w_r _ _ _ (by decide), hw _ (by omega)]; exact bD.2.1 i hi
  · rw [jf_w_r _ _ _ (by decide), hw _ (by omega)]; exact bD.2.2.1 j hj
  · rw [jf_w_s, jf_w_s, bD.2.2.2.1]
  · rw [jf_w_r _ _ _ (by decide)]; exact bD.2.2.2.2 i hi
  · rw [hw _ (by omega), b4 _ (by omega)]; exact a2 i hi
  · rw [hw (88 + j) (by omega), hw (24 + j) (by omega)]; exact b5 j hj
  · rw [hw _ (by omega)]; exact b6 i hi
  · rw [jk_cnt_c hz 64 (Nat.le_refl 64)]; exact a5
  · rw [jf_w_s, b3, a7, nI_add]
  · rw [jm_ps_c hx]; omega
  · rw [jm_ng_c hx]; omega
  · rw [hw _ (by omega)]; exact b4 j hj
theorem jm_Z_t {A B C : jf_B} (h1 : jm_Z A B) (h2 : jm_Z B C) : jm_Z A C := fun j hj => (h2 j hj).trans (h1 j hj)
theorem jm_go {c : Nat} (ru : Int32) {N M : jf_B} (hR : jm_R N M) (hI : jm_I c M) : ∀ k, c + k ≤ 40000 → (jf_go ru N k).2 = (jk_go ru M k).2 ∧ jm_R (jf_go ru N k).1 (jk_go ru M k).1 ∧ jm_I (c + k) (jk_go ru M k).1 ∧ jm_Z M (jk_go ru M k).1
  | 0, _ => ⟨rfl, hR, hI, fun _ _ => rfl⟩
  | k + 1, h => by
    obtain ⟨b1, b2, b3, b4⟩ := jm_go ru hR hI k (by omega)
    have e1 : jf_go ru N (k + 1) = jf_rnd ru k ((jf_go ru N k).1, (jf_go ru N k).2) := rfl
    have e2 : jk_go ru M (k + 1) = ((jk_round ru (jk_go ru M k).1).1, (jk_go ru M k).2 + (jk_round ru (jk_go ru M k).1).2) := rfl
    obtain ⟨d1, d2, d3, d4⟩ := jm_round (by omega) ru b2 b3 k (jf_go ru N k).2
    rw [e1, e2]
    refine ⟨by rw [d1, b1], d2, d3, jm_Z_t b4 d4⟩
