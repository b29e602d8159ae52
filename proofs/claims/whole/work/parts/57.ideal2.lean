/-! ===== ideal: both sides ===== -/
theorem jm_oadd (a b : Int) : Int64.ofInt a + Int64.ofInt b = Int64.ofInt (a + b) := (Int64.ofInt_add a b).symm
theorem jm_osub (a b : Int) : Int64.ofInt a - Int64.ofInt b = Int64.ofInt (a - b) := (Int64.ofInt_sub a b).symm
theorem jm_omul (a b : Int) : Int64.ofInt a * Int64.ofInt b = Int64.ofInt (a * b) := (Int64.ofInt_mul a b).symm
theorem jm_mel (M : jf_B) : (nI (jk_meas M)).toInt64 = Int64.ofInt (jk_meas M : Int) := by
  have := jm_meas32 M
  rw [jm_oI32, nI_toInt (by omega)]
/-- the model -/
theorem jm_iA (me : Int32) (L : jf_L) : ∀ n, n ≤ 8 → (∀ i, jk_iA me L n 6 i = L 6 i) ∧ ∀ i, i < n → jk_iA me L n 7 i = me.toInt64 * L 6 i
  | 0, _ => ⟨fun _ => rfl, fun i hi => absurd hi (by omega)⟩
  | n + 1, h => by
    obtain ⟨h1, h2⟩ := jm_iA me L n (by omega)
    have e : jk_iA me L (n + 1) = jk_i1 me n (jk_iA me L n) := rfl
    rw [e]
    generalize jk_iA me L n = Y at *
    unfold jk_i1
    refine ⟨fun i => by rw [jf_wL_if, if_neg (by omega)]; exact h1 i, fun i hi => ?_⟩
    rw [jf_wL_if, h1]
    by_cases z : i = n
    · rw [if_pos ⟨rfl, z⟩, z]
    · rw [if_neg (by omega)]; exact h2 i (by omega)
theorem jm_iB {M : jf_B} (hC : jm_co M) {L : jf_L} {x : Nat → Int} (hL : ∀ i, i < 8 → L 6 i = Int64.ofInt (x i)) : ∀ n, n ≤ 64 → (∀ i, jk_iB M (nI (jk_meas M)) L n 6 i = L 6 i) ∧ ∀ i, i < 8 → jk_iB M (nI (jk_meas M)) L n 7 i = Int64.ofInt (jm_lT M x n i)
  | 0, _ => by
    obtain ⟨h1, h2⟩ := jm_iA (nI (jk_meas M)) L 8 (Nat.le_refl 8)
    refine ⟨h1, fun i hi => ?_⟩
    show jk_iA (nI (jk_meas M)) L 8 7 i = Int64.ofInt ((jk_meas M : Int) * x i)
    rw [h2 i hi, jm_mel, hL i hi, jm_omul]
  | n + 1, h => by
    obtain ⟨h1, h2⟩ := jm_iB hC hL n (by omega)
    have e : jk_iB M (nI (jk_meas M)) L (n + 1) = jk_i2 M n (jk_iB M (nI (jk_meas M)) L n) := rfl
    have e2 : jm_lT M x (n + 1) = jm_lf M x n (jm_lT M x n) := rfl
    rw [e, e2]
    generalize jk_iB M (nI (jk_meas M)) L n = Y at *
    generalize jm_lT M x n = y at *
    unfold jk_i2 jm_lf
    by_cases q : M 1 (24 + n) < 0
    · rw [if_pos q, if_pos q]
      exact ⟨h1, h2⟩
    · rw [if_neg q, if_neg q]
      have c3 : n / 8 < n % 8 := by
        rcases hC n (by omega) with e | ⟨_, _, e⟩
        · rw [e] at q; exact absurd jm_neg6 q
        · exact e
      have w : jk_iW M Y n = Int64.ofInt (jm_lw M x n) := by
        unfold jk_iW jm_lw jm_s
        rw [h1, h1, hL _ (by omega), hL _ (by omega), jm_oI32, jm_oI32, jm_omul, jm_omul, jm_osub, Nat.zero_add, Nat.zero_add]
      rw [w]
      refine ⟨fun i => by rw [jf_wL_if, if_neg (by omega), jf_wL_if, if_neg (by omega)]; exact h1 i, fun i hi => ?_⟩
      rw [jf_wL_if, jf_wL_if, jf_wL_if, if_neg (show ¬ (7 = 7 ∧ n % 8 = n / 8) by omega)]
      by_cases z1 : i = n % 8
      · rw [if_pos ⟨rfl, z1⟩, if_pos z1, ← z1, h2 i hi, jm_oadd]
      · rw [if_neg (by omega), if_neg z1]
        by_cases z2 : i = n / 8
        · rw [if_pos ⟨rfl, z2⟩, if_pos z2, ← z2, h2 i hi, jm_osub]
        · rw [if_neg (by omega), if_neg z2]
          exact h2 i hi
theorem jm_iC (M : jf_B) (me : Int32) (L : jf_L) : ∀ n, n ≤ 8 → (∀ i, jk_iC M me L n 7 i = jk_iB M me L 64 7 i) ∧ ∀ i, i < n → jk_iC M me L n 6 i = jk_iB M me L 64 7 i
  | 0, _ => ⟨fun _ => rfl, fun i hi => absurd hi (by omega)⟩
  | n + 1, h => by
    obtain ⟨h1, h2⟩ := jm_iC M me L n (by omega)
    have e : jk_iC M me L (n + 1) = jk_i3 n (jk_iC M me L n) := rfl
    rw [e]
    generalize jk_iC M me L n = Y at *
    unfold jk_i3
    refine ⟨fun i => by rw [jf_wL_if, if_neg (by omega)]; exact h1 i, fun i hi => ?_⟩
    rw [jf_wL_if, h1]
    by_cases z : i = n
    · rw [if_pos ⟨rfl, z⟩, z]
    · rw [if_neg (by omega)]; exact h2 i (by omega)
theorem jm_dA (M : jf_B) (L : jf_L) : ∀ n, n ≤ 8 → ∀ i, i < n → jk_dA M L n 6 i = (M 1 (8 + i)).toInt64
  | 0, _, i, hi => absurd hi (by omega)
  | n + 1, h, i, hi => by
    have ih := jm_dA M L n (by omega)
    have e : jk_dA M L (n + 1) = jk_d1 M n (jk_dA M L n) := rfl
    rw [e]
    generalize jk_dA M L n = Y at *
    unfold jk_d1
    rw [jf_wL_if]
    by_cases z : i = n
    · rw [if_pos ⟨rfl, z⟩, z]
    · rw [if_neg (by omega)]; exact ih i (by omega)
theorem jm_dB {M : jf_B} (hC : jm_co M) (L : jf_L) : ∀ k i, i < 8 → jk_dB M L k 6 i = Int64.ofInt (jm_lv M k i)
  | 0, i, hi => by
    show jk_dA M L 8 6 i = Int64.ofInt (jm_x M i)
    rw [jm_dA M L 8 (Nat.le_refl 8) i hi, jm_oI32]
    rfl
  | k + 1, i, hi => by
    have ih := jm_dB hC L k
    have e : jk_dB M L (k + 1) = jk_iC M (nI (jk_meas M)) (jk_dB M L k) 8 := rfl
    rw [e, (jm_iC M _ _ 8 (Nat.le_refl 8)).2 i hi, (jm_iB hC ih 64 (Nat.le_refl 64)).2 i hi]
    rfl
theorem jm_dD (M : jf_B) : ∀ k, jk_dD M k = Int64.ofInt ((jk_meas M : Int) ^ k)
  | 0 => by rw [Int.pow_zero]; rfl
  | k + 1 => by
    have e : jk_dD M (k + 1) = jk_dD M k * (nI (jk_meas M)).toInt64 := rfl
    rw [e, jm_dD M k, jm_mel, jm_omul, Int.pow_succ]
/-- the class -/
theorem jm_un1 (me : Int32) (L : jf_L) : ∀ n, n ≤ 8 → (∀ i, jf_it (jf_un1 me) L n 1 i = L 1 i) ∧ ∀ i, i < n → jf_it (jf_un1 me) L n 2 i = L 1 i * me.toInt64
  | 0, _ => ⟨fun _ => rfl, fun i hi => absurd hi (by omega)⟩
  | n + 1, h => by
    obtain ⟨h1, h2⟩ := jm_un1 me L n (by omega)
    have e : jf_it (jf_un1 me) L (n + 1) = jf_un1 me n (jf_it (jf_un1 me) L n) := rfl
    rw [e]
    generalize jf_it (jf_un1 me) L n = Y at *
    unfold jf_un1
    refine ⟨fun i => by rw [jf_wL_if, if_neg (by omega)]; exact h1 i, fun i hi => ?_⟩
    rw [jf_wL_if, h1]
    by_cases z : i = n
    · rw [if_pos ⟨rfl, z⟩, z]
    · rw [if_neg (by omega)]; exact h2 i (by omega)
theorem jm_unT {A M : jf_B} (hS : jm_S A M) (hC : jm_co M) {L : jf_L} {x : Nat → Int} (hL : ∀ i, i < 8 → L 1 i = Int64.ofInt (x i)) : ∀ n, n ≤ 64 → (∀ i, jf_it (jm_fl (jf_unS A)) (jf_it (jf_un1 (jf_measure A)) L 8) n 1 i = L 1 i) ∧ ∀ i, i < 8 → jf_it (jm_fl (jf_unS A)) (jf_it (jf_un1 (jf_measure A)) L 8) n 2 i = Int64.ofInt (jm_lT M x n i)
  | 0, _ => by
    obtain ⟨h1, h2⟩ := jm_un1 (jf_measure A) L 8 (Nat.le_refl 8)
    refine ⟨h1, fun i hi => ?_⟩
    show jf_it (jf_un1 (jf_measure A)) L 8 2 i = Int64.ofInt ((jk_meas M : Int) * x i)
    rw [h2 i hi, jm_measure hS, jm_mel, hL i hi, jm_omul, Int.mul_comm]
  | n + 1, h => by
    obtain ⟨h1, h2⟩ := jm_unT hS hC hL n (by omega)
    generalize hY0 : jf_it (jf_un1 (jf_measure A)) L 8 = Y0 at *
    have e : jf_it (jm_fl (jf_unS A)) Y0 (n + 1) = jm_fl (jf_unS A) n (jf_it (jm_fl (jf_unS A)) Y0 n) := rfl
    have e2 : jm_lT M x (n + 1) = jm_lf M x n (jm_lT M x n) := rfl
    rw [e, e2]
    generalize jf_it (jm_fl (jf_unS A)) Y0 n = Y at *
    generalize jm_lT M x n = y at *
    unfold jm_fl jf_unS jm_lf
    by_cases c3 : n / 8 < n % 8
    · rw [if_pos c3, jm_joins hS hC (show n / 8 < 8 by omega) (show n % 8 < 8 by omega)]
      unfold jk_edge
      rw [if_neg (show ¬ n / 8 = n % 8 by omega), jm_spot c3]
      by_cases q : M 1 (24 + n) < 0
      · rw [if_pos q, if_pos q, if_neg (by decide)]
        exact ⟨h1, h2⟩
      · rw [if_neg q, if_neg q, if_pos rfl]
        have w : jf_unW A Y (n / 8) (n % 8) = Int64.ofInt (jm_lw M x n) := by
          unfold jf_unW jm_lw jm_s
          rw [h1, h1, hL _ (by omega), hL _ (by omega), hS.1 _ (by omega), hS.1 _ (by omega), jm_oI32, jm_oI32, jm_omul, jm_omul, jm_osub]
        rw [w]
        refine ⟨fun i => by rw [jf_wL_if, if_neg (by omega), jf_wL_if, if_neg (by omega)]; exact h1 i, fun i hi => ?_⟩
        rw [jf_wL_if, jf_wL_if, jf_wL_if, if_neg (show ¬ (2 = 2 ∧ n % 8 = n / 8) by omega)]
        by_cases z1 : i = n % 8
        · rw [if_pos ⟨rfl, z1⟩, if_pos z1, ← z1, h2 i hi, jm_oadd]
        · rw [if_neg (by omega), if_neg z1]
          by_cases z2 : i = n / 8
          · rw [if_pos ⟨rfl, z2⟩, if_pos z2, ← z2, h2 i hi, jm_osub]
          · rw [if_neg (by omega), if_neg z2]
            exact h2 i hi
    · rw [if_neg c3]
      rcases hC n (by omega) with e | ⟨_, _, e⟩
      · rw [e, if_pos jm_neg6]
        exact ⟨h1, h2⟩
      · exact absurd e c3
theorem jm_unc {A M : jf_B} (hS : jm_S A M) (hC : jm_co M) {L : jf_L} {x : Nat → Int} (hL : ∀ i, i < 8 → L 1 i = Int64.ofInt (x i)) {i : Nat} (hi : i < 8) : jf_unc A (jf_measure A) L 1 i = Int64.ofInt (jm_lT M x 64 i) := by
  have e : jf_it (jf_unR A) (jf_it (jf_un1 (jf_measure A)) L 8) 8 = jf_it (jm_fl (jf_unS A)) (jf_it (jf_un1 (jf_measure A)) L 8) 64 := jm_flat (jf_unS A) _ 8 (Nat.le_refl 8)
  have h := (jm_unT hS hC hL 64 (Nat.le_refl 64)).2 i hi
  unfold jf_unc
  rw [e]
  generalize jf_it (jm_fl (jf_unS A)) (jf_it (jf_un1 (jf_measure A)) L 8) 64 = Y at *
  rw [va_up_self]
  unfold va_cpy
  rw [if_pos (by omega), show 0 + (i - 0) = i by omega]
  exact h
theorem jm_idL0 (A : jf_B) (L : jf_L) : ∀ n, n ≤ 8 → ∀ i, i < n → jf_idL0 A L n 1 i = (A 2 i).toInt64
  | 0, _, i, hi => absurd hi (by omega)
  | n + 1, h, i, hi => by
    have ih := jm_idL0 A L n (by omega)
    have e : jf_idL0 A L (n + 1) = jf_wL (jf_idL0 A L n) 1 n (A 2 n).toInt64 := rfl
    rw [e]
    generalize jf_idL0 A L n = Y at *
    rw [jf_wL_if]
    by_cases z : i = n
    · rw [if_pos ⟨rfl, z⟩, z]
    · rw [if_neg (by omega)]; exact ih i (by omega)
theorem jm_idS {A M : jf_B} (hR : jm_R A M) (hC : jm_co M) (L : jf_L) : ∀ k i, i < 8 → jf_idS A L k 1 i = Int64.ofInt (jm_lv M k i)
  | 0, i, hi => by
    show jf_idL0 A L 8 1 i = Int64.ofInt (jm_x M i)
    rw [jm_idL0 A L 8 (Nat.le_refl 8) i hi, hR.2.1 i hi, jm_oI32]
    rfl
  | k + 1, i, hi => by
    have ih := jm_idS hR hC L k
    have e : jf_idS A L (k + 1) = jf_unc A (jf_measure A) (jf_idS A L k) := rfl
    rw [e, jm_unc hR.1 hC ih hi]
    rfl
theorem jm_idD {A M : jf_B} (hS : jm_S A M) : ∀ k, jf_idD A k = Int64.ofInt ((jk_meas M : Int) ^ k)
  | 0 => by rw [Int.pow_zero]; rfl
  | k + 1 => by
    have e : jf_idD A (k + 1) = jf_idD A k * (jf_measure A).toInt64 := rfl
    rw [e, jm_idD hS k, jm_measure hS, jm_mel, jm_omul, Int.pow_succ]
theorem jm_idf {c : Nat} (hc : c ≤ 40000) {M : jf_B} (hI : jm_I c M) (hx : ∀ i, i < 8 → 0 ≤ jm_x M i) {i k : Nat} (hi : i < 8) (hk : k ≤ 8) : (∀ pa, jf_part (Int64.ofInt (jm_lv M k i)) (Int64.ofInt ((jk_meas M : Int) ^ k)) pa = jk_tR (Int64.ofInt (jm_lv M k i)) (Int64.ofInt ((jk_meas M : Int) ^ k)) pa) ∧ jk_fr (Int64.ofInt (jm_lv M k i)) (Int64.ofInt ((jk_meas M : Int) ^ k)) := by
  have h1 := jm_lv_le hc hI hx hk hi
  have p := jm_mpow M hk
  have e : (jk_meas M : Int) ^ k = (((jk_meas M) ^ k : Nat) : Int) := (Int.natCast_pow _ _).symm
  rw [e]
  generalize (jk_meas M) ^ k = P at *
  have e1 : (Int64.ofInt (jm_lv M k i)).toInt = jm_lv M k i := Int64.toInt_ofInt_of_le (by omega) (by omega)
  have e2 : (Int64.ofInt (P : Int)).toInt = (P : Int) := Int64.toInt_ofInt_of_le (by omega) (by omega)
  have Q := fun pa => jm_partL (U := Int64.ofInt (jm_lv M k i)) (W := Int64.ofInt (P : Int)) (by rw [e1]; omega) (by rw [e2]; omega) (by rw [e2]; omega) pa
  exact ⟨fun pa => (Q pa).1, (Q 0).2⟩
/-- what the model's contract asks -/
theorem jm_idfr {c : Nat} (hc : c ≤ 40000) {M : jf_B} (hI : jm_I c M) (L : jf_L) (i k : Nat) (hi : i < 8) (hk : k ≤ 8) (ha : jk_any M 8 = false) : jk_fr (jk_dB M L k 6 i) (jk_dD M k) := by
  have hx : ∀ i, i < 8 → 0 ≤ jm_x M i := fun i hi => jm_ge0.mp (jm_bel0 M 8 ((jm_any M 8).mp ha) i hi)
  rw [jm_dB hI.1 L k i hi, jm_dD]
  exact (jm_idf hc hI hx hi hk).2
theorem jm_ideal {c : Nat} (hc : c ≤ 40000) {A M : jf_B} (hR : jm_R A M) (hI : jm_I c M) (x r pa : Int32) (L K : jf_L) : (jF_ideal x r pa A L).1 = (jk_ideal x r pa M K).1 := by
  unfold jF_ideal jk_ideal
  by_cases q1 : jf_within x (nI 0) (nI 7) = true
  · rw [if_pos q1, if_pos q1]
    by_cases q2 : jf_within r (nI 0) (nI 8) = true
    · rw [if_pos q2, if_pos q2]
      by_cases q3 : jf_within pa (nI 0) (nI 1) = true
      · rw [if_pos q3, if_pos q3]
        have hb := jm_bel_le M 8
        have z : (jf_below A 8 ≤ 0) ↔ jk_any M 8 = false := by
          rw [jm_below hR.2 8 (Nat.le_refl 8), jm_le0, nI_toInt (by omega), jm_any]
          omega
        by_cases y : jk_any M 8 = false
        · have hx : ∀ i, i < 8 → 0 ≤ jm_x M i := fun i hi => jm_ge0.mp (jm_bel0 M 8 ((jm_any M 8).mp y) i hi)
          obtain ⟨i, hi, rfl⟩ := jf_within_of (m := 7) (by decide) q1
          obtain ⟨k, hk, rfl⟩ := jf_within_of (m := 8) (by decide) q2
          rw [if_pos (z.mpr y), if_neg (by rw [y]; decide)]
          dsimp only
          rw [nI_clamp (by omega), nI_clamp (by omega), jm_idS hR hI.1 L k i (by omega), jm_idD hR.1 k, jm_dB hI.1 K k i (by omega), jm_dD]
          exact (jm_idf hc hI hx (by omega) hk).1 pa
        · rw [if_neg (fun w => y (z.mp w)), if_pos (by simpa using y)]
      · rw [if_neg q3, if_neg q3]
    · rw [if_neg q2, if_neg q2]
  · rw [if_neg q1, if_neg q1]
