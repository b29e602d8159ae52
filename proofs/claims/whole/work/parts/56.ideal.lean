/-! ===== ideal ===== -/
theorem jf_wL_if (L : jf_L) (r j : Nat) (x : Int64) (r' k : Nat) : jf_wL L r j x r' k = if r' = r ∧ k = j then x else L r' k := by
  unfold jf_wL va_up vp_updL
  by_cases q : r' = r
  · subst q
    by_cases z : k = j
    · simp [z]
    · simp [z]
  · simp [q]
theorem jm_oI32 (x : Int32) : x.toInt64 = Int64.ofInt x.toInt := by
  have := jm_tI x
  apply jm_lin
  rw [jm_i64, Int64.toInt_ofInt_of_le (by omega) (by omega)]
def jm_lw (M : jf_B) (x : Nat → Int) (i : Nat) : Int := x (i / 8) * jm_s M (i % 8) - x (i % 8) * jm_s M (i / 8)
def jm_lf (M : jf_B) (x : Nat → Int) (i : Nat) (y : Nat → Int) : Nat → Int := if M 1 (24 + i) < 0 then y else fun k => if k = i % 8 then y k + jm_lw M x i else if k = i / 8 then y k - jm_lw M x i else y k
def jm_lT (M : jf_B) (x : Nat → Int) (n : Nat) : Nat → Int := jf_it (jm_lf M x) (fun k => (jk_meas M : Int) * x k) n
def jm_lv (M : jf_B) : Nat → Nat → Int
  | 0 => jm_x M
  | k + 1 => jm_lT M (jm_lv M k) 64
theorem jm_lT_sum {M : jf_B} (hC : jm_co M) (x : Nat → Int) : ∀ n, n ≤ 64 → jm_sm (jm_lT M x n) 8 = (jk_meas M : Int) * jm_sm x 8
  | 0, _ => jm_sm_mul _ x 8
  | n + 1, h => by
    have ih := jm_lT_sum hC x n (by omega)
    have e : jm_lT M x (n + 1) = jm_lf M x n (jm_lT M x n) := rfl
    rw [e, ← ih]
    generalize jm_lT M x n = y
    unfold jm_lf
    by_cases q : M 1 (24 + n) < 0
    · rw [if_pos q]
    · rw [if_neg q]
      have c3 : n / 8 < n % 8 := by
        rcases hC n (by omega) with e | ⟨_, _, e⟩
        · rw [e] at q; exact absurd jm_neg6 q
        · exact e
      rw [jm_sm_2 (f := y) (a := n / 8) (c := n % 8) (by omega) (fun k z1 z2 => by rw [if_neg z2, if_neg z1]) (by omega) (by omega), if_neg (show ¬ n / 8 = n % 8 by omega), if_pos rfl, if_pos rfl]
      omega
theorem jm_x4 {x s : Int} (h : 0 ≤ x) (hs : 1 ≤ s ∧ s ≤ 4) : 0 ≤ x * s ∧ x * s ≤ 4 * x := by
  rcases (show s = 1 ∨ s = 2 ∨ s = 3 ∨ s = 4 by omega) with e | e | e | e <;> rw [e] <;> omega
theorem jm_lT_ge {M : jf_B} (hC : jm_co M) (hP : jm_sp M) {x : Nat → Int} (hx : ∀ i, i < 8 → 0 ≤ x i) : ∀ n, n ≤ 64 → ∀ i, i < 8 → (jk_meas M : Int) * x i - 4 * (x i * (jm_dp M i n : Int)) ≤ jm_lT M x n i
  | 0, _, i, _ => by
    show (jk_meas M : Int) * x i - 4 * (x i * ((0 : Nat) : Int)) ≤ (jk_meas M : Int) * x i
    simp
  | n + 1, h, i, hi => by
    have ih := jm_lT_ge hC hP hx n (by omega) i hi
    have e : jm_lT M x (n + 1) = jm_lf M x n (jm_lT M x n) := rfl
    have ed : jm_dp M i (n + 1) = jm_dp M i n + if n / 8 = i ∨ n % 8 = i then jm_wt M n else 0 := rfl
    rw [e, ed]
    generalize jm_lT M x n = y at *
    have s1 := hP (n / 8) (by omega)
    have s2 := hP (n % 8) (by omega)
    have p1 := jm_x4 (s := jm_s M (n % 8)) (hx (n / 8) (by omega)) s2
    have p2 := jm_x4 (s := jm_s M (n / 8)) (hx (n % 8) (by omega)) s1
    have pi := hx i hi
    unfold jm_lf jm_wt
    by_cases q : M 1 (24 + n) < 0
    · rw [if_pos q, if_pos q]
      have : (if n / 8 = i ∨ n % 8 = i then 0 else 0) = 0 := by split <;> rfl
      rw [this, Nat.add_zero]
      exact ih
    · rw [if_neg q, if_neg q]
      have c3 : n / 8 < n % 8 := by
        rcases hC n (by omega) with e | ⟨_, _, e⟩
        · rw [e] at q; exact absurd jm_neg6 q
        · exact e
      show _ ≤ (if i = n % 8 then y i + jm_lw M x n else if i = n / 8 then y i - jm_lw M x n else y i)
      unfold jm_lw
      have m1 : x i * ((jm_dp M i n + 1 : Nat) : Int) = x i * (jm_dp M i n : Int) + x i := by rw [Int.natCast_succ, Int.mul_add, Int.mul_one]
      by_cases z1 : i = n % 8
      · rw [if_pos z1, if_pos (Or.inr z1.symm), m1]
        rw [← z1] at p2 ⊢
        rw [← z1] at p1
        omega
      · by_cases z2 : i = n / 8
        · rw [if_neg z1, if_pos z2, if_pos (Or.inl z2.symm), m1]
          rw [← z2] at p1 ⊢
          rw [← z2] at p2
          omega
        · rw [if_neg z1, if_neg z2, if_neg (by omega), Nat.add_zero]
          exact ih
theorem jm_lv_nn {M : jf_B} (hC : jm_co M) (hP : jm_sp M) (hx : ∀ i, i < 8 → 0 ≤ jm_x M i) : ∀ k i, i < 8 → 0 ≤ jm_lv M k i
  | 0, i, hi => hx i hi
  | k + 1, i, hi => by
    have ih := jm_lv_nn hC hP hx k
    have h1 := jm_lT_ge hC hP ih 64 (Nat.le_refl 64) i hi
    show 0 ≤ jm_lT M (jm_lv M k) 64 i
    rw [jm_dp_le hC hi] at h1
    have h2 := jm_most_ge M 8 i hi
    have h3 := ih i hi
    have : (jk_meas M : Int) * jm_lv M k i - 4 * (jm_lv M k i * (jk_deg M i 8 : Int)) = jm_lv M k i * ((jk_meas M : Int) - 4 * (jk_deg M i 8 : Int)) := by grind
    rw [this] at h1
    have h4 : 0 ≤ jm_lv M k i * ((jk_meas M : Int) - 4 * (jk_deg M i 8 : Int)) := Int.mul_nonneg h3 (by unfold jk_meas; omega)
    omega
theorem jm_lv_sum {M : jf_B} (hC : jm_co M) : ∀ k, jm_sm (jm_lv M k) 8 = (jk_meas M : Int) ^ k * jm_sm (jm_x M) 8
  | 0 => by rw [Int.pow_zero, Int.one_mul]; rfl
  | k + 1 => by
    show jm_sm (jm_lT M (jm_lv M k) 64) 8 = _
    rw [jm_lT_sum hC _ 64 (Nat.le_refl 64), jm_lv_sum hC k, Int.pow_succ, ← Int.mul_assoc, Int.mul_comm (jk_meas M : Int)]
theorem jm_mpow (M : jf_B) {k : Nat} (hk : k ≤ 8) : 1 ≤ (jk_meas M) ^ k ∧ (jk_meas M) ^ k ≤ 2 ^ 40 := by
  have h := jm_meas32 M
  refine ⟨Nat.one_le_pow _ _ (by omega), ?_⟩
  have h1 : (jk_meas M) ^ k ≤ 32 ^ k := Nat.pow_le_pow_left h.2 k
  have h2 : 32 ^ k ≤ 32 ^ 8 := Nat.pow_le_pow_right (by decide) hk
  have h3 : (32 : Nat) ^ 8 = 2 ^ 40 := by decide
  omega
theorem jm_lv_le {c : Nat} (hc : c ≤ 40000) {M : jf_B} (hI : jm_I c M) (hx : ∀ i, i < 8 → 0 ≤ jm_x M i) {k i : Nat} (hk : k ≤ 8) (hi : i < 8) : 0 ≤ jm_lv M k i ∧ jm_lv M k i < 2 ^ 63 := by
  have hn := jm_lv_nn hI.1 hI.2.1 hx k
  refine ⟨hn i hi, ?_⟩
  have h1 := jm_sm_ge (f := jm_lv M k) (k := i) (n := 8) hn hi
  rw [jm_lv_sum hI.1 k] at h1
  have t := jm_tot hc hI
  have t0 : 0 ≤ jm_sm (jm_x M) 8 := jm_sm_nn hx
  have p := jm_mpow M hk
  have e : (jk_meas M : Int) ^ k = (((jk_meas M) ^ k : Nat) : Int) := (Int.natCast_pow _ _).symm
  rw [e] at h1
  generalize (jk_meas M) ^ k = P at *
  have h2 : (P : Int) * jm_sm (jm_x M) 8 ≤ (P : Int) * 7440000 := Int.mul_le_mul_of_nonneg_left t.2 (by omega)
  omega
