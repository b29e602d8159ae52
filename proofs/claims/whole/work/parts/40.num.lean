/-! ===== numbers; nested and flat loops; what both sides tell of a net that stands ===== -/
theorem jm_add {a b : Int32} (h1 : -2147483648 ≤ a.toInt + b.toInt) (h2 : a.toInt + b.toInt ≤ 2147483647) : (a + b).toInt = a.toInt + b.toInt := by
  rw [Int32.toInt_add, Int.bmod_eq_of_le (by omega) (by omega)]
theorem jm_sub {a b : Int32} (h1 : -2147483648 ≤ a.toInt - b.toInt) (h2 : a.toInt - b.toInt ≤ 2147483647) : (a - b).toInt = a.toInt - b.toInt := by
  rw [Int32.toInt_sub, Int.bmod_eq_of_le (by omega) (by omega)]
theorem jm_mul {a b : Int32} (h1 : -2147483648 ≤ a.toInt * b.toInt) (h2 : a.toInt * b.toInt ≤ 2147483647) : (a * b).toInt = a.toInt * b.toInt := by
  rw [Int32.toInt_mul, Int.bmod_eq_of_le (by omega) (by omega)]
theorem jm_ladd {a b : Int64} (h1 : -9223372036854775808 ≤ a.toInt + b.toInt) (h2 : a.toInt + b.toInt ≤ 9223372036854775807) : (a + b).toInt = a.toInt + b.toInt := by
  rw [Int64.toInt_add, Int.bmod_eq_of_le (by omega) (by omega)]
theorem jm_lsub {a b : Int64} (h1 : -9223372036854775808 ≤ a.toInt - b.toInt) (h2 : a.toInt - b.toInt ≤ 9223372036854775807) : (a - b).toInt = a.toInt - b.toInt := by
  rw [Int64.toInt_sub, Int.bmod_eq_of_le (by omega) (by omega)]
theorem jm_lmul {a b : Int64} (h1 : -9223372036854775808 ≤ a.toInt * b.toInt) (h2 : a.toInt * b.toInt ≤ 9223372036854775807) : (a * b).toInt = a.toInt * b.toInt := by
  rw [Int64.toInt_mul, Int.bmod_eq_of_le (by omega) (by omega)]
theorem jm_neg0 (x : Int32) : 0 - x = -x := by
  apply Int32.toInt_inj.mp
  simp
theorem jm_abs (x : Int32) : jf_absI x = jk_absI x := by
  unfold jf_absI jk_absI
  rw [jm_neg0]
/-- rows over pairs, and over places -/
def jm_fl {σ : Type} (f : Nat → Nat → σ → σ) (i : Nat) (s : σ) : σ := if i / 8 < i % 8 then f (i / 8) (i % 8) s else s
theorem jm_fl_skip {σ : Type} (f : Nat → Nat → σ → σ) (s : σ) (a : Nat) : ∀ k, k ≤ a + 1 → k ≤ 8 → jf_it (jm_fl f) s (8 * a + k) = jf_it (jm_fl f) s (8 * a)
  | 0, _, _ => rfl
  | k + 1, h1, h2 => by
    show jm_fl f (8 * a + k) (jf_it (jm_fl f) s (8 * a + k)) = _
    rw [jm_fl_skip f s a k (by omega) (by omega)]
    unfold jm_fl
    rw [if_neg (by omega)]
theorem jm_fl_row {σ : Type} (f : Nat → Nat → σ → σ) (s : σ) (a : Nat) (ha : a < 8) : ∀ n, a + 1 + n ≤ 8 → jf_it (jm_fl f) s (8 * a + (a + 1 + n)) = jf_fr (f a) (jf_it (jm_fl f) s (8 * a)) (a + 1) n
  | 0, h => jm_fl_skip f s a (a + 1) (by omega) (by omega)
  | n + 1, h => by
    show jm_fl f (8 * a + (a + 1 + n)) (jf_it (jm_fl f) s (8 * a + (a + 1 + n))) = f a (a + 1 + n) (jf_fr (f a) (jf_it (jm_fl f) s (8 * a)) (a + 1) n)
    rw [jm_fl_row f s a ha n (by omega)]
    generalize jf_fr (f a) (jf_it (jm_fl f) s (8 * a)) (a + 1) n = t
    unfold jm_fl
    rw [if_pos (by omega), show (8 * a + (a + 1 + n)) / 8 = a by omega, show (8 * a + (a + 1 + n)) % 8 = a + 1 + n by omega]
theorem jm_flat {σ : Type} (f : Nat → Nat → σ → σ) (s : σ) : ∀ a, a ≤ 8 → jf_it (fun a t => jf_fr (f a) t (a + 1) (8 - (a + 1))) s a = jf_it (jm_fl f) s (8 * a)
  | 0, _ => rfl
  | a + 1, h => by
    show jf_fr (f a) (jf_it (fun a t => jf_fr (f a) t (a + 1) (8 - (a + 1))) s a) (a + 1) (8 - (a + 1)) = _
    rw [jm_flat f s a (by omega), ← jm_fl_row f s a (by omega) (8 - (a + 1)) (by omega)]
    congr 1
    omega
theorem jm_spot {i : Nat} (h : i / 8 < i % 8) : jf_spot (i / 8) (i % 8) = i := by
  unfold jf_spot
  rw [if_pos h]
  omega
/-- what a model's row must hold -/
def jm_co (M : jf_B) : Prop := ∀ j, j < 64 → M 1 (24 + j) = -6 ∨ (0 ≤ (M 1 (24 + j)).toInt ∧ (M 1 (24 + j)).toInt ≤ 3 ∧ j / 8 < j % 8)
/-- a class's net and a model's row: what stands while rounds go -/
def jm_S (N M : jf_B) : Prop := (∀ i, i < 8 → N 1 i = M 1 i) ∧ (∀ j, j < 64 → N 5 j = if M 1 (24 + j) < 0 then -1 else M 1 (24 + j)) ∧ (∀ i, i < 8 → N 4 i = nI (jk_deg M i 8)) ∧ N 0 7 = nI (jk_cnt M 64)
theorem jm_neg6 : (-6 : Int32) < 0 := by decide
theorem jm_nneg {x : Int32} (h : 0 ≤ x.toInt) : ¬ x < 0 := by
  rw [Int32.lt_iff_toInt_lt, Int32.toInt_zero]
  omega
theorem jm_spot_c {a c : Nat} : jf_spot a c = jf_spot c a := by
  unfold jf_spot
  by_cases h1 : a < c
  · rw [if_pos h1, if_neg (by omega)]
  · rw [if_neg h1]
    by_cases h2 : c < a
    · rw [if_pos h2]
    · rw [if_neg h2, show a = c by omega]
theorem jm_joins {N M : jf_B} (hS : jm_S N M) (hC : jm_co M) {a c : Nat} (ha : a < 8) (hc : c < 8) : jf_joins N a c = jk_edge M a c := by
  have hl := jf_spot_lt ha hc
  unfold jf_joins jk_edge
  rw [hS.2.1 _ hl]
  rcases hC _ hl with h | ⟨h1, h2, h3⟩
  · rw [h, if_pos jm_neg6, if_pos rfl, if_pos jm_neg6]
    split <;> rfl
  · have hn := jm_nneg h1
    rw [if_neg hn, if_neg hn]
    have h4 : ¬ M 1 (24 + jf_spot a c) = -1 := by
      intro e
      rw [e] at h1
      exact absurd h1 (by decide)
    rw [if_neg h4]
    have h5 : ¬ a = c := by
      intro e
      subst e
      unfold jf_spot at h3
      rw [if_neg (by omega)] at h3
      omega
    rw [if_neg h5]
theorem jm_slots {N M : jf_B} (hS : jm_S N M) {i : Nat} (hi : i < 8) : jf_slots N i = nI (jk_deg M i 8 + 1) := by
  unfold jf_slots
  rw [hS.2.2.1 i hi]
  have hd := jk_deg_le M i 8
  by_cases q : jk_deg M i 8 = 0
  · rw [q, if_pos (by decide)]
  · rw [if_neg (nI_nle (by omega) (by omega)), nI_add]
theorem jm_rlo {N M : jf_B} (hS : jm_S N M) {i : Nat} (hi : i < 8) (hr : N 3 i = M 1 (16 + i)) : jf_rlo N i = jk_rlo M i := by
  unfold jf_rlo jk_rlo
  rw [jm_slots hS hi, hr]
theorem jm_most {N M : jf_B} (hS : jm_S N M) : ∀ n, n ≤ 8 → jf_most N n = nI (1 + jk_most M n)
  | 0, _ => rfl
  | n + 1, h => by
    unfold jf_most jk_most
    rw [jm_most hS n (by omega), jm_slots hS (show n < 8 by omega)]
    have hd := jk_deg_le M n 8
    have hm := jk_most_le M n
    by_cases q : jk_deg M n 8 ≤ jk_most M n
    · rw [if_pos q, if_neg]
      rw [nI_ltI (by omega) (by omega)]
      omega
    · rw [if_neg q, if_pos, Nat.add_comm]
      rw [nI_ltI (by omega) (by omega)]
      omega
theorem jm_measure {N M : jf_B} (hS : jm_S N M) : jf_measure N = nI (jk_meas M) := by
  unfold jf_measure jk_meas
  rw [jm_most hS 8 (by omega), pk_mul]
theorem jm_great {N M : jf_B} (hS : jm_S N M) (hC : jm_co M) : ∀ n, n ≤ 64 → jf_great N n = jk_great M n
  | 0, _ => rfl
  | n + 1, h => by
    unfold jf_great jk_great
    rw [jm_great hS hC n (by omega), hS.2.1 n (by omega)]
    have hg := jk_great_ge M n
    rcases hC n (by omega) with e | ⟨h1, h2, h3⟩
    · rw [e, if_pos jm_neg6, if_pos (Int32.le_trans (by decide) hg), if_neg]
      intro q
      exact absurd (Int32.lt_of_le_of_lt hg q) (by decide)
    · rw [if_neg (jm_nneg h1)]
      by_cases q : M 1 (24 + n) ≤ jk_great M n
      · rw [if_pos q, if_neg (Int32.not_lt.mpr q)]
      · rw [if_neg q, if_pos (Int32.not_le.mp q)]
theorem jm_colours {N M : jf_B} (hS : jm_S N M) (hC : jm_co M) : jf_colours N = jk_col M := by
  unfold jf_colours jk_col
  rw [jm_great hS hC 64 (by omega), Int32.add_comm]
theorem jm_sumS {N M : jf_B} (hS : jm_S N M) : ∀ n, n ≤ 8 → jf_sumS N n = jk_sum M 0 n
  | 0, _ => rfl
  | n + 1, h => by
    unfold jf_sumS jk_sum
    rw [jm_sumS hS n (by omega), hS.1 n (by omega), Nat.zero_add]
