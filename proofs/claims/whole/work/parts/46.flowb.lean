/-! ===== FLOW: how far jobs can go ===== -/
def jm_wt (M : jf_B) (i : Nat) : Nat := if M 1 (24 + i) < 0 then 0 else 1
def jm_dp (M : jf_B) (k : Nat) : Nat → Nat
  | 0 => 0
  | i + 1 => jm_dp M k i + if i / 8 = k ∨ i % 8 = k then jm_wt M i else 0
theorem jm_deg_s (M : jf_B) (n k : Nat) : jk_deg M n (k + 1) = jk_deg M n k + if n = k then 0 else jm_wt M (jf_spot n k) := by
  show (if jk_edge M n k then jk_deg M n k + 1 else jk_deg M n k + 0) = _
  unfold jk_edge jm_wt
  by_cases q : n = k
  · rw [if_pos q, if_pos q, if_neg (by decide)]
  · rw [if_neg q, if_neg q]
    by_cases z : M 1 (24 + jf_spot n k) < 0
    · rw [if_pos z, if_pos z, if_neg (by decide)]
    · rw [if_neg z, if_neg z, if_pos rfl]
theorem jm_deg_0 (M : jf_B) (n : Nat) : jk_deg M n 0 = 0 := rfl
theorem jm_wt0 {M : jf_B} (hC : jm_co M) {i : Nat} (hi : i < 64) (h : ¬ i / 8 < i % 8) : jm_wt M i = 0 := by
  unfold jm_wt
  rcases hC i hi with e | ⟨_, _, e⟩
  · rw [e, if_pos jm_neg6]
  · exact absurd e h
theorem jm_dp_le {M : jf_B} (hC : jm_co M) {k : Nat} (hk : k < 8) : jm_dp M k 64 = jk_deg M k 8 := by
  have z : ∀ i, i < 64 → ¬ i / 8 < i % 8 → jm_wt M i = 0 := fun i hi h => jm_wt0 hC hi h
  have z0 := z 0 (by decide) (by decide)
  have z8 := z 8 (by decide) (by decide)
  have z9 := z 9 (by decide) (by decide)
  have z16 := z 16 (by decide) (by decide)
  have z17 := z 17 (by decide) (by decide)
  have z18 := z 18 (by decide) (by decide)
  have z24 := z 24 (by decide) (by decide)
  have z25 := z 25 (by decide) (by decide)
  have z26 := z 26 (by decide) (by decide)
  have z27 := z 27 (by decide) (by decide)
  have z32 := z 32 (by decide) (by decide)
  have z33 := z 33 (by decide) (by decide)
  have z34 := z 34 (by decide) (by decide)
  have z35 := z 35 (by decide) (by decide)
  have z36 := z 36 (by decide) (by decide)
  have z40 := z 40 (by decide) (by decide)
  have z41 := z 41 (by decide) (by decide)
  have z42 := z 42 (by decide) (by decide)
  have z43 := z 43 (by decide) (by decide)
  have z44 := z 44 (by decide) (by decide)
  have z45 := z 45 (by decide) (by decide)
  have z48 := z 48 (by decide) (by decide)
  have z49 := z 49 (by decide) (by decide)
  have z50 := z 50 (by decide) (by decide)
  have z51 := z 51 (by decide) (by decide)
  have z52 := z 52 (by decide) (by decide)
  have z53 := z 53 (by decide) (by decide)
  have z54 := z 54 (by decide) (by decide)
  have z56 := z 56 (by decide) (by decide)
  have z57 := z 57 (by decide) (by decide)
  have z58 := z 58 (by decide) (by decide)
  have z59 := z 59 (by decide) (by decide)
  have z60 := z 60 (by decide) (by decide)
  have z61 := z 61 (by decide) (by decide)
  have z62 := z 62 (by decide) (by decide)
  have z63 := z 63 (by decide) (by decide)
  clear z
  rcases (show k = 0 ∨ k = 1 ∨ k = 2 ∨ k = 3 ∨ k = 4 ∨ k = 5 ∨ k = 6 ∨ k = 7 by omega) with rfl | rfl | rfl | rfl | rfl | rfl | rfl | rfl <;> simp [jm_dp, jm_deg_s, jm_deg_0, jf_spot, *] <;> omega
theorem jm_dp_mono (M : jf_B) (k : Nat) : ∀ {a b : Nat}, a ≤ b → jm_dp M k a ≤ jm_dp M k b
  | a, 0, h => by rw [show a = 0 by omega]; exact Nat.le_refl _
  | a, b + 1, h => by
    by_cases q : a = b + 1
    · rw [q]; exact Nat.le_refl _
    · have := jm_dp_mono M k (a := a) (b := b) (by omega)
      show _ ≤ jm_dp M k b + _
      omega
theorem jm_most_ge (M : jf_B) : ∀ n k, k < n → jk_deg M k 8 ≤ jk_most M n
  | 0, k, h => by omega
  | n + 1, k, h => by
    unfold jk_most
    by_cases q : k = n
    · subst q
      split <;> omega
    · have := jm_most_ge M n k (by omega)
      split <;> omega
theorem jm_deg7 (M : jf_B) {n : Nat} (hn : n < 8) : jk_deg M n 8 ≤ 7 := by
  have w : ∀ i, jm_wt M i ≤ 1 := fun i => by unfold jm_wt; split <;> omega
  have key : ∀ k, k ≤ 8 → jk_deg M n k ≤ if n < k then k - 1 else k := by
    intro k
    induction k with
    | zero => intro _; exact Nat.zero_le _
    | succ k ih =>
      intro hk
      have hI := ih (by omega)
      have hw := w (jf_spot n k)
      rw [jm_deg_s]
      by_cases q : n = k
      · rw [if_pos q, if_pos (show n < k + 1 by omega)]
        rw [if_neg (show ¬ n < k by omega)] at hI
        omega
      · rw [if_neg q]
        by_cases q2 : n < k
        · rw [if_pos q2] at hI
          rw [if_pos (show n < k + 1 by omega)]
          omega
        · rw [if_neg q2] at hI
          rw [if_neg (show ¬ n < k + 1 by omega)]
          omega
  have := key 8 (Nat.le_refl 8)
  rw [if_pos hn] at this
  exact this
theorem jm_most7 (M : jf_B) : ∀ n, n ≤ 8 → jk_most M n ≤ 7
  | 0, _ => Nat.zero_le _
  | n + 1, h => by
    unfold jk_most
    have := jm_most7 M n (by omega)
    have := jm_deg7 M (show n < 8 by omega)
    split <;> omega
theorem jm_meas32 (M : jf_B) : 4 ≤ jk_meas M ∧ jk_meas M ≤ 32 := by
  unfold jk_meas
  have := jm_most7 M 8 (by omega)
  omega
/-- how far FLOW has come, on one side of 0 -/
def jm_FI (sg : Int) (M0 : jf_B) (me : Int) (n : Nat) (M : jf_B) : Prop :=
  ∃ r J : Nat → Int, (∀ k, k < 8 → me - 4 * (jm_dp M0 k n : Int) ≤ r k) ∧ (∀ k, k < 8 → 0 ≤ J k) ∧ (∀ k, k < 8 → me * (sg * jm_y M k) ≤ r k * (sg * jm_x M0 k) + J k) ∧ jm_sm (fun k => r k * max (sg * jm_x M0 k) 0 + J k) 8 ≤ me * jm_sm (fun k => max (sg * jm_x M0 k) 0) 8 + 62 * (jk_cnt M0 n : Int)
theorem jm_sm_mul (c : Int) (f : Nat → Int) : ∀ n, jm_sm (fun k => c * f k) n = c * jm_sm f n
  | 0 => by show (0 : Int) = c * 0; omega
  | n + 1 => by
    show jm_sm (fun k => c * f k) n + c * f n = c * (jm_sm f n + f n)
    rw [jm_sm_mul c f n, Int.mul_add]
theorem jm_FI_0 (sg : Int) (M0 M : jf_B) {me : Int} (hm : 0 ≤ me) (h : ∀ k, k < 8 → jm_y M k = jm_x M0 k) : jm_FI sg M0 me 0 M := by
  refine ⟨fun _ => me, fun _ => 0, fun k _ => ?_, fun k _ => Int.le_refl 0, fun k hk => ?_, ?_⟩
  · show me - 4 * ((0 : Nat) : Int) ≤ me
    omega
  · rw [h k hk]
    show me * (sg * jm_x M0 k) ≤ me * (sg * jm_x M0 k) + 0
    omega
  · have e : jm_sm (fun k => me * max (sg * jm_x M0 k) 0 + 0) 8 = me * jm_sm (fun k => max (sg * jm_x M0 k) 0) 8 := by
      rw [← jm_sm_mul]
      exact jm_sm_c (fun k _ => by omega)
    rw [e]
    show _ ≤ _ + 62 * ((0 : Nat) : Int)
    omega
theorem jm_FI_skip {sg : Int} {M0 M : jf_B} {me : Int} {n : Nat} (hw : M0 1 (24 + n) < 0) (h : jm_FI sg M0 me n M) : jm_FI sg M0 me (n + 1) M := by
  obtain ⟨r, J, h1, h2, h3, h4⟩ := h
  have ew : jm_wt M0 n = 0 := by unfold jm_wt; rw [if_pos hw]
  have ed : ∀ k, jm_dp M0 k (n + 1) = jm_dp M0 k n := fun k => by
    show jm_dp M0 k n + _ = _
    rw [ew]
    split <;> rfl
  have ec : jk_cnt M0 (n + 1) = jk_cnt M0 n := by
    show (if M0 1 (24 + n) < 0 then jk_cnt M0 n + 0 else jk_cnt M0 n + 1) = _
    rw [if_pos hw]
    rfl
  exact ⟨r, J, fun k hk => by rw [ed k]; exact h1 k hk, h2, h3, by rw [ec]; exact h4⟩
theorem jm_FI_s {sg : Int} (hsg : sg = 1 ∨ sg = -1) {M0 M M' : jf_B} {me : Int} {n : Nat} {go dl : Int} (hw : ¬ M0 1 (24 + n) < 0) (hab : n / 8 ≠ n % 8) (ha : n / 8 < 8) (hb : n % 8 < 8) (hP : jm_sp M0) (hd1 : -62 ≤ dl) (hd2 : dl ≤ 62)
    (hgo : me * go = dl + jm_x M0 (n / 8) * (M0 1 (n % 8)).toInt - jm_x M0 (n % 8) * (M0 1 (n / 8)).toInt) (ya : jm_y M' (n / 8) = jm_y M (n / 8) - go) (yb : jm_y M' (n % 8) = jm_y M (n % 8) + go) (yo : ∀ k, k ≠ n / 8 → k ≠ n % 8 → jm_y M' k = jm_y M k) (h : jm_FI sg M0 me n M) : jm_FI sg M0 me (n + 1) M' := by
  obtain ⟨r, J, h1, h2, h3, h4⟩ := h
  generalize hA : n / 8 = a at *
  generalize hB : n % 8 = b at *
  have ew : jm_wt M0 n = 1 := by unfold jm_wt; rw [if_neg hw]
  have ed : ∀ k, jm_dp M0 k (n + 1) = jm_dp M0 k n + if a = k ∨ b = k then 1 else 0 := fun k => by
    show jm_dp M0 k n + (if n / 8 = k ∨ n % 8 = k then jm_wt M0 n else 0) = _
    rw [ew, hA, hB]
  have ec : jk_cnt M0 (n + 1) = jk_cnt M0 n + 1 := by
    show (if M0 1 (24 + n) < 0 then jk_cnt M0 n + 0 else jk_cnt M0 n + 1) = _
    rw [if_neg hw]
  have sa := hP a ha
  have sb := hP b hb
  generalize (M0 1 a).toInt = ua at *
  generalize (M0 1 b).toInt = ub at *
  generalize hxa : jm_x M0 a = xa at *
  generalize hxb : jm_x M0 b = xb at *
  -- what flows in counts for what is above 0
  have pa : ub * (sg * xa) ≤ ub * max (sg * xa) 0 := Int.mul_le_mul_of_nonneg_left (by omega) (by omega)
  have pb : ua * (sg * xb) ≤ ua * max (sg * xb) 0 := Int.mul_le_mul_of_nonneg_left (by omega) (by omega)
  have pa0 : 0 ≤ ub * max (sg * xa) 0 := Int.mul_nonneg (by omega) (by omega)
  have pb0 : 0 ≤ ua * max (sg * xb) 0 := Int.mul_nonneg (by omega) (by omega)
  have h3a := h3 a ha
  have h3b := h3 b hb
  rw [hxa] at h3a
  rw [hxb] at h3b
  have eg : me * (sg * go) = sg * dl + ub * (sg * xa) - ua * (sg * xb) := by
    rcases hsg with e | e <;> rw [e]
    · rw [Int.one_mul, Int.one_mul, Int.one_mul, Int.one_mul, hgo, Int.mul_comm xa, Int.mul_comm xb]
    · rw [show (-1 : Int) * go = -go by omega, Int.mul_neg, hgo, show (-1 : Int) * xa = -xa by omega, show (-1 : Int) * xb = -xb by omega, Int.mul_neg, Int.mul_neg, Int.mul_comm xa, Int.mul_comm xb]
      omega
  have e1 : me * (sg * (jm_y M a - go)) = me * (sg * jm_y M a) - me * (sg * go) := by rw [Int.mul_sub, Int.mul_sub]
  have e2 : me * (sg * (jm_y M b + go)) = me * (sg * jm_y M b) + me * (sg * go) := by rw [Int.mul_add, Int.mul_add]
  have hsd : -62 ≤ sg * dl ∧ sg * dl ≤ 62 := by rcases hsg with e | e <;> rw [e] <;> omega
  generalize sg * dl = sd at *
  refine ⟨fun k => if k = a then r a - ub else if k = b then r b - ua else r k, fun k => if k = a then J a + ua * max (sg * xb) 0 + max (-sd) 0 else if k = b then J b + ub * max (sg * xa) 0 + max sd 0 else J k, fun k hk => ?_, fun k hk => ?_, fun k hk => ?_, ?_⟩
  · have := h1 k hk
    dsimp only
    rw [ed k]
    by_cases q : k = a
    · rw [if_pos q, if_pos (Or.inl q.symm), ← q]
      omega
    · rw [if_neg q]
      by_cases q2 : k = b
      · rw [if_pos q2, if_pos (Or.inr q2.symm), ← q2]
        omega
      · rw [if_neg q2, if_neg (fun z => z.elim (fun y => q y.symm) (fun y => q2 y.symm))]
        omega
  · have := h2 k hk
    dsimp only
    by_cases q : k = a
    · rw [if_pos q, ← q]
      omega
    · rw [if_neg q]
      by_cases q2 : k = b
      · rw [if_pos q2, ← q2]
        omega
      · rw [if_neg q2]
        exact this
  · dsimp only
    by_cases q : k = a
    · rw [if_pos q, if_pos q, q, ya, e1, eg, hxa, Int.sub_mul]
      omega
    · rw [if_neg q, if_neg q]
      by_cases q2 : k = b
      · rw [if_pos q2, if_pos q2, q2, yb, e2, eg, hxb, Int.sub_mul]
        omega
      · rw [if_neg q2, if_neg q2, yo k q q2]
        exact h3 k hk
  · rw [jm_sm_2 (f := fun k => r k * max (sg * jm_x M0 k) 0 + J k) (a := a) (c := b) hab (fun k q q2 => by simp only [q, q2, if_false]) ha hb]
    simp only [if_true, if_neg (Ne.symm hab)]
    rw [hxa, hxb, Int.sub_mul, Int.sub_mul, ec]
    omega
