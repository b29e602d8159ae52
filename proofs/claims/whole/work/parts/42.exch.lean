/-! ===== sums; EXCHANGE: both sides ===== -/
def jm_sm (f : Nat → Int) : Nat → Int
  | 0 => 0
  | n + 1 => jm_sm f n + f n
theorem jm_sm_c {f g : Nat → Int} : ∀ {n : Nat}, (∀ k, k < n → g k = f k) → jm_sm g n = jm_sm f n
  | 0, _ => rfl
  | n + 1, h => by
    show jm_sm g n + g n = jm_sm f n + f n
    rw [jm_sm_c (fun k hk => h k (by omega)), h n (by omega)]
theorem jm_sm_1 {f g : Nat → Int} {a : Nat} (h : ∀ k, k ≠ a → g k = f k) : ∀ {n : Nat}, a < n → jm_sm g n = jm_sm f n + (g a - f a)
  | 0, ha => by omega
  | n + 1, ha => by
    show jm_sm g n + g n = jm_sm f n + f n + (g a - f a)
    by_cases q : n = a
    · subst q
      rw [jm_sm_c (fun k hk => h k (by omega))]
      omega
    · rw [jm_sm_1 h (show a < n by omega), h n q]
      omega
theorem jm_sm_2 {f g : Nat → Int} {a c : Nat} (hac : a ≠ c) (h : ∀ k, k ≠ a → k ≠ c → g k = f k) {n : Nat} (ha : a < n) (hc : c < n) : jm_sm g n = jm_sm f n + (g a - f a) + (g c - f c) := by
  have h1 : jm_sm (fun k => if k = a then g a else f k) n = jm_sm f n + (g a - f a) := by
    have := jm_sm_1 (f := f) (g := fun k => if k = a then g a else f k) (a := a) (fun k hk => by simp [hk]) ha
    simpa using this
  have h2 : jm_sm g n = jm_sm (fun k => if k = a then g a else f k) n + (g c - f c) := by
    have := jm_sm_1 (f := fun k => if k = a then g a else f k) (g := g) (a := c) (fun k hk => by
      by_cases q : k = a
      · simp [q]
      · simp only [q, if_false]; exact h k q hk) hc
    simpa [Ne.symm hac] using this
  rw [h2, h1]
theorem jm_sm_nn {f : Nat → Int} : ∀ {n : Nat}, (∀ k, k < n → 0 ≤ f k) → 0 ≤ jm_sm f n
  | 0, _ => by show (0 : Int) ≤ 0; omega
  | n + 1, h => by
    show 0 ≤ jm_sm f n + f n
    have := jm_sm_nn (f := f) (n := n) (fun k hk => h k (by omega))
    have := h n (by omega)
    omega
theorem jm_sm_ge {f : Nat → Int} {k : Nat} : ∀ {n : Nat}, (∀ k, k < n → 0 ≤ f k) → k < n → f k ≤ jm_sm f n
  | 0, _, hk => by omega
  | n + 1, h, hk => by
    show f k ≤ jm_sm f n + f n
    have h1 := jm_sm_nn (f := f) (n := n) (fun k hk => h k (by omega))
    have h2 := h n (by omega)
    by_cases q : k = n
    · subst q; omega
    · have := jm_sm_ge (f := f) (n := n) (fun k hk => h k (by omega)) (show k < n by omega)
      omega
theorem jm_sm_le {f g : Nat → Int} : ∀ {n : Nat}, (∀ k, k < n → f k ≤ g k) → jm_sm f n ≤ jm_sm g n
  | 0, _ => by show (0 : Int) ≤ 0; omega
  | n + 1, h => by
    show jm_sm f n + f n ≤ jm_sm g n + g n
    have := jm_sm_le (f := f) (g := g) (n := n) (fun k hk => h k (by omega))
    have := h n (by omega)
    omega
/-- what is above 0 in all, what is below 0 in all -/
def jm_ps (x : Nat → Int) : Int := jm_sm (fun k => max (x k) 0) 8
def jm_ng (x : Nat → Int) : Int := jm_sm (fun k => max (-(x k)) 0) 8
def jm_x (M : jf_B) (k : Nat) : Int := (M 1 (8 + k)).toInt
theorem jm_x_le {x : Nat → Int} {K : Int} (h1 : jm_ps x ≤ K) (h2 : jm_ng x ≤ K) {k : Nat} (hk : k < 8) : -K ≤ x k ∧ x k ≤ K := by
  have a := jm_sm_ge (f := fun k => max (x k) 0) (k := k) (n := 8) (fun k _ => by omega) hk
  have b := jm_sm_ge (f := fun k => max (-(x k)) 0) (k := k) (n := 8) (fun k _ => by omega) hk
  unfold jm_ps at h1
  unfold jm_ng at h2
  omega
theorem jm_tI (x : Int32) : -2147483648 ≤ x.toInt ∧ x.toInt ≤ 2147483647 := by
  have h1 := Int32.le_toInt x
  have h2 := Int32.toInt_lt x
  omega
theorem jm_ge0 {x : Int32} : (0 ≤ x) ↔ 0 ≤ x.toInt := by rw [Int32.le_iff_toInt_le, Int32.toInt_zero]
theorem jm_lt0 {x : Int32} : (x < 0) ↔ x.toInt < 0 := by rw [Int32.lt_iff_toInt_lt, Int32.toInt_zero]
theorem jm_le0 {x : Int32} : (x ≤ 0) ↔ x.toInt ≤ 0 := by rw [Int32.le_iff_toInt_le, Int32.toInt_zero]
theorem jm_tdiv {a b : Int} (h : a < 0) : a.tdiv b = -((-a) / b) := by
  have : a = -(-a) := by omega
  rw [this, Int.neg_tdiv, Int.tdiv_eq_ediv_of_nonneg (by omega)]
  simp
theorem jm_down {p q : Int32} (h1 : 1 ≤ q.toInt) (h8 : q.toInt ≤ 8) : (jk_down p q).toInt = p.toInt / q.toInt := by
  have hp := jm_tI p
  have hne : q ≠ -1 := by
    intro e
    rw [e] at h1
    exact absurd h1 (by decide)
  have hd := Int32.toInt_div_of_ne_right p q hne
  unfold jk_down
  by_cases c : 0 ≤ p
  · rw [if_pos c, hd, Int.tdiv_eq_ediv_of_nonneg (jm_ge0.mp c)]
  · have c2 : p.toInt < 0 := by
      have c3 : ¬ 0 ≤ p.toInt := fun z => c (jm_ge0.mpr z)
      omega
    rw [if_neg c]
    rw [jm_tdiv c2] at hd
    rcases (show q.toInt = 1 ∨ q.toInt = 2 ∨ q.toInt = 3 ∨ q.toInt = 4 ∨ q.toInt = 5 ∨ q.toInt = 6 ∨ q.toInt = 7 ∨ q.toInt = 8 by omega) with e | e | e | e | e | e | e | e <;>
    · rw [e] at hd ⊢
      have hm : (p / q * q).toInt = (p / q).toInt * q.toInt := jm_mul (by rw [e]; omega) (by rw [e]; omega)
      rw [e] at hm
      by_cases z : p / q * q = p
      · rw [if_pos z]
        rw [z] at hm
        omega
      · rw [if_neg z]
        have z2 : ¬ (p / q).toInt * _ = p.toInt := fun y => z (Int32.toInt_inj.mp (hm.trans y))
        have hs : (p / q - nI 1).toInt = (p / q).toInt - (nI 1).toInt := jm_sub (by rw [nI_toInt (by decide)]; omega) (by rw [nI_toInt (by decide)]; omega)
        rw [hs, nI_toInt (by decide)]
        omega
theorem jm_xor {p q : Int32} (hq : 0 ≤ q.toInt) : (0 ≤ p ^^^ q) ↔ 0 ≤ p := by
  have key : ∀ z : Int32, (0 ≤ z) ↔ z.toBitVec.msb = false := by
    intro z
    rw [jm_ge0, BitVec.msb_eq_toInt]
    show 0 ≤ z.toBitVec.toInt ↔ _
    simp
  rw [key, key, Int32.toBitVec_xor, BitVec.msb_xor]
  have : q.toBitVec.msb = false := (key q).mp (jm_ge0.mpr hq)
  rw [this]
  simp
theorem jm_fdiv {p q : Int32} (hq : 0 ≤ q.toInt) : jf_fdiv p q = jk_down p q := by
  unfold jf_fdiv jk_down
  by_cases c : 0 ≤ p
  · rw [if_pos ((jm_xor hq).mpr c), if_pos c]
  · rw [if_neg (fun z => c ((jm_xor hq).mp z)), if_neg c]
theorem jm_two {N : jf_B} {a c : Nat} (h1 : 1 ≤ (N 1 a).toInt) (h2 : (N 1 a).toInt ≤ 4) (h3 : 1 ≤ (N 1 c).toInt) (h4 : (N 1 c).toInt ≤ 4) : jf_two N a c = N 1 a + N 1 c := by
  unfold jf_two
  rw [if_neg]
  rw [Int32.lt_iff_toInt_lt, jm_add (by omega) (by omega), nI_toInt (by decide)]
  omega
/-- what both get, in whole numbers -/
theorem jm_ev {M : jf_B} {a c : Nat} (hs1 : 1 ≤ (M 1 a).toInt) (hs2 : (M 1 a).toInt ≤ 4) (hs3 : 1 ≤ (M 1 c).toInt) (hs4 : (M 1 c).toInt ≤ 4) (hx : -100000000 ≤ jm_x M a ∧ jm_x M a ≤ 100000000) (hy : -100000000 ≤ jm_x M c ∧ jm_x M c ≤ 100000000) :
    jk_evF M a c = (if M 1 (8 + a) < M 1 (8 + c) then jk_ev1 M a c else M 1 (8 + a) + M 1 (8 + c) - jk_ev2 M a c) ∧ (M 1 (8 + a) + M 1 (8 + c) - jk_evF M a c).toInt = jm_x M a + jm_x M c - (jk_evF M a c).toInt ∧ (0 ≤ jm_x M a + jm_x M c → 0 ≤ (jk_evF M a c).toInt ∧ (jk_evF M a c).toInt ≤ jm_x M a + jm_x M c) ∧ (jm_x M a + jm_x M c < 0 → (jk_evF M a c).toInt ≤ 0 ∧ jm_x M a + jm_x M c ≤ (jk_evF M a c).toInt) := by
  unfold jm_x at hx hy ⊢
  have hb : (M 1 (8 + a) + M 1 (8 + c)).toInt = (M 1 (8 + a)).toInt + (M 1 (8 + c)).toInt := jm_add (by omega) (by omega)
  have hS : (M 1 a + M 1 c).toInt = (M 1 a).toInt + (M 1 c).toInt := jm_add (by omega) (by omega)
  have e1 : jk_ev1 M a c = jk_down (M 1 a * (M 1 (8 + a) + M 1 (8 + c))) (M 1 a + M 1 c) := by unfold jk_ev1; rw [Nat.zero_add, Nat.zero_add]
  have e2 : jk_ev2 M a c = jk_down (M 1 c * (M 1 (8 + a) + M 1 (8 + c))) (M 1 a + M 1 c) := by unfold jk_ev2; rw [Nat.zero_add, Nat.zero_add]
  have f1 : (jk_ev1 M a c).toInt = (M 1 a * (M 1 (8 + a) + M 1 (8 + c))).toInt / ((M 1 a).toInt + (M 1 c).toInt) := by rw [e1, jm_down (by omega) (by omega), hS]
  have f2 : (jk_ev2 M a c).toInt = (M 1 c * (M 1 (8 + a) + M 1 (8 + c))).toInt / ((M 1 a).toInt + (M 1 c).toInt) := by rw [e2, jm_down (by omega) (by omega), hS]
  have g1 : (M 1 a * (M 1 (8 + a) + M 1 (8 + c))).toInt = (M 1 a).toInt * ((M 1 (8 + a)).toInt + (M 1 (8 + c)).toInt) := by
    rw [← hb]
    refine jm_mul ?_ ?_ <;> rw [hb] <;> rcases (show (M 1 a).toInt = 1 ∨ (M 1 a).toInt = 2 ∨ (M 1 a).toInt = 3 ∨ (M 1 a).toInt = 4 by omega) with e | e | e | e <;> rw [e] <;> omega
  have g2 : (M 1 c * (M 1 (8 + a) + M 1 (8 + c))).toInt = (M 1 c).toInt * ((M 1 (8 + a)).toInt + (M 1 (8 + c)).toInt) := by
    rw [← hb]
    refine jm_mul ?_ ?_ <;> rw [hb] <;> rcases (show (M 1 c).toInt = 1 ∨ (M 1 c).toInt = 2 ∨ (M 1 c).toInt = 3 ∨ (M 1 c).toInt = 4 by omega) with e | e | e | e <;> rw [e] <;> omega
  rw [g1] at f1
  rw [g2] at f2
  generalize hu : (M 1 (8 + a)).toInt = u at *
  generalize hv : (M 1 (8 + c)).toInt = v at *
  -- the two parts and what is left over
  have key : ((jk_ev1 M a c).toInt + (jk_ev2 M a c).toInt = u + v ∨ (jk_ev1 M a c).toInt + (jk_ev2 M a c).toInt = u + v - 1) ∧ (0 ≤ u + v → 0 ≤ (jk_ev1 M a c).toInt ∧ 0 ≤ (jk_ev2 M a c).toInt) ∧ (u + v < 0 → (jk_ev1 M a c).toInt < 0 ∧ (jk_ev2 M a c).toInt < 0) ∧ -1000000000 ≤ (jk_ev1 M a c).toInt ∧ (jk_ev1 M a c).toInt ≤ 1000000000 ∧ -1000000000 ≤ (jk_ev2 M a c).toInt ∧ (jk_ev2 M a c).toInt ≤ 1000000000 := by
    rw [f1, f2]
    rcases (show (M 1 a).toInt = 1 ∨ (M 1 a).toInt = 2 ∨ (M 1 a).toInt = 3 ∨ (M 1 a).toInt = 4 by omega) with e | e | e | e <;> rcases (show (M 1 c).toInt = 1 ∨ (M 1 c).toInt = 2 ∨ (M 1 c).toInt = 3 ∨ (M 1 c).toInt = 4 by omega) with e3 | e3 | e3 | e3 <;> rw [e, e3] <;> omega
  obtain ⟨k1, k2, k3, k4, k5, k6, k7⟩ := key
  have hL1 : (M 1 (8 + a) + M 1 (8 + c) - jk_ev1 M a c).toInt = u + v - (jk_ev1 M a c).toInt := by rw [← hb]; exact jm_sub (by omega) (by omega)
  have hL : (jk_evL M a c).toInt = u + v - (jk_ev1 M a c).toInt - (jk_ev2 M a c).toInt := by
    unfold jk_evL
    rw [← hL1]
    exact jm_sub (by omega) (by omega)
  have hB2 : (M 1 (8 + a) + M 1 (8 + c) - jk_ev2 M a c).toInt = u + v - (jk_ev2 M a c).toInt := by rw [← hb]; exact jm_sub (by omega) (by omega)
  have h0 : jk_ev1 M a c + nI 0 = jk_ev1 M a c := Int32.add_zero _
  have hF : jk_evF M a c = (if M 1 (8 + a) < M 1 (8 + c) then jk_ev1 M a c else M 1 (8 + a) + M 1 (8 + c) - jk_ev2 M a c) := by
    unfold jk_evF
    by_cases q : M 1 (8 + a) < M 1 (8 + c)
    · rw [if_pos q, if_pos q, h0]
      split <;> rfl
    · rw [if_neg q, if_neg q]
      by_cases z : jk_evL M a c ≤ 0
      · rw [if_pos z, h0]
        have z2 := jm_le0.mp z
        apply Int32.toInt_inj.mp
        omega
      · rw [if_neg z]
        have : (jk_ev1 M a c + jk_evL M a c).toInt = (jk_ev1 M a c).toInt + (jk_evL M a c).toInt := jm_add (by omega) (by omega)
        apply Int32.toInt_inj.mp
        omega
  have hFi : (jk_evF M a c).toInt = (jk_ev1 M a c).toInt ∨ (jk_evF M a c).toInt = u + v - (jk_ev2 M a c).toInt := by
    rw [hF]
    split
    · exact Or.inl rfl
    · exact Or.inr hB2
  refine ⟨hF, ?_, ?_, ?_⟩
  · rw [← hb]; exact jm_sub (by omega) (by omega)
  · intro; omega
  · intro; omega
