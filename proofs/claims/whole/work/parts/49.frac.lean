/-! ===== fractions, how uneven ===== -/
theorem jm_if {α : Type} {p q : Prop} [Decidable p] [Decidable q] (h : p ↔ q) {a b : α} : (if p then a else b) = if q then a else b := by
  by_cases z : p
  · rw [if_pos z, if_pos (h.mp z)]
  · rw [if_neg z, if_neg (fun y => z (h.mpr y))]
theorem jm_i64 (x : Int32) : x.toInt64.toInt = x.toInt := Int32.toInt_toInt64 x
theorem jm_lin {x y : Int64} (h : x.toInt = y.toInt) : x = y := Int64.toInt_inj.mp h
theorem jm_lrg (x : Int64) : -9223372036854775808 ≤ x.toInt ∧ x.toInt ≤ 9223372036854775807 := by
  have h1 := Int64.le_toInt x
  have h2 := Int64.toInt_lt x
  omega
theorem jm_lN {x : Int64} (h : 0 ≤ x.toInt) : ∃ u : Nat, u < 2 ^ 63 ∧ x = lN u ∧ (u : Int) = x.toInt := by
  have h1 := jm_lrg x
  refine ⟨x.toInt.toNat, by omega, ?_, by omega⟩
  apply jm_lin
  rw [pk_lT (by omega)]
  omega
theorem jm_cdL0 (x : Int64) : ∀ d, jf_cdL d x (lN 0) = x
  | 0 => rfl
  | d + 1 => by
    unfold jf_cdL
    rw [if_pos (by decide)]
theorem jm_cdLs {d x y : Nat} (hx : x < 2 ^ 63) (hy : y < 2 ^ 63) (h0 : 0 < y) : jf_cdL (d + 1) (lN x) (lN y) = jf_cdL d (lN y) (lN (x % y)) := by
  conv => lhs; unfold jf_cdL
  rw [if_neg, pk_lRem hx h0 hy]
  intro e
  have := (pk_lEQ (a := y) (b := 0) hy (by decide)).mp ((lg_cmp_eq _ _).mp e)
  omega
theorem jm_cdL : ∀ (k d x y : Nat), y < 2 ^ k → 2 * k ≤ d → x < 2 ^ 63 → y < 2 ^ 63 → jf_cdL d (lN x) (lN y) = lN (Nat.gcd x y)
  | 0, d, x, y, h1, h2, hx, hy => by
    rw [show y = 0 by simpa using h1, jm_cdL0, Nat.gcd_zero_right]
  | k + 1, d, x, y, h1, h2, hx, hy => by
    by_cases q : y = 0
    · rw [q, jm_cdL0, Nat.gcd_zero_right]
    · obtain ⟨d, rfl⟩ : ∃ e, d = e + 1 + 1 := ⟨d - 2, by omega⟩
      rw [jm_cdLs hx hy (by omega)]
      have hr : x % y < y := Nat.mod_lt x (by omega)
      have g1 : Nat.gcd x y = Nat.gcd y (x % y) := by rw [Nat.gcd_comm x y, Nat.gcd_rec y x, Nat.gcd_comm]
      generalize x % y = r at *
      by_cases q2 : r = 0
      · rw [g1, q2, jm_cdL0, Nat.gcd_zero_right]
      · rw [jm_cdLs hy (by omega) (by omega)]
        have hs : y % r < r := Nat.mod_lt y (by omega)
        have h3 : y % r ≤ y - r := by
          have := Nat.mod_eq_sub_mod (a := y) (b := r) (by omega)
          rw [this]
          exact Nat.mod_le _ _
        rw [jm_cdL k d r (y % r) (by rw [Nat.pow_succ] at h1; omega) (by omega) (by omega) (by omega), g1]
        congr 1
        rw [Nat.gcd_comm y r, Nat.gcd_rec r y, Nat.gcd_comm]
theorem jm_labs {u : Nat} (hu : u < 2 ^ 63) : jf_labs (lN u) = lN u := by
  unfold jf_labs
  by_cases q : 0 < lN u
  · rw [if_pos q]
  · rw [if_neg q]
    have : u = 0 := by
      by_cases z : u = 0
      · exact z
      · exact absurd ((pk_lLT (a := 0) (b := u) (by decide) hu).mpr (by omega)) q
    rw [this]
    decide
theorem jm_part {u w : Nat} (hu : u < 2 ^ 63) (h0 : 0 < w) (hw : w < 2 ^ 41) (pa : Int32) : jf_part (lN u) (lN w) pa = jk_tl u w pa := by
  have hc : jf_cd (lN u) (lN w) = lN (Nat.gcd w u) := by
    unfold jf_cd
    rw [jm_labs hu, jm_labs (by omega), jm_cdL 41 100 u w hw (by omega) hu (by omega), Nat.gcd_comm]
  unfold jf_part jk_tl
  rw [hc, if_neg]
  intro e
  exact jk_gcd_ne h0 (by omega) ((lg_cmp_eq _ _).mp e)
theorem jm_partL {U W : Int64} (hU : 0 ≤ U.toInt) (h0 : 0 < W.toInt) (hW : W.toInt < 2 ^ 41) (pa : Int32) : jf_part U W pa = jk_tR U W pa ∧ jk_fr U W := by
  obtain ⟨u, hu, eu, fu⟩ := jm_lN hU
  obtain ⟨w, hw, ew, fw⟩ := jm_lN (x := W) (by omega)
  rw [eu, ew, jk_tR_n hu hw]
  exact ⟨jm_part hu (by omega) (by omega) pa, ⟨u, hu, rfl⟩, w, hw, by omega, rfl⟩
/-- jobs and speeds are small -/
theorem jm_b4 {x s : Int} (h : -7440000 ≤ x ∧ x ≤ 7440000) (h3 : 1 ≤ s ∧ s ≤ 4) : -29760000 ≤ x * s ∧ x * s ≤ 29760000 := by
  rcases (show s = 1 ∨ s = 2 ∨ s = 3 ∨ s = 4 by omega) with e | e | e | e <;> rw [e] <;> omega
theorem jm_xb {c : Nat} (hc : c ≤ 40000) {M : jf_B} (hI : jm_I c M) {k : Nat} (hk : k < 8) : -7440000 ≤ jm_x M k ∧ jm_x M k ≤ 7440000 := by
  have := jm_x_le (K := 7440000) (x := jm_x M) (by have := hI.2.2.2.2.2.2.1; omega) (by have := hI.2.2.2.2.2.2.2; omega) hk
  omega
def jm_s (M : jf_B) (k : Nat) : Int := (M 1 k).toInt
theorem jm_sb {c : Nat} {M : jf_B} (hI : jm_I c M) {k : Nat} (hk : k < 8) : 1 ≤ jm_s M k ∧ jm_s M k ≤ 4 := hI.2.1 k hk
theorem jm_pr {c : Nat} (hc : c ≤ 40000) {M : jf_B} (hI : jm_I c M) {i j : Nat} (hi : i < 8) (hj : j < 8) : (M 1 (8 + i) * M 1 (0 + j)).toInt = jm_x M i * jm_s M j := by
  have h := jm_b4 (jm_xb hc hI hi) (jm_sb hI hj)
  unfold jm_x jm_s at h ⊢
  rw [Nat.zero_add]
  exact jm_mul (by omega) (by omega)
theorem jm_gapI {c : Nat} (hc : c ≤ 40000) {N M : jf_B} (hR : jm_R N M) (hI : jm_I c M) {i j : Nat} (hi : i < 8) (hj : j < 8) : (jf_gap N i j).toInt = jm_x M i * jm_s M j - jm_x M j * jm_s M i := by
  have h1 := jm_b4 (jm_xb hc hI hi) (jm_sb hI hj)
  have h2 := jm_b4 (jm_xb hc hI hj) (jm_sb hI hi)
  unfold jm_x jm_s at h1 h2 ⊢
  unfold jf_gap
  rw [hR.2.1 i hi, hR.2.1 j hj, hR.1.1 i hi, hR.1.1 j hj]
  have e1 : ((M 1 (8 + i)).toInt64 * (M 1 j).toInt64).toInt = (M 1 (8 + i)).toInt * (M 1 j).toInt := by
    rw [jm_lmul] <;> rw [jm_i64, jm_i64] <;> omega
  have e2 : ((M 1 (8 + j)).toInt64 * (M 1 i).toInt64).toInt = (M 1 (8 + j)).toInt * (M 1 i).toInt := by
    rw [jm_lmul] <;> rw [jm_i64, jm_i64] <;> omega
  rw [jm_lsub] <;> rw [e1, e2] <;> omega
theorem jm_hi {c : Nat} (hc : c ≤ 40000) {N M : jf_B} (hR : jm_R N M) (hI : jm_I c M) : ∀ i, i < 8 → jf_hi N i = jk_hi M i
  | 0, _ => rfl
  | i + 1, h => by
    have ih := jm_hi hc hR hI i (by omega)
    have hl := jk_hi_le M i
    show (if lg_cmp (jf_gap N (i + 1) (jf_hi N i)) 0 ≤ 0 then jf_hi N i else i + 1) = (if M 1 (8 + (i + 1)) * M 1 (0 + jk_hi M i) ≤ M 1 (8 + jk_hi M i) * M 1 (0 + (i + 1)) then jk_hi M i else i + 1)
    rw [ih]
    refine jm_if ?_
    rw [lg_cmp_le, Int64.le_iff_toInt_le, Int32.le_iff_toInt_le, jm_gapI hc hR hI h (by omega), jm_pr hc hI h (by omega), jm_pr hc hI (by omega) h, show (0 : Int64).toInt = 0 from rfl]
    omega
theorem jm_lo {c : Nat} (hc : c ≤ 40000) {N M : jf_B} (hR : jm_R N M) (hI : jm_I c M) : ∀ i, i < 8 → jf_lo N i = jk_lo M i
  | 0, _ => rfl
  | i + 1, h => by
    have ih := jm_lo hc hR hI i (by omega)
    have hl := jk_lo_le M i
    show (if 0 ≤ lg_cmp (jf_gap N (i + 1) (jf_lo N i)) 0 then jf_lo N i else i + 1) = (if M 1 (8 + jk_lo M i) * M 1 (0 + (i + 1)) ≤ M 1 (8 + (i + 1)) * M 1 (0 + jk_lo M i) then jk_lo M i else i + 1)
    rw [ih]
    refine jm_if ?_
    rw [lg_cmp_ge, Int64.le_iff_toInt_le, Int32.le_iff_toInt_le, jm_gapI hc hR hI h (by omega), jm_pr hc hI h (by omega), jm_pr hc hI (by omega) h, show (0 : Int64).toInt = 0 from rfl]
    omega
theorem jm_tr {a b c sa sb sc : Int} (h0 : 0 < sb) (ha : 0 < sa) (hc : 0 < sc) (h1 : a * sb ≤ b * sa) (h2 : b * sc ≤ c * sb) : a * sc ≤ c * sa := by
  have e1 := Int.mul_le_mul_of_nonneg_right h1 (Int.le_of_lt hc)
  have e2 := Int.mul_le_mul_of_nonneg_right h2 (Int.le_of_lt ha)
  have e3 : (a * sc) * sb ≤ (c * sa) * sb := by grind
  exact Int.le_of_mul_le_mul_right e3 h0
theorem jm_hi_max {c : Nat} (hc : c ≤ 40000) {M : jf_B} (hI : jm_I c M) : ∀ i, i < 8 → ∀ k, k ≤ i → jm_x M k * jm_s M (jk_hi M i) ≤ jm_x M (jk_hi M i) * jm_s M k
  | 0, _, k, hk => by rw [show k = 0 by omega]; exact Int.le_refl _
  | i + 1, h, k, hk => by
    have ih := jm_hi_max hc hI i (by omega)
    have hl := jk_hi_le M i
    have e : jk_hi M (i + 1) = (if M 1 (8 + (i + 1)) * M 1 (0 + jk_hi M i) ≤ M 1 (8 + jk_hi M i) * M 1 (0 + (i + 1)) then jk_hi M i else i + 1) := rfl
    rw [e]
    have hq : (M 1 (8 + (i + 1)) * M 1 (0 + jk_hi M i) ≤ M 1 (8 + jk_hi M i) * M 1 (0 + (i + 1))) ↔ jm_x M (i + 1) * jm_s M (jk_hi M i) ≤ jm_x M (jk_hi M i) * jm_s M (i + 1) := by
      rw [Int32.le_iff_toInt_le, jm_pr hc hI h (by omega), jm_pr hc hI (by omega) h]
    by_cases q : M 1 (8 + (i + 1)) * M 1 (0 + jk_hi M i) ≤ M 1 (8 + jk_hi M i) * M 1 (0 + (i + 1))
    · rw [if_pos q]
      by_cases z : k = i + 1
      · rw [z]; exact hq.mp q
      · exact ih k (by omega)
    · rw [if_neg q]
      by_cases z : k = i + 1
      · rw [z]; exact Int.le_refl _
      · have hs := jm_sb hI (show jk_hi M i < 8 by omega)
        have h1 := jm_sb hI (show k < 8 by omega)
        have h2 := jm_sb hI h
        exact jm_tr (b := jm_x M (jk_hi M i)) (sb := jm_s M (jk_hi M i)) (by omega) (by omega) (by omega) (ih k (by omega)) (by have := mt hq.mpr q; omega)
theorem jm_up {c : Nat} (hc : c ≤ 40000) {M : jf_B} (hI : jm_I c M) : (jk_up M).toInt = jm_x M (jk_hi M 7) * jm_s M (jk_lo M 7) - jm_x M (jk_lo M 7) * jm_s M (jk_hi M 7) ∧ 0 ≤ (jk_up M).toInt ∧ (jk_up M).toInt ≤ 60000000 ∧ (jk_dn M).toInt = jm_s M (jk_hi M 7) * jm_s M (jk_lo M 7) ∧ 1 ≤ (jk_dn M).toInt ∧ (jk_dn M).toInt ≤ 16 := by
  have hh := jk_hi_le M 7
  have hl := jk_lo_le M 7
  have hm := jm_hi_max hc hI 7 (by omega) (jk_lo M 7) hl
  have h1 := jm_b4 (jm_xb hc hI (show jk_hi M 7 < 8 by omega)) (jm_sb hI (show jk_lo M 7 < 8 by omega))
  have h2 := jm_b4 (jm_xb hc hI (show jk_lo M 7 < 8 by omega)) (jm_sb hI (show jk_hi M 7 < 8 by omega))
  have s1 := jm_sb hI (show jk_hi M 7 < 8 by omega)
  have s2 := jm_sb hI (show jk_lo M 7 < 8 by omega)
  have e1 := jm_pr hc hI (show jk_hi M 7 < 8 by omega) (show jk_lo M 7 < 8 by omega)
  have e2 := jm_pr hc hI (show jk_lo M 7 < 8 by omega) (show jk_hi M 7 < 8 by omega)
  have e3 : (jk_up M).toInt = jm_x M (jk_hi M 7) * jm_s M (jk_lo M 7) - jm_x M (jk_lo M 7) * jm_s M (jk_hi M 7) := by
    unfold jk_up
    rw [jm_sub, e1, e2] <;> rw [e1, e2] <;> omega
  have b : 1 ≤ jm_s M (jk_hi M 7) * jm_s M (jk_lo M 7) ∧ jm_s M (jk_hi M 7) * jm_s M (jk_lo M 7) ≤ 16 := by
    rcases (show jm_s M (jk_lo M 7) = 1 ∨ jm_s M (jk_lo M 7) = 2 ∨ jm_s M (jk_lo M 7) = 3 ∨ jm_s M (jk_lo M 7) = 4 by omega) with e | e | e | e <;> rw [e] <;> omega
  have e4 : (jk_dn M).toInt = jm_s M (jk_hi M 7) * jm_s M (jk_lo M 7) := by
    unfold jk_dn
    unfold jm_s at b ⊢
    rw [Nat.zero_add, Nat.zero_add]
    exact jm_mul (by omega) (by omega)
  refine ⟨e3, ?_, ?_, e4, ?_, ?_⟩ <;> omega
theorem jm_unev {c : Nat} (hc : c ≤ 40000) {N M : jf_B} (hR : jm_R N M) (hI : jm_I c M) : jf_gap N (jf_hi N 7) (jf_lo N 7) = (jk_up M).toInt64 ∧ (N 1 (jf_hi N 7)).toInt64 * (N 1 (jf_lo N 7)).toInt64 = (jk_dn M).toInt64 ∧ (∀ pa, jf_part (jk_up M).toInt64 (jk_dn M).toInt64 pa = jk_tR (jk_up M).toInt64 (jk_dn M).toInt64 pa) ∧ jk_fr (jk_up M).toInt64 (jk_dn M).toInt64 := by
  have hh := jk_hi_le M 7
  have hl := jk_lo_le M 7
  obtain ⟨u1, u2, u3, u4, u5, u6⟩ := jm_up hc hI
  rw [jm_hi hc hR hI 7 (by omega), jm_lo hc hR hI 7 (by omega)]
  refine ⟨jm_lin ?_, jm_lin ?_, fun pa => (jm_partL ?_ ?_ ?_ pa).1, (jm_partL ?_ ?_ ?_ 0).2⟩
  · rw [jm_gapI hc hR hI (by omega) (by omega), jm_i64, u1]
  · rw [hR.1.1 _ (by omega), hR.1.1 _ (by omega)]
    unfold jm_s at u4
    rw [jm_lmul] <;> rw [jm_i64, jm_i64] <;> first | rw [jm_i64, u4] | omega
  all_goals rw [jm_i64]; omega
theorem jm_even {c : Nat} (hc : c ≤ 40000) {N M : jf_B} (hR : jm_R N M) (hI : jm_I c M) {d : Int32} (hd : 0 ≤ d.toInt ∧ d.toInt ≤ 99) : jf_even N d = jk_isEv M d := by
  obtain ⟨e1, e2, _, _⟩ := jm_unev hc hR hI
  obtain ⟨u1, u2, u3, u4, u5, u6⟩ := jm_up hc hI
  unfold jf_even jk_isEv
  rw [e1, Int64.mul_assoc, e2]
  refine jm_if ?_
  have b : 0 ≤ d.toInt * (jk_dn M).toInt ∧ d.toInt * (jk_dn M).toInt ≤ 2000 := by
    generalize (jk_dn M).toInt = w at *
    rcases (show w = 1 ∨ w = 2 ∨ w = 3 ∨ w = 4 ∨ w = 5 ∨ w = 6 ∨ w = 7 ∨ w = 8 ∨ w = 9 ∨ w = 10 ∨ w = 11 ∨ w = 12 ∨ w = 13 ∨ w = 14 ∨ w = 15 ∨ w = 16 by omega) with e | e | e | e | e | e | e | e | e | e | e | e | e | e | e | e <;> rw [e] <;> omega
  rw [lg_cmp_gt, Int64.lt_iff_toInt_lt, Int32.lt_iff_toInt_lt, jm_i64, jm_mul (by omega) (by omega), jm_lmul, jm_i64, jm_i64] <;> rw [jm_i64, jm_i64] <;> omega
