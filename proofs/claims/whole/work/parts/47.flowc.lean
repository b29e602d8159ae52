/-! ===== FLOW: carries and jobs stay small ===== -/
theorem jm_cnt_mono (M : jf_B) : ∀ {a b : Nat}, a ≤ b → jk_cnt M a ≤ jk_cnt M b
  | a, 0, h => by rw [show a = 0 by omega]; exact Nat.le_refl _
  | a, b + 1, h => by
    by_cases q : a = b + 1
    · rw [q]; exact Nat.le_refl _
    · have := jm_cnt_mono M (a := a) (b := b) (by omega)
      show _ ≤ (if M 1 (24 + b) < 0 then jk_cnt M b + 0 else jk_cnt M b + 1)
      split <;> omega
theorem jm_FI_r {M0 : jf_B} (hC : jm_co M0) {n k : Nat} (hn : n ≤ 64) (hk : k < 8) {r : Int} (h : ((jk_meas M0 : Nat) : Int) - 4 * (jm_dp M0 k n : Int) ≤ r) : 0 ≤ r := by
  have h1 := jm_dp_mono M0 k hn
  rw [jm_dp_le hC hk] at h1
  have h2 := jm_most_ge M0 8 k hk
  unfold jk_meas at h
  omega
theorem jm_FI_le {sg : Int} {M0 M : jf_B} (hC : jm_co M0) {n : Nat} (hn : n ≤ 64) (hE : jk_cnt M0 64 ≤ 12) (h : jm_FI sg M0 (jk_meas M0 : Nat) n M) {k : Nat} (hk : k < 8) : sg * jm_y M k ≤ jm_sm (fun k => max (sg * jm_x M0 k) 0) 8 + 186 := by
  obtain ⟨r, J, h1, h2, h3, h4⟩ := h
  have hm := jm_meas32 M0
  have hm4 : (4 : Int) ≤ (jk_meas M0 : Int) := by omega
  have hr : ∀ k, k < 8 → 0 ≤ r k := fun k hk => jm_FI_r hC hn hk (h1 k hk)
  have hnn : ∀ k, k < 8 → 0 ≤ r k * max (sg * jm_x M0 k) 0 := fun k hk => Int.mul_nonneg (hr k hk) (by omega)
  have hge := jm_sm_ge (f := fun k => r k * max (sg * jm_x M0 k) 0 + J k) (k := k) (n := 8) (fun k hk => by have := hnn k hk; have := h2 k hk; omega) hk
  have hle : r k * (sg * jm_x M0 k) ≤ r k * max (sg * jm_x M0 k) 0 := Int.mul_le_mul_of_nonneg_left (by omega) (hr k hk)
  have h3k := h3 k hk
  have hc := jm_cnt_mono M0 hn
  generalize jm_sm (fun k => max (sg * jm_x M0 k) 0) 8 = ps at *
  have key : (jk_meas M0 : Int) * (sg * jm_y M k) ≤ (jk_meas M0 : Int) * ps + 744 := by
    omega
  generalize (jk_meas M0 : Int) = me at *
  generalize sg * jm_y M k = z at *
  by_cases q : z ≤ ps + 186
  · exact q
  · have h5 : 4 * (z - ps) ≤ me * (z - ps) := Int.mul_le_mul_of_nonneg_right (by omega) (by omega)
    rw [Int.mul_sub me] at h5
    omega
theorem jm_FI_sum {sg : Int} {M0 M : jf_B} (hC : jm_co M0) (hE : jk_cnt M0 64 ≤ 12) (h : jm_FI sg M0 (jk_meas M0 : Nat) 64 M) : jm_sm (fun k => max (sg * jm_y M k) 0) 8 ≤ jm_sm (fun k => max (sg * jm_x M0 k) 0) 8 + 186 := by
  obtain ⟨r, J, h1, h2, h3, h4⟩ := h
  have hm := jm_meas32 M0
  have hm4 : (4 : Int) ≤ (jk_meas M0 : Int) := by omega
  have hr : ∀ k, k < 8 → 0 ≤ r k := fun k hk => jm_FI_r hC (Nat.le_refl 64) hk (h1 k hk)
  have hs : jm_sm (fun k => (jk_meas M0 : Int) * max (sg * jm_y M k) 0) 8 ≤ jm_sm (fun k => r k * max (sg * jm_x M0 k) 0 + J k) 8 := by
    refine jm_sm_le (fun k hk => ?_)
    have hle : r k * (sg * jm_x M0 k) ≤ r k * max (sg * jm_x M0 k) 0 := Int.mul_le_mul_of_nonneg_left (by omega) (hr k hk)
    have hnn : 0 ≤ r k * max (sg * jm_x M0 k) 0 := Int.mul_nonneg (hr k hk) (by omega)
    have h3k := h3 k hk
    have h2k := h2 k hk
    by_cases q : 0 ≤ sg * jm_y M k
    · rw [show max (sg * jm_y M k) 0 = sg * jm_y M k by omega]
      omega
    · rw [show max (sg * jm_y M k) 0 = 0 by omega, Int.mul_zero]
      omega
  rw [jm_sm_mul] at hs
  generalize jm_sm (fun k => max (sg * jm_x M0 k) 0) 8 = ps at *
  generalize jm_sm (fun k => max (sg * jm_y M k) 0) 8 = py at *
  generalize (jk_meas M0 : Int) = me at *
  have key : me * py ≤ me * ps + 744 := by omega
  by_cases q : py ≤ ps + 186
  · exact q
  · have h5 : 4 * (py - ps) ≤ me * (py - ps) := Int.mul_le_mul_of_nonneg_right (by omega) (by omega)
    rw [Int.mul_sub me] at h5
    omega
/-- cut towards 0: what is left is small, and not beyond -/
theorem jm_cut {w me : Int} (h1 : 4 ≤ me) (h2 : me ≤ 32) (hw1 : -1000000000 ≤ w) (hw2 : w ≤ 1000000000) : -31 ≤ w - me * w.tdiv me ∧ w - me * w.tdiv me ≤ 31 ∧ -1000000000 ≤ me * w.tdiv me ∧ me * w.tdiv me ≤ 1000000000 ∧ -1000000000 ≤ w.tdiv me ∧ w.tdiv me ≤ 1000000000 := by
  rcases (show me = 4 ∨ me = 5 ∨ me = 6 ∨ me = 7 ∨ me = 8 ∨ me = 9 ∨ me = 10 ∨ me = 11 ∨ me = 12 ∨ me = 13 ∨ me = 14 ∨ me = 15 ∨ me = 16 ∨ me = 17 ∨ me = 18 ∨ me = 19 ∨ me = 20 ∨ me = 21 ∨ me = 22 ∨ me = 23 ∨ me = 24 ∨ me = 25 ∨ me = 26 ∨ me = 27 ∨ me = 28 ∨ me = 29 ∨ me = 30 ∨ me = 31 ∨ me = 32 by omega) with e | e | e | e | e | e | e | e | e | e | e | e | e | e | e | e | e | e | e | e | e | e | e | e | e | e | e | e | e <;> subst e <;> by_cases q : 0 ≤ w <;> first | (rw [Int.tdiv_eq_ediv_of_nonneg q]; omega) | (rw [jm_tdiv (by omega)]; omega)
def jm_ca (M : jf_B) : Prop := ∀ j, j < 64 → (-31 ≤ (M 1 (88 + j)).toInt ∧ (M 1 (88 + j)).toInt ≤ 31) ∧ (M 1 (24 + j) < 0 → M 1 (88 + j) = 0)
def jm_FT (M0 : jf_B) (n : Nat) (T : jf_B × Int32) : Prop :=
  (∀ j, j < 88 ∨ 152 ≤ j → T.1 1 j = M0 1 j) ∧ (∀ j, n ≤ j → j < 64 → T.1 1 (88 + j) = M0 1 (88 + j)) ∧ jm_ca T.1 ∧ jm_FI 1 M0 (jk_meas M0 : Nat) n T.1 ∧ jm_FI (-1) M0 (jk_meas M0 : Nat) n T.1
theorem jm_ps_1 (x : Nat → Int) : jm_sm (fun k => max (1 * x k) 0) 8 = jm_ps x := jm_sm_c (fun k _ => by rw [Int.one_mul])
theorem jm_ng_1 (x : Nat → Int) : jm_sm (fun k => max (-1 * x k) 0) 8 = jm_ng x := jm_sm_c (fun k _ => by rw [show -1 * x k = -(x k) by omega])
theorem jm_FT_s {M0 : jf_B} (hC : jm_co M0) (hP : jm_sp M0) (hE : jk_cnt M0 64 ≤ 12) (hA : jm_ca M0) (h5 : jm_ps (jm_x M0) ≤ 50000000) (h6 : jm_ng (jm_x M0) ≤ 50000000) {n : Nat} (hn : n < 64) {T : jf_B × Int32} (h : jm_FT M0 n T) : jm_FT M0 (n + 1) (jk_flS (nI (jk_meas M0)) n T) := by
  obtain ⟨a1, a2, a3, a4, a5⟩ := h
  have eC : T.1 1 (24 + n) = M0 1 (24 + n) := a1 _ (by omega)
  unfold jk_flS
  rw [eC]
  by_cases q : M0 1 (24 + n) < 0
  · rw [if_pos q]
    exact ⟨a1, fun j hj hj2 => a2 j (by omega) hj2, a3, jm_FI_skip q a4, jm_FI_skip q a5⟩
  · rw [if_neg q]
    have c3 : n / 8 < n % 8 := by
      rcases hC n hn with e | ⟨_, _, e⟩
      · rw [e] at q; exact absurd jm_neg6 q
      · exact e
    have hab : n / 8 ≠ n % 8 := by omega
    have ha : n / 8 < 8 := by omega
    have hb : n % 8 < 8 := by omega
    have hm := jm_meas32 M0
    have sa := hP _ ha
    have sb := hP _ hb
    have xa := jm_x_le h5 h6 ha
    have xb := jm_x_le h5 h6 hb
    have hc := (hA n hn).1
    have ec : T.1 1 (88 + n) = M0 1 (88 + n) := a2 n (Nat.le_refl n) hn
    have hmI : (nI (jk_meas M0)).toInt = (jk_meas M0 : Int) := nI_toInt (by omega)
    -- the want
    have m1 : (M0 1 (8 + n / 8) * M0 1 (n % 8)).toInt = jm_x M0 (n / 8) * (M0 1 (n % 8)).toInt := by
      unfold jm_x at xa ⊢
      refine jm_mul ?_ ?_ <;> rcases (show (M0 1 (n % 8)).toInt = 1 ∨ (M0 1 (n % 8)).toInt = 2 ∨ (M0 1 (n % 8)).toInt = 3 ∨ (M0 1 (n % 8)).toInt = 4 by omega) with e | e | e | e <;> rw [e] <;> omega
    have m2 : (M0 1 (8 + n % 8) * M0 1 (n / 8)).toInt = jm_x M0 (n % 8) * (M0 1 (n / 8)).toInt := by
      unfold jm_x at xb ⊢
      refine jm_mul ?_ ?_ <;> rcases (show (M0 1 (n / 8)).toInt = 1 ∨ (M0 1 (n / 8)).toInt = 2 ∨ (M0 1 (n / 8)).toInt = 3 ∨ (M0 1 (n / 8)).toInt = 4 by omega) with e | e | e | e <;> rw [e] <;> omega
    have b1 : -200000000 ≤ jm_x M0 (n / 8) * (M0 1 (n % 8)).toInt ∧ jm_x M0 (n / 8) * (M0 1 (n % 8)).toInt ≤ 200000000 := by
      rcases (show (M0 1 (n % 8)).toInt = 1 ∨ (M0 1 (n % 8)).toInt = 2 ∨ (M0 1 (n % 8)).toInt = 3 ∨ (M0 1 (n % 8)).toInt = 4 by omega) with e | e | e | e <;> rw [e] <;> omega
    have b2 : -200000000 ≤ jm_x M0 (n % 8) * (M0 1 (n / 8)).toInt ∧ jm_x M0 (n % 8) * (M0 1 (n / 8)).toInt ≤ 200000000 := by
      rcases (show (M0 1 (n / 8)).toInt = 1 ∨ (M0 1 (n / 8)).toInt = 2 ∨ (M0 1 (n / 8)).toInt = 3 ∨ (M0 1 (n / 8)).toInt = 4 by omega) with e | e | e | e <;> rw [e] <;> omega
    have eW : jk_want T.1 n = M0 1 (88 + n) + M0 1 (8 + n / 8) * M0 1 (n % 8) - M0 1 (8 + n % 8) * M0 1 (n / 8) := by
      unfold jk_want
      rw [ec, a1 (8 + n / 8) (by omega), a1 (0 + n % 8) (by omega), a1 (8 + n % 8) (by omega), a1 (0 + n / 8) (by omega), Nat.zero_add, Nat.zero_add]
    have w1 : (M0 1 (88 + n) + M0 1 (8 + n / 8) * M0 1 (n % 8)).toInt = (M0 1 (88 + n)).toInt + jm_x M0 (n / 8) * (M0 1 (n % 8)).toInt := by rw [← m1]; exact jm_add (by omega) (by omega)
    have w2 : (jk_want T.1 n).toInt = (M0 1 (88 + n)).toInt + jm_x M0 (n / 8) * (M0 1 (n % 8)).toInt - jm_x M0 (n % 8) * (M0 1 (n / 8)).toInt := by
      rw [eW, ← m2, ← w1]
      exact jm_sub (by omega) (by omega)
    generalize hu : jk_want T.1 n = w at *
    have cut := jm_cut (w := w.toInt) (me := (jk_meas M0 : Int)) (by omega) (by omega) (by omega) (by omega)
    have g1 : (w / nI (jk_meas M0)).toInt = w.toInt.tdiv (jk_meas M0 : Int) := by
      rw [Int32.toInt_div_of_ne_right, hmI]
      intro e
      rw [e] at hmI
      have : ((-1 : Int32)).toInt = -1 := by decide
      omega
    have g2 : (nI (jk_meas M0) * (w / nI (jk_meas M0))).toInt = (jk_meas M0 : Int) * w.toInt.tdiv (jk_meas M0 : Int) := by
      rw [← g1, ← hmI]
      refine jm_mul ?_ ?_ <;> rw [g1, hmI] <;> omega
    have g3 : (w - nI (jk_meas M0) * (w / nI (jk_meas M0))).toInt = w.toInt - (jk_meas M0 : Int) * w.toInt.tdiv (jk_meas M0 : Int) := by
      rw [← g2]
      exact jm_sub (by omega) (by omega)
    generalize w.toInt.tdiv (jk_meas M0 : Int) = go at *
    have ln : n ≤ 64 := by omega
    have ba1 := jm_FI_le hC ln hE a4 ha
    have ba2 := jm_FI_le hC ln hE a5 ha
    have bb1 := jm_FI_le hC ln hE a4 hb
    have bb2 := jm_FI_le hC ln hE a5 hb
    rw [jm_ps_1] at ba1 bb1
    rw [jm_ng_1] at ba2 bb2
    have ya : jm_y (jk_flA (nI (jk_meas M0)) n T.1) (n / 8) = jm_y T.1 (n / 8) - go := by
      unfold jm_y at ba1 ba2 ⊢
      rw [jm_flA_5 _ _ hab, if_neg hab, if_pos rfl, hu, ← g1]
      exact jm_sub (by omega) (by omega)
    have yb : jm_y (jk_flA (nI (jk_meas M0)) n T.1) (n % 8) = jm_y T.1 (n % 8) + go := by
      unfold jm_y at bb1 bb2 ⊢
      rw [jm_flA_5 _ _ hab, if_pos rfl, hu, ← g1]
      exact jm_add (by omega) (by omega)
    have yo : ∀ k, k ≠ n / 8 → k ≠ n % 8 → jm_y (jk_flA (nI (jk_meas M0)) n T.1) k = jm_y T.1 k := by
      intro k z1 z2
      unfold jm_y
      rw [jm_flA_5 _ _ hab, if_neg z2, if_neg z1]
    have e1 : ∀ k, jk_flA (nI (jk_meas M0)) n T.1 1 k = if k = 88 + n then w - nI (jk_meas M0) * (w / nI (jk_meas M0)) else T.1 1 k := by
      intro k
      rw [jm_flA_1, hu]
    have hgo : (jk_meas M0 : Int) * go = ((M0 1 (88 + n)).toInt - (w.toInt - (jk_meas M0 : Int) * go)) + jm_x M0 (n / 8) * (M0 1 (n % 8)).toInt - jm_x M0 (n % 8) * (M0 1 (n / 8)).toInt := by omega
    refine ⟨fun j hj => ?_, fun j hj hj2 => ?_, fun j hj => ?_, jm_FI_s (Or.inl rfl) q hab ha hb hP (by omega) (by omega) hgo ya yb yo a4, jm_FI_s (Or.inr rfl) q hab ha hb hP (by omega) (by omega) hgo ya yb yo a5⟩
    · show jk_flA (nI (jk_meas M0)) n T.1 1 j = M0 1 j
      rw [e1, if_neg (by omega)]
      exact a1 j hj
    · show jk_flA (nI (jk_meas M0)) n T.1 1 (88 + j) = M0 1 (88 + j)
      rw [e1, if_neg (by omega)]
      exact a2 j (by omega) hj2
    · show (-31 ≤ (jk_flA (nI (jk_meas M0)) n T.1 1 (88 + j)).toInt ∧ (jk_flA (nI (jk_meas M0)) n T.1 1 (88 + j)).toInt ≤ 31) ∧ (jk_flA (nI (jk_meas M0)) n T.1 1 (24 + j) < 0 → jk_flA (nI (jk_meas M0)) n T.1 1 (88 + j) = 0)
      rw [e1, e1, if_neg (show ¬ 24 + j = 88 + n by omega)]
      by_cases z : j = n
      · rw [if_pos (by omega), g3]
        refine ⟨by omega, fun y => ?_⟩
        rw [z, eC] at y
        exact absurd y q
      · rw [if_neg (by omega)]
        exact a3 j hj
theorem jm_FT_n {M0 : jf_B} (hC : jm_co M0) (hP : jm_sp M0) (hE : jk_cnt M0 64 ≤ 12) (hA : jm_ca M0) (h5 : jm_ps (jm_x M0) ≤ 50000000) (h6 : jm_ng (jm_x M0) ≤ 50000000) : ∀ n, n ≤ 64 → jm_FT M0 n (jk_flT M0 n)
  | 0, _ => by
    have e1 : (jk_flT M0 0).1 1 = M0 1 := jm_ln_1 M0
    have ey : ∀ k, k < 8 → jm_y (jk_flT M0 0).1 k = jm_x M0 k := fun k hk => by
      unfold jm_y jm_x
      show (jk_ln M0 5 k).toInt = _
      rw [jm_ln_j _ hk]
    refine ⟨fun j _ => by rw [e1], fun j _ _ => by rw [e1], fun j hj => by rw [e1]; exact hA j hj, jm_FI_0 1 M0 _ (by omega) ey, jm_FI_0 (-1) M0 _ (by omega) ey⟩
  | n + 1, h => by
    rw [jk_flT_s]
    exact jm_FT_s hC hP hE hA h5 h6 (by omega) (jm_FT_n hC hP hE hA h5 h6 n (by omega))
theorem jm_flowB {M : jf_B} (hC : jm_co M) (hP : jm_sp M) (hE : jk_cnt M 64 ≤ 12) (hA : jm_ca M) (h5 : jm_ps (jm_x M) ≤ 50000000) (h6 : jm_ng (jm_x M) ≤ 50000000) : jm_ca (jk_flow M).1 ∧ jm_ps (jm_x (jk_flow M).1) ≤ jm_ps (jm_x M) + 186 ∧ jm_ng (jm_x (jk_flow M).1) ≤ jm_ng (jm_x M) + 186 := by
  obtain ⟨a1, a2, a3, a4, a5⟩ := jm_FT_n hC hP hE hA h5 h6 64 (Nat.le_refl 64)
  have exy : ∀ k, k < 8 → jm_x (jk_flow M).1 k = jm_y (jk_flT M 64).1 k := fun k hk => by
    unfold jm_x jm_y jk_flow
    dsimp only
    rw [jm_tn_j _ hk]
  have s1 := jm_FI_sum hC hE a4
  have s2 := jm_FI_sum hC hE a5
  rw [jm_ps_1, jm_ps_1] at s1
  rw [jm_ng_1, jm_ng_1] at s2
  refine ⟨fun j hj => ?_, ?_, ?_⟩
  · unfold jk_flow
    dsimp only
    rw [jm_tn_o _ (show 88 + j < 8 ∨ 16 ≤ 88 + j by omega), jm_tn_o _ (show 24 + j < 8 ∨ 16 ≤ 24 + j by omega)]
    exact a3 j hj
  · have : jm_ps (jm_x (jk_flow M).1) = jm_ps (jm_y (jk_flT M 64).1) := jm_sm_c (fun k hk => by rw [exy k hk])
    omega
  · have : jm_ng (jm_x (jk_flow M).1) = jm_ng (jm_y (jk_flT M 64).1) := jm_sm_c (fun k hk => by rw [exy k hk])
    omega
