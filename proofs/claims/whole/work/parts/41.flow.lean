/-! ===== FLOW: both sides ===== -/
def jm_D (N M : jf_B) : Prop := (∀ i, i < 8 → N 2 i = M 1 (8 + i)) ∧ (∀ i, i < 8 → N 3 i = M 1 (16 + i)) ∧ (∀ j, j < 64 → N 6 j = M 1 (88 + j)) ∧ N 0 8 = M 1 152 ∧ ∀ i, i < 8 → N 7 i = 0
theorem jf_w_if (N : jf_B) (r j : Nat) (x : Int32) (r' k : Nat) : jf_w N r j x r' k = if r' = r ∧ k = j then x else N r' k := by
  by_cases q : r' = r ∧ k = j
  · rw [if_pos q, q.1, q.2, jf_w_s]
  · rw [if_neg q, jf_w_n _ _ q]
theorem jm_set_2 (N : jf_B) : ∀ n i, jf_it jf_set1 N n 2 i = (if i < n then N 2 i + N 7 i else N 2 i) ∧ jf_it jf_set1 N n 7 i = (if i < n then nI 0 else N 7 i)
  | 0, i => ⟨rfl, rfl⟩
  | n + 1, i => by
    show jf_set1 n (jf_it jf_set1 N n) 2 i = _ ∧ jf_set1 n (jf_it jf_set1 N n) 7 i = _
    obtain ⟨h1, h2⟩ := jm_set_2 N n i
    obtain ⟨g1, g2⟩ := jm_set_2 N n n
    generalize jf_it jf_set1 N n = Y at h1 h2 g1 g2 ⊢
    unfold jf_set1
    simp only [jf_w_if]
    rw [g1, g2, h1, h2]
    by_cases q : i = n
    · subst q
      simp
    · simp only [q, and_false, if_false, show (i < n + 1) = (i < n) from propext (by omega)]
      exact ⟨trivial, trivial⟩
theorem jm_set_r (N : jf_B) (n : Nat) {r : Nat} (h2 : r ≠ 2) (h7 : r ≠ 7) : jf_it jf_set1 N n r = N r :=
  jf_it_row (fun m : jf_B => m r) (fun i m => by show jf_set1 i m r = m r; unfold jf_set1; rw [jf_w_r _ _ _ h7, jf_w_r _ _ _ h2]) N n
theorem jm_settle_2 (N : jf_B) {i : Nat} (hi : i < 8) : jf_settle N 2 i = N 2 i + N 7 i := by unfold jf_settle; rw [(jm_set_2 N 8 i).1, if_pos hi]
theorem jm_settle_7 (N : jf_B) {i : Nat} (hi : i < 8) : jf_settle N 7 i = 0 := by unfold jf_settle; rw [(jm_set_2 N 8 i).2, if_pos hi]; rfl
theorem jm_settle_r (N : jf_B) {r : Nat} (h2 : r ≠ 2) (h7 : r ≠ 7) : jf_settle N r = N r := by unfold jf_settle; exact jm_set_r N 8 h2 h7
theorem jm_ln_5 (M : jf_B) : ∀ n i, jf_it jk_ln1 M n 5 i = (if i < n then M 1 (8 + i) else M 5 i) ∧ jf_it jk_ln1 M n 1 = M 1
  | 0, i => ⟨rfl, rfl⟩
  | n + 1, i => by
    show jk_ln1 n (jf_it jk_ln1 M n) 5 i = _ ∧ jk_ln1 n (jf_it jk_ln1 M n) 1 = _
    obtain ⟨h1, h2⟩ := jm_ln_5 M n i
    generalize jf_it jk_ln1 M n = Y at h1 h2 ⊢
    unfold jk_ln1
    refine ⟨?_, by rw [jf_w_r _ _ _ (by decide), h2]⟩
    rw [jf_w_if, h1, h2]
    by_cases q : i = n
    · subst q; simp
    · simp only [q, and_false, if_false, show (i < n + 1) = (i < n) from propext (by omega)]
theorem jm_tn_1 (M : jf_B) : ∀ n j, jf_it jk_tn1 M n 1 j = (if 8 ≤ j ∧ j < 8 + n then M 5 (j - 8) else M 1 j) ∧ jf_it jk_tn1 M n 5 = M 5
  | 0, j => ⟨by rw [if_neg (by omega)]; rfl, rfl⟩
  | n + 1, j => by
    show jk_tn1 n (jf_it jk_tn1 M n) 1 j = _ ∧ jk_tn1 n (jf_it jk_tn1 M n) 5 = _
    obtain ⟨h1, h2⟩ := jm_tn_1 M n j
    generalize jf_it jk_tn1 M n = Y at h1 h2 ⊢
    unfold jk_tn1
    refine ⟨?_, by rw [jf_w_r _ _ _ (by decide), h2]⟩
    rw [jf_w_if, h1, h2]
    by_cases q : j = 8 + n
    · subst q
      rw [if_pos ⟨rfl, rfl⟩, if_pos (by omega), show 8 + n - 8 = n by omega]
    · rw [if_neg (fun z => q z.2)]
      by_cases q2 : 8 ≤ j ∧ j < 8 + n
      · rw [if_pos q2, if_pos (by omega)]
      · rw [if_neg q2, if_neg (by omega)]
theorem jm_tn_j (M : jf_B) {i : Nat} (hi : i < 8) : jk_tn M 1 (8 + i) = M 5 i := by unfold jk_tn; rw [(jm_tn_1 M 8 (8 + i)).1, if_pos (by omega), show 8 + i - 8 = i by omega]
theorem jm_tn_o (M : jf_B) {j : Nat} (hj : j < 8 ∨ 16 ≤ j) : jk_tn M 1 j = M 1 j := by unfold jk_tn; rw [(jm_tn_1 M 8 j).1, if_neg (by omega)]
theorem jm_ln_j (M : jf_B) {i : Nat} (hi : i < 8) : jk_ln M 5 i = M 1 (8 + i) := by unfold jk_ln; rw [(jm_ln_5 M 8 i).1, if_pos hi]
theorem jm_ln_1 (M : jf_B) : jk_ln M 1 = M 1 := by unfold jk_ln; exact (jm_ln_5 M 8 0).2
theorem jm_along_7 (N : jf_B) {a c : Nat} (me : Int32) (hac : a ≠ c) (k : Nat) : jf_along N a c me 7 k = if k = c then N 7 c + jf_goes me (jf_want N a c) else if k = a then N 7 a - jf_goes me (jf_want N a c) else N 7 k := by
  unfold jf_along
  simp only [jf_w_if]
  simp
  by_cases q : k = c
  · subst q
    simp [Ne.symm hac]
  · simp [q]
theorem jm_along_6 (N : jf_B) (a c : Nat) (me : Int32) (k : Nat) : jf_along N a c me 6 k = if k = jf_spot a c then jf_want N a c - me * jf_goes me (jf_want N a c) else N 6 k := by
  unfold jf_along
  simp only [jf_w_if]
  simp
theorem jm_along_r (N : jf_B) (a c : Nat) (me : Int32) {r : Nat} (h6 : r ≠ 6) (h7 : r ≠ 7) : jf_along N a c me r = N r := by
  unfold jf_along
  rw [jf_w_r _ _ _ h7, jf_w_r _ _ _ h7, jf_w_r _ _ _ h6]
theorem jm_flA_5 (M : jf_B) (me : Int32) {i : Nat} (hac : i / 8 ≠ i % 8) (k : Nat) : jk_flA me i M 5 k = if k = i % 8 then M 5 (i % 8) + jk_want M i / me else if k = i / 8 then M 5 (i / 8) - jk_want M i / me else M 5 k := by
  unfold jk_flA
  simp only [jf_w_if]
  simp
  by_cases q : k = i % 8
  · subst q
    simp [Ne.symm hac]
  · simp [q]
theorem jm_flA_1 (M : jf_B) (me : Int32) (i k : Nat) : jk_flA me i M 1 k = if k = 88 + i then jk_want M i - me * (jk_want M i / me) else M 1 k := by
  unfold jk_flA
  simp only [jf_w_if]
  simp
/-- how far both have come -/
def jm_FR (N0 M0 : jf_B) (S T : jf_B × Int32) : Prop :=
  S.2 = T.2 ∧ (∀ r, r ≠ 6 → r ≠ 7 → S.1 r = N0 r) ∧ (∀ j, j < 88 ∨ 152 ≤ j → T.1 1 j = M0 1 j) ∧ (∀ j, j < 64 → S.1 6 j = T.1 1 (88 + j)) ∧ ∀ i, i < 8 → T.1 5 i = N0 2 i + S.1 7 i
theorem jm_aS (x y z : Int32) : x + y - z = x + (y - z) := by
  rw [Int32.sub_eq_add_neg, Int32.sub_eq_add_neg, Int32.add_assoc]
theorem jm_FR_s {N0 M0 : jf_B} {S T : jf_B × Int32} {me : Int32} (hS : jm_S N0 M0) (hC : jm_co M0) (hJ : ∀ i, i < 8 → N0 2 i = M0 1 (8 + i)) (hme : ¬ me ≤ 0) {i : Nat} (hi : i < 64) (h : jm_FR N0 M0 S T) : jm_FR N0 M0 (jm_fl (jf_flS me) i S) (jk_flS me i T) := by
  obtain ⟨h1, h2, h3, h4, h5⟩ := h
  have eJ : ∀ a c, jf_joins S.1 a c = jf_joins N0 a c := fun a c => by unfold jf_joins; rw [h2 5 (by decide) (by decide)]
  have eC : T.1 1 (24 + i) = M0 1 (24 + i) := h3 _ (by omega)
  unfold jk_flS
  rw [eC]
  rcases hC i hi with e | ⟨c1, c2, c3⟩
  · rw [e, if_pos jm_neg6]
    have eS : jm_fl (jf_flS me) i S = S := by
      unfold jm_fl
      split
      · next q =>
        unfold jf_flS
        rw [eJ, jm_joins hS hC (by omega) (by omega)]
        unfold jk_edge
        rw [jm_spot q, e, if_pos jm_neg6, if_neg (show ¬ i / 8 = i % 8 by omega), if_neg (by decide)]
      · rfl
    rw [eS]
    exact ⟨h1, h2, h3, h4, h5⟩
  · have hac : i / 8 ≠ i % 8 := by omega
    have ha : i / 8 < 8 := by omega
    have hc : i % 8 < 8 := by omega
    rw [if_neg (jm_nneg c1)]
    have eT : jk_edge M0 (i / 8) (i % 8) = true := by
      unfold jk_edge
      rw [if_neg hac, jm_spot c3, if_neg (jm_nneg c1)]
    have eS : jm_fl (jf_flS me) i S = (jf_along S.1 (i / 8) (i % 8) me, S.2 + jf_absI (jf_goes me (jf_want S.1 (i / 8) (i % 8)))) := by
      unfold jm_fl jf_flS
      rw [if_pos c3, eJ, jm_joins hS hC ha hc, eT, if_pos rfl]
    have eW : jf_want S.1 (i / 8) (i % 8) = jk_want T.1 i := by
      unfold jf_want jk_want
      rw [jm_spot c3, h4 i hi, h2 2 (by decide) (by decide), h2 1 (by decide) (by decide), hJ _ ha, hJ _ hc, hS.1 _ ha, hS.1 _ hc, h3 (8 + i / 8) (by omega), h3 (0 + i % 8) (by omega), h3 (8 + i % 8) (by omega), h3 (0 + i / 8) (by omega), Nat.zero_add, Nat.zero_add]
    have eG : jf_goes me (jf_want S.1 (i / 8) (i % 8)) = jk_want T.1 i / me := by
      unfold jf_goes
      rw [if_neg hme, eW]
    rw [eS]
    refine ⟨?_, ?_, ?_, ?_, ?_⟩
    · show S.2 + _ = T.2 + _
      rw [h1, jm_abs, eG]
    · intro r h6 h7
      show jf_along S.1 (i / 8) (i % 8) me r = N0 r
      rw [jm_along_r _ _ _ _ h6 h7]
      exact h2 r h6 h7
    · intro j hj
      show jk_flA me i T.1 1 j = M0 1 j
      rw [jm_flA_1, if_neg (by omega)]
      exact h3 j hj
    · intro j hj
      show jf_along S.1 (i / 8) (i % 8) me 6 j = jk_flA me i T.1 1 (88 + j)
      rw [jm_along_6, jm_flA_1, jm_spot c3, eG, eW]
      by_cases q : j = i
      · rw [if_pos q, if_pos (by omega)]
      · rw [if_neg q, if_neg (by omega)]
        exact h4 j hj
    · intro k hk
      show jk_flA me i T.1 5 k = N0 2 k + jf_along S.1 (i / 8) (i % 8) me 7 k
      rw [jm_along_7 _ _ hac, jm_flA_5 _ _ hac, eG]
      by_cases q1 : k = i % 8
      · rw [if_pos q1, if_pos q1, h5 _ hc, q1, Int32.add_assoc]
      · rw [if_neg q1, if_neg q1]
        by_cases q2 : k = i / 8
        · rw [if_pos q2, if_pos q2, h5 _ ha, q2, jm_aS]
        · rw [if_neg q2, if_neg q2]
          exact h5 k hk
theorem jm_FR_n {N0 M0 : jf_B} {me : Int32} (hS : jm_S N0 M0) (hC : jm_co M0) (hD : jm_D N0 M0) (hme : ¬ me ≤ 0) : ∀ n, n ≤ 64 → jm_FR N0 M0 (jf_it (jm_fl (jf_flS me)) (N0, nI 0) n) (jf_it (jk_flS me) (jk_ln M0, nI 0) n)
  | 0, _ => by
    refine ⟨rfl, fun r _ _ => rfl, fun j _ => ?_, fun j hj => ?_, fun i hi => ?_⟩
    · show jk_ln M0 1 j = M0 1 j
      rw [jm_ln_1]
    · show N0 6 j = jk_ln M0 1 (88 + j)
      rw [jm_ln_1]
      exact hD.2.2.1 j hj
    · show jk_ln M0 5 i = N0 2 i + N0 7 i
      rw [jm_ln_j _ hi, hD.2.2.2.2 i hi, Int32.add_zero]
      exact (hD.1 i hi).symm
  | n + 1, h => jm_FR_s hS hC hD.1 hme (by omega) (jm_FR_n hS hC hD hme n (by omega))
theorem jm_meas_pos (M : jf_B) : ¬ nI (jk_meas M) ≤ 0 := nI_nle (by unfold jk_meas; omega) (by unfold jk_meas; have := jk_most_le M 8; omega)
theorem jm_flow_T (N : jf_B) (me : Int32) : jf_it (jf_flR me) (N, nI 0) 8 = jf_it (jm_fl (jf_flS me)) (N, nI 0) 64 := jm_flat (jf_flS me) (N, nI 0) 8 (Nat.le_refl 8)
theorem jm_flow {N M : jf_B} (hS : jm_S N M) (hC : jm_co M) (hD : jm_D N M) : (jf_flow N).2 = (jk_flow M).2 ∧ (∀ i, i < 8 → (jf_flow N).1 2 i = (jk_flow M).1 1 (8 + i)) ∧ (∀ j, j < 64 → (jf_flow N).1 6 j = (jk_flow M).1 1 (88 + j)) ∧ (∀ i, i < 8 → (jf_flow N).1 7 i = 0) ∧ (∀ r, r ≠ 2 → r ≠ 6 → r ≠ 7 → (jf_flow N).1 r = N r) ∧ (∀ j, j < 8 ∨ (16 ≤ j ∧ j < 88) ∨ 152 ≤ j → (jk_flow M).1 1 j = M 1 j) := by
  obtain ⟨h1, h2, h3, h4, h5⟩ := jm_FR_n hS hC hD (jm_meas_pos M) 64 (Nat.le_refl 64)
  unfold jf_flow jk_flow jk_flT
  rw [jm_measure hS, jm_flow_T]
  dsimp only
  refine ⟨h1, fun i hi => ?_, fun j hj => ?_, fun i hi => ?_, fun r q2 q6 q7 => ?_, fun j hj => ?_⟩
  · rw [jm_settle_2 _ hi, jm_tn_j _ hi, h5 i hi, h2 2 (by decide) (by decide)]
  · rw [jm_settle_r _ (by decide) (by decide), jm_tn_o _ (by omega), h4 j hj]
  · rw [jm_settle_7 _ hi]
  · rw [jm_settle_r _ q2 q7, h2 r q6 q7]
  · rw [jm_tn_o _ (by omega), h3 j (by omega)]
