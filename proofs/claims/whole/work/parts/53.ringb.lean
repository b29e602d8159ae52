/-! ===== the model's times ===== -/
def jm_key (N : jf_B) (k : Nat) : Int32 := if k < 8 then N 2 k else if k < 16 then jf_rlo N (k - 8) else if k < 80 then N 6 (k - 16) else jf_turn N
theorem jm_key1 (A : jf_B) {i : Nat} (h : i < 8) : jm_key A i = A 2 i := by unfold jm_key; rw [if_pos h]
theorem jm_key2 (A : jf_B) {i : Nat} (h : i < 8) : jm_key A (8 + i) = jf_rlo A i := by unfold jm_key; rw [if_neg (show ¬ 8 + i < 8 by omega), if_pos (show 8 + i < 16 by omega), show 8 + i - 8 = i by omega]
theorem jm_key3 (A : jf_B) {j : Nat} (h : j < 64) : jm_key A (16 + j) = A 6 j := by unfold jm_key; rw [if_neg (show ¬ 16 + j < 8 by omega), if_neg (show ¬ 16 + j < 16 by omega), if_pos (show 16 + j < 80 by omega), show 16 + j - 16 = j by omega]
theorem jm_key4 (A : jf_B) : jm_key A 80 = jf_turn A := by unfold jm_key; rw [if_neg (by decide), if_neg (by decide), if_neg (by decide)]
theorem jm_key_al (A B : jf_B) : (∀ k, k < 81 → jm_key A k = jm_key B k) ↔ jm_al A B := by
  constructor
  · intro h
    refine ⟨fun i hi => ⟨?_, ?_⟩, fun j hj => ?_, ?_⟩
    · have := h i (by omega)
      rw [jm_key1 A hi, jm_key1 B hi] at this
      exact this
    · have := h (8 + i) (by omega)
      rw [jm_key2 A hi, jm_key2 B hi] at this
      exact this
    · have := h (16 + j) (by omega)
      rw [jm_key3 A hj, jm_key3 B hj] at this
      exact this
    · have := h 80 (by omega)
      rw [jm_key4, jm_key4] at this
      exact this
  · intro h k hk
    unfold jm_key
    by_cases q1 : k < 8
    · rw [if_pos q1, if_pos q1]; exact (h.1 k q1).1
    · rw [if_neg q1, if_neg q1]
      by_cases q2 : k < 16
      · rw [if_pos q2, if_pos q2]; exact (h.1 (k - 8) (by omega)).2
      · rw [if_neg q2, if_neg q2]
        by_cases q3 : k < 80
        · rw [if_pos q3, if_pos q3]; exact h.2.1 _ (by omega)
        · rw [if_neg q3, if_neg q3]; exact h.2.2
theorem jm_rlo_c {M M' : jf_B} (h : M' 1 = M 1) {n : Nat} (hn : n < 8) : jk_rlo M' n = jk_rlo M n := by
  unfold jk_rlo
  rw [h, jk_deg_c (M := M) (M' := M') (fun j _ => by rw [h]) hn 8 (Nat.le_refl 8)]
theorem jm_tA (t : Nat) (M : jf_B) : ∀ i, i ≤ 8 → (∀ r, r ≠ 8 → jk_tA t M i r = M r) ∧ ∀ q, jk_tA t M i 8 q = if 81 * t ≤ q ∧ q < 81 * t + i then M 1 (8 + (q - 81 * t)) else if 81 * t + 8 ≤ q ∧ q < 81 * t + 8 + i then jk_rlo M (q - 81 * t - 8) else M 8 q
  | 0, _ => ⟨fun _ _ => rfl, fun q => by rw [if_neg (by omega), if_neg (by omega)]; rfl⟩
  | i + 1, h => by
    obtain ⟨h1, h2⟩ := jm_tA t M i (by omega)
    have e : jk_tA t M (i + 1) = jk_t1 t i (jk_tA t M i) := rfl
    rw [e]
    generalize jk_tA t M i = Y at *
    have e1 : Y 1 = M 1 := h1 1 (by decide)
    have e2 : jf_rem (jf_w Y 8 (81 * t + i) (Y 1 (8 + i)) 1 (16 + i)) (nI (jk_deg (jf_w Y 8 (81 * t + i) (Y 1 (8 + i))) i 8 + 1)) = jk_rlo M i := by
      have := jm_rlo_c (M := M) (M' := jf_w Y 8 (81 * t + i) (Y 1 (8 + i))) (by rw [jf_w_r _ _ _ (by decide), e1]) (n := i) (by omega)
      unfold jk_rlo at this
      unfold jk_rlo
      exact this
    unfold jk_t1
    rw [e2]
    refine ⟨fun r hr => by rw [jf_w_r _ _ _ hr, jf_w_r _ _ _ hr]; exact h1 r hr, fun q => ?_⟩
    rw [jf_w_if, jf_w_if, h2 q, e1]
    by_cases z : q = 81 * t + 8 + i
    · rw [if_pos ⟨rfl, z⟩, if_neg (by omega), if_pos (by omega), show q - 81 * t - 8 = i by omega]
    · rw [if_neg (by omega)]
      by_cases y : q = 81 * t + i
      · rw [if_pos ⟨rfl, y⟩, if_pos (by omega), show q - 81 * t = i by omega]
      · rw [if_neg (by omega)]
        by_cases x1 : 81 * t ≤ q ∧ q < 81 * t + i
        · rw [if_pos x1, if_pos (by omega)]
        · rw [if_neg x1, if_neg (show ¬ (81 * t ≤ q ∧ q < 81 * t + (i + 1)) by omega)]
          exact jm_if (by omega)
theorem jm_tB (t : Nat) (M : jf_B) : ∀ i, i ≤ 64 → (∀ r, r ≠ 8 → jk_tB t M i r = M r) ∧ ∀ q, jk_tB t M i 8 q = if 81 * t + 16 ≤ q ∧ q < 81 * t + 16 + i then (if M 1 (24 + (q - 81 * t - 16)) < 0 then nI 0 else M 1 (88 + (q - 81 * t - 16))) else jk_tA t M 8 8 q
  | 0, _ => ⟨fun r hr => (jm_tA t M 8 (Nat.le_refl 8)).1 r hr, fun q => by rw [if_neg (by omega)]; rfl⟩
  | i + 1, h => by
    obtain ⟨h1, h2⟩ := jm_tB t M i (by omega)
    have e : jk_tB t M (i + 1) = jk_t2 t i (jk_tB t M i) := rfl
    rw [e]
    generalize jk_tB t M i = Y at *
    have e1 : Y 1 = M 1 := h1 1 (by decide)
    unfold jk_t2
    refine ⟨fun r hr => by rw [jf_w_r _ _ _ hr]; exact h1 r hr, fun q => ?_⟩
    rw [jf_w_if, h2 q, e1]
    by_cases z : q = 81 * t + 16 + i
    · rw [if_pos ⟨rfl, z⟩, if_pos (show 81 * t + 16 ≤ q ∧ q < 81 * t + 16 + (i + 1) by omega), show q - 81 * t - 16 = i by omega]
    · rw [if_neg (by omega)]
      exact jm_if (by omega)
theorem jm_lt_r (t : Nat) (M : jf_B) {r : Nat} (h : r ≠ 8) : jk_lt t M r = M r := by
  unfold jk_lt
  rw [jf_w_r _ _ _ h]
  exact (jm_tB t M 64 (Nat.le_refl 64)).1 r h
theorem jm_lt_o (t : Nat) (M : jf_B) {q : Nat} (h : q < 81 * t) : jk_lt t M 8 q = M 8 q := by
  unfold jk_lt
  rw [jf_w_n _ _ (by omega), (jm_tB t M 64 (Nat.le_refl 64)).2 q, if_neg (by omega), (jm_tA t M 8 (Nat.le_refl 8)).2 q, if_neg (by omega), if_neg (by omega)]
theorem jm_lt_k {N M : jf_B} {c : Nat} (hR : jm_R N M) (hI : jm_I c M) (t : Nat) {k : Nat} (hk : k < 81) : jk_lt t M 8 (81 * t + k) = jm_key N k := by
  have hB := jm_tB t M 64 (Nat.le_refl 64)
  have hA := (jm_tA t M 8 (Nat.le_refl 8)).2
  unfold jk_lt jm_key
  by_cases q : k = 80
  · rw [q, jf_w_s, if_neg (by omega), if_neg (by omega), if_neg (by omega), jm_turn hR.1 hI.1 hR.2]
    have e1 : jk_tB t M 64 1 = M 1 := hB.1 1 (by decide)
    unfold jk_turn
    rw [e1, jk_col_c (M := M) (M' := jk_tB t M 64) (fun j _ => by rw [e1])]
  · rw [jf_w_n _ _ (by omega), hB.2]
    by_cases q1 : k < 8
    · rw [if_pos q1, if_neg (by omega), hA, if_pos (by omega), show 81 * t + k - 81 * t = k by omega]
      exact (hR.2.1 k q1).symm
    · rw [if_neg q1]
      by_cases q2 : k < 16
      · rw [if_pos q2, if_neg (by omega), hA, if_neg (by omega), if_pos (by omega), show 81 * t + k - 81 * t - 8 = k - 8 by omega]
        exact (jm_rlo hR.1 (by omega) (hR.2.2.1 _ (by omega))).symm
      · rw [if_neg q2, if_pos (show k < 80 by omega), if_pos (by omega), show 81 * t + k - 81 * t - 16 = k - 16 by omega, hR.2.2.2.1 _ (by omega)]
        by_cases z : M 1 (24 + (k - 16)) < 0
        · rw [if_pos z, (hI.2.2.1 (k - 16) (by omega)).2 z]
          rfl
        · rw [if_neg z]
theorem jm_go_wk (ru : Int32) (W : jf_B) : ∀ k, (jf_go ru W k).1 = jf_wk ru W k
  | 0 => rfl
  | k + 1 => by
    have e : jf_go ru W (k + 1) = jf_rnd ru k (jf_go ru W k) := rfl
    have e2 : jf_wk ru W (k + 1) = (jf_rnd ru 0 (jf_wk ru W k, nI 0)).1 := rfl
    rw [e, e2, ← jm_go_wk ru W k]
    rfl
theorem jm_wk_add (ru : Int32) (W : jf_B) (k : Nat) : ∀ i, jf_wk ru (jf_wk ru W k) i = jf_wk ru W (k + i)
  | 0 => rfl
  | i + 1 => by
    rw [jf_wk_s, jm_wk_add ru W k i]
    rfl
theorem jm_wk {c : Nat} (ru : Int32) {W M : jf_B} (hR : jm_R W M) (hI : jm_I c M) (i : Nat) (h : c + i ≤ 40000) : jm_R (jf_wk ru W i) (jk_go ru M i).1 ∧ jm_I (c + i) (jk_go ru M i).1 ∧ jm_Z M (jk_go ru M i).1 := by
  have := jm_go ru hR hI i h
  rw [jm_go_wk] at this
  exact this.2
theorem jm_rW {c : Nat} (ru : Int32) {W M : jf_B} (hR : jm_R W M) (hI : jm_I c M) : ∀ i, c + i ≤ 40000 → jm_R (jf_wk ru W i) (jk_rW ru M i) ∧ jm_I (c + i) (jk_rW ru M i) ∧ jm_K M (jk_rW ru M i) ∧ (∀ q, q < 153 → jk_rW ru M i 2 (306 + q) = M 1 q) ∧ ∀ t, t ≤ i → ∀ k, k < 81 → jk_rW ru M i 8 (81 * t + k) = jm_key (jf_wk ru W t) k
  | 0, _ => by
    have e : jk_rW ru M 0 = jk_lt 0 (jk_save 2 M) := rfl
    have h1 : ∀ j, j < 153 → jk_save 2 M 1 j = M 1 j := fun j _ => by rw [jm_save_r _ _ (by decide)]
    have h2 : ∀ j, j < 153 → jk_lt 0 (jk_save 2 M) 1 j = M 1 j := fun j _ => by rw [jm_lt_r _ _ (by decide), jm_save_r _ _ (by decide)]
    rw [e]
    refine ⟨jm_R_c h2 hR, jm_I_c h2 hI, ⟨fun j hj => ?_, ?_, ?_, ?_⟩, fun q hq => ?_, fun t ht k hk => ?_⟩
    · rw [jm_lt_r _ _ (by decide), jm_save_2, if_neg (by omega)]
    · rw [jm_lt_r _ _ (by decide)]; exact jm_save_r _ _ (by decide)
    · rw [jm_lt_r _ _ (by decide)]; exact jm_save_r _ _ (by decide)
    · rw [jm_lt_r _ _ (by decide), jm_save_r _ _ (by decide)]
    · rw [jm_lt_r _ _ (by decide), jm_save_2, if_pos (by omega), show 306 + q - 153 * 2 = q by omega]
    · rw [show t = 0 by omega]
      exact jm_lt_k (jm_R_c h1 hR) (jm_I_c h1 hI) 0 hk
  | i + 1, h => by
    obtain ⟨h1, h2, ⟨h3, h4, h5, h6⟩, h7, h8⟩ := jm_rW ru hR hI i (by omega)
    have e : jk_rW ru M (i + 1) = jk_lt (i + 1) (jk_round ru (jk_rW ru M i)).1 := rfl
    rw [e, jf_wk_s]
    obtain ⟨d1, d2, d3⟩ := jm_wk1 (by omega) ru h1 h2
    have z : ∀ j, j < 153 → jk_lt (i + 1) (jk_round ru (jk_rW ru M i)).1 1 j = (jk_round ru (jk_rW ru M i)).1 1 j := fun j _ => by rw [jm_lt_r _ _ (by decide)]
    generalize hX : jk_rW ru M i = X at *
    refine ⟨jm_R_c z d1, jm_I_c z d2, ⟨fun j hj => ?_, ?_, ?_, ?_⟩, fun q hq => ?_, fun t ht k hk => ?_⟩
    · rw [jm_lt_r _ _ (by decide), jm_round_r _ _ (by decide) (by decide)]; exact h3 j hj
    · rw [jm_lt_r _ _ (by decide), jm_round_r _ _ (by decide) (by decide)]; exact h4
    · rw [jm_lt_r _ _ (by decide), jm_round_r _ _ (by decide) (by decide)]; exact h5
    · rw [jm_lt_r _ _ (by decide), jm_round_r _ _ (by decide) (by decide)]; exact h6
    · rw [jm_lt_r _ _ (by decide), jm_round_r _ _ (by decide) (by decide)]; exact h7 q hq
    · by_cases y : t = i + 1
      · rw [y]
        exact jm_lt_k d1 d2 (i + 1) hk
      · rw [jm_lt_o _ _ (by omega), jm_round_r _ _ (by decide) (by decide)]
        exact h8 t (by omega) k hk
theorem jm_jal (E : jf_B) (t u : Nat) : ∀ n, jk_al E t u n = true ↔ ∀ k, k < n → E 8 (81 * t + k) = E 8 (81 * u + k)
  | 0 => ⟨fun _ i hi => absurd hi (by omega), fun _ => rfl⟩
  | n + 1 => by
    have ih := jm_jal E t u n
    show (if E 8 (81 * t + n) = E 8 (81 * u + n) then jk_al E t u n else false) = true ↔ _
    by_cases q : E 8 (81 * t + n) = E 8 (81 * u + n)
    · rw [if_pos q, ih]
      refine ⟨fun h i hi => ?_, fun h i hi => h i (by omega)⟩
      by_cases y : i = n
      · rw [y]; exact q
      · exact h i (by omega)
    · rw [if_neg q]
      exact ⟨fun h => absurd h (by decide), fun h => absurd (h n (by omega)) q⟩
theorem jm_rE {c : Nat} (ru : Int32) {W M : jf_B} (hR : jm_R W M) (hI : jm_I c M) (hc : c ≤ 38000) : jm_O M (jk_rE ru M) ∧ ∀ t u, t ≤ 300 → u ≤ 300 → (jk_al (jk_rE ru M) t u 81 = true ↔ jm_al (jf_wk ru W t) (jf_wk ru W u)) := by
  obtain ⟨h1, h2, ⟨h3, h4, h5, h6⟩, h7, h8⟩ := jm_rW ru hR hI 300 (by omega)
  unfold jk_rE
  generalize jk_rW ru M 300 = X at *
  refine ⟨⟨⟨fun j hj => ?_, ?_, ?_, ?_⟩, fun q hq => ?_⟩, fun t u ht hu => ?_⟩
  · rw [jm_load_r _ _ (by decide)]; exact h3 j hj
  · rw [jm_load_r _ _ (by decide)]; exact h4
  · rw [jm_load_r _ _ (by decide)]; exact h5
  · rw [jm_load_r _ _ (by decide)]; exact h6
  · rw [jm_load_1, if_pos hq]; exact h7 q hq
  · rw [jm_jal, ← jm_key_al, jm_load_r _ _ (by decide)]
    refine ⟨fun h k hk => ?_, fun h k hk => ?_⟩
    · rw [← h8 t ht k hk, ← h8 u hu k hk]; exact h k hk
    · rw [h8 t ht k hk, h8 u hu k hk]; exact h k hk
