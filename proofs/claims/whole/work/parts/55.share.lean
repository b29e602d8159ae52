/-! ===== share, potential, count ===== -/
theorem jm_sm_b {f : Nat → Int} {K : Int} (hK : 0 ≤ K) : ∀ {n : Nat}, (∀ k, k < n → -K ≤ f k ∧ f k ≤ K) → -(n * K) ≤ jm_sm f n ∧ jm_sm f n ≤ n * K
  | 0, _ => by simp [jm_sm]
  | n + 1, h => by
    have ih := jm_sm_b hK (n := n) (fun k hk => h k (by omega))
    have h1 := h n (by omega)
    show -(((n + 1 : Nat) : Int) * K) ≤ jm_sm f n + f n ∧ jm_sm f n + f n ≤ ((n + 1 : Nat) : Int) * K
    rw [show (((n + 1 : Nat)) : Int) * K = (n : Int) * K + K by rw [Int.natCast_succ, Int.add_mul, Int.one_mul]]
    omega
theorem jm_sumJ {c : Nat} (hc : c ≤ 40000) {N M : jf_B} (hR : jm_R N M) (hI : jm_I c M) : ∀ n, n ≤ 8 → (jf_sumJ N n).toInt = jm_sm (jm_x M) n ∧ (jk_sum M 8 n).toInt = jm_sm (jm_x M) n
  | 0, _ => ⟨rfl, rfl⟩
  | n + 1, h => by
    obtain ⟨h1, h2⟩ := jm_sumJ hc hR hI n (by omega)
    have b := jm_sm_b (f := jm_x M) (K := 7440000) (by omega) (n := n) (fun k hk => jm_xb hc hI (by omega))
    have x := jm_xb hc hI (k := n) (by omega)
    have nb : (n : Int) * 7440000 ≤ 8 * 7440000 := by omega
    constructor
    · show (jf_sumJ N n + (N 2 n).toInt64).toInt = jm_sm (jm_x M) n + jm_x M n
      have e : (N 2 n).toInt64.toInt = jm_x M n := by rw [jm_i64, hR.2.1 n (by omega)]; rfl
      rw [jm_ladd, h1, e] <;> rw [h1, e] <;> omega
    · show (jk_sum M 8 n + M 1 (8 + n)).toInt = jm_sm (jm_x M) n + jm_x M n
      have e : (M 1 (8 + n)).toInt = jm_x M n := rfl
      rw [jm_add, h2, e] <;> rw [h2, e] <;> omega
theorem jm_sumJ8 {c : Nat} (hc : c ≤ 40000) {N M : jf_B} (hR : jm_R N M) (hI : jm_I c M) : jf_sumJ N 8 = (jk_sum M 8 8).toInt64 := by
  obtain ⟨h1, h2⟩ := jm_sumJ hc hR hI 8 (Nat.le_refl 8)
  apply jm_lin
  rw [h1, jm_i64, h2]
theorem jm_smx (f : Nat → Int) : ∀ n, jm_sm f n = jm_sm (fun k => max (f k) 0) n - jm_sm (fun k => max (-(f k)) 0) n
  | 0 => rfl
  | n + 1 => by
    have := jm_smx f n
    show jm_sm f n + f n = (jm_sm (fun k => max (f k) 0) n + max (f n) 0) - (jm_sm (fun k => max (-(f k)) 0) n + max (-(f n)) 0)
    omega
theorem jm_tot {c : Nat} (hc : c ≤ 40000) {M : jf_B} (hI : jm_I c M) : -7440000 ≤ jm_sm (jm_x M) 8 ∧ jm_sm (jm_x M) 8 ≤ 7440000 := by
  have h1 := hI.2.2.2.2.2.2.1
  have h2 := hI.2.2.2.2.2.2.2
  have e := jm_smx (jm_x M) 8
  have p1 : 0 ≤ jm_ps (jm_x M) := jm_sm_nn (fun k _ => by omega)
  have p2 : 0 ≤ jm_ng (jm_x M) := jm_sm_nn (fun k _ => by omega)
  unfold jm_ps at h1 p1
  unfold jm_ng at h2 p2
  omega
theorem jm_sumSI {c : Nat} {M : jf_B} (hI : jm_I c M) : ∀ n : Nat, n ≤ 8 → (n : Int) ≤ (jk_sum M 0 n).toInt ∧ (jk_sum M 0 n).toInt ≤ 4 * n
  | 0, _ => ⟨Int.le_refl _, Int.le_refl _⟩
  | n + 1, h => by
    have ih := jm_sumSI hI n (by omega)
    have s := jm_sb hI (k := n) (by omega)
    unfold jm_s at s
    have e : jk_sum M 0 (n + 1) = jk_sum M 0 n + M 1 n := by
      show jk_sum M 0 n + M 1 (0 + n) = _
      rw [Nat.zero_add]
    rw [e, jm_add (by omega) (by omega)]
    omega
theorem jm_share {c : Nat} (hc : c ≤ 40000) {N M : jf_B} (hR : jm_R N M) (hI : jm_I c M) : (0 ≤ lg_cmp (jf_sumJ N 8) 0 ↔ 0 ≤ jk_sum M 8 8) ∧ (∀ i, i < 8 → 0 ≤ jk_sum M 8 8 → (∀ pa, jf_part (jf_sumJ N 8 * (N 1 i).toInt64) (jf_sumS N 8).toInt64 pa = jk_tR (jk_sum M 8 8 * M 1 (0 + i)).toInt64 (jk_sum M 0 8).toInt64 pa) ∧ jk_fr (jk_sum M 8 8 * M 1 (0 + i)).toInt64 (jk_sum M 0 8).toInt64) := by
  have e8 := jm_sumJ8 hc hR hI
  have h2 := (jm_sumJ hc hR hI 8 (Nat.le_refl 8)).2
  have tot := jm_tot hc hI
  have ss := jm_sumSI hI 8 (Nat.le_refl 8)
  constructor
  · rw [lg_cmp_ge, e8, Int64.le_iff_toInt_le, jm_i64, jm_ge0]
    exact Iff.rfl
  · intro i hi h0
    rw [jm_ge0, h2] at h0
    have s := jm_sb hI hi
    have b := jm_b4 tot s
    have nn : 0 ≤ jm_sm (jm_x M) 8 * jm_s M i := Int.mul_nonneg h0 (by omega)
    have e1 : (jk_sum M 8 8 * M 1 (0 + i)).toInt = jm_sm (jm_x M) 8 * jm_s M i := by
      rw [Nat.zero_add]
      have : (jk_sum M 8 8).toInt * (M 1 i).toInt = jm_sm (jm_x M) 8 * jm_s M i := by rw [h2]; rfl
      rw [jm_mul] <;> rw [this] <;> omega
    have e2 : jf_sumJ N 8 * (N 1 i).toInt64 = (jk_sum M 8 8 * M 1 (0 + i)).toInt64 := by
      apply jm_lin
      rw [jm_i64, e1, e8, hR.1.1 i hi]
      have : (jk_sum M 8 8).toInt64.toInt * (M 1 i).toInt64.toInt = jm_sm (jm_x M) 8 * jm_s M i := by rw [jm_i64, jm_i64, h2]; rfl
      rw [jm_lmul] <;> rw [this] <;> omega
    rw [e2, jm_sumS hR.1 8 (Nat.le_refl 8)]
    have P := fun pa => jm_partL (U := (jk_sum M 8 8 * M 1 (0 + i)).toInt64) (W := (jk_sum M 0 8).toInt64) (by rw [jm_i64, e1]; exact nn) (by rw [jm_i64]; omega) (by rw [jm_i64]; omega) pa
    exact ⟨fun pa => (P pa).1, (P 0).2⟩
theorem jm_pot {c : Nat} (hc : c ≤ 40000) {N M : jf_B} (hR : jm_R N M) (hI : jm_I c M) : ∀ n, n ≤ 8 → jf_pot N n = jk_pot M n
  | 0, _ => rfl
  | n + 1, h => by
    show jf_pot N n + jf_off N n * jf_off N n = jk_pot M n + jk_off M n * jk_off M n
    have e : jf_off N n = jk_off M n := by
      unfold jf_off jk_off
      rw [hR.2.1 n (by omega), jm_sumS hR.1 8 (Nat.le_refl 8), jm_sumJ8 hc hR hI, hR.1.1 n (by omega), Nat.zero_add]
    rw [jm_pot hc hR hI n (by omega), e]
theorem jm_bel_le (M : jf_B) : ∀ n, jk_bel M n ≤ n
  | 0 => Nat.le_refl 0
  | n + 1 => by
    have := jm_bel_le M n
    show (if 0 ≤ M 1 (8 + n) then jk_bel M n + 0 else jk_bel M n + 1) ≤ n + 1
    split <;> omega
theorem jm_below {N M : jf_B} (hD : jm_D N M) : ∀ n, n ≤ 8 → jf_below N n = nI (jk_bel M n)
  | 0, _ => rfl
  | n + 1, h => by
    show (if 0 ≤ N 2 n then jf_below N n else jf_below N n + nI 1) = nI (if 0 ≤ M 1 (8 + n) then jk_bel M n + 0 else jk_bel M n + 1)
    rw [hD.1 n (by omega), jm_below hD n (by omega)]
    split
    · rfl
    · rw [nI_add]
theorem jm_any (M : jf_B) : ∀ n, jk_any M n = false ↔ jk_bel M n = 0
  | 0 => ⟨fun _ => rfl, fun _ => rfl⟩
  | n + 1 => by
    have ih := jm_any M n
    show (if jk_any M n then true else if 0 ≤ M 1 (8 + n) then false else true) = false ↔ (if 0 ≤ M 1 (8 + n) then jk_bel M n + 0 else jk_bel M n + 1) = 0
    by_cases q : jk_any M n = true
    · rw [if_pos q]
      refine ⟨fun h => absurd h (by decide), fun h => ?_⟩
      have : ¬ jk_bel M n = 0 := fun z => by rw [ih.mpr z] at q; exact absurd q (by decide)
      split at h <;> omega
    · rw [if_neg q]
      have z := ih.mp (by simpa using q)
      by_cases y : 0 ≤ M 1 (8 + n)
      · rw [if_pos y, if_pos y, z]; simp
      · rw [if_neg y, if_neg y, z]; simp
theorem jm_bel0 (M : jf_B) : ∀ n, jk_bel M n = 0 → ∀ i, i < n → 0 ≤ M 1 (8 + i)
  | 0, _, i, h => absurd h (by omega)
  | n + 1, h, i, hi => by
    have e : (if 0 ≤ M 1 (8 + n) then jk_bel M n + 0 else jk_bel M n + 1) = 0 := h
    by_cases y : 0 ≤ M 1 (8 + n)
    · rw [if_pos y] at e
      by_cases z : i = n
      · rw [z]; exact y
      · exact jm_bel0 M n (by omega) i (by omega)
    · rw [if_neg y] at e
      exact absurd e (by omega)
