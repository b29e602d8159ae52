/-! ===== the signs said ===== -/
def jm_P (P M : jf_B) (n : Nat) : Prop := P 0 1 = nI n ∧ M 0 4 = nI n ∧ n ≤ 40 ∧ ∀ i, i < 40 → P 1 i = M 4 i ∧ 0 ≤ (M 4 i).toInt ∧ (M 4 i).toInt ≤ 126
theorem jm_within {x : Int32} {lo hi : Nat} (h1 : lo < 2 ^ 31) (h2 : hi < 2 ^ 31) : jf_within x (nI lo) (nI hi) = true ↔ (lo : Int) ≤ x.toInt ∧ x.toInt ≤ hi := by
  unfold jf_within
  have e1 : (x < nI lo) ↔ x.toInt < lo := by rw [Int32.lt_iff_toInt_lt, nI_toInt h1]
  have e2 : (nI hi < x) ↔ (hi : Int) < x.toInt := by rw [Int32.lt_iff_toInt_lt, nI_toInt h2]
  by_cases q1 : x < nI lo
  · rw [if_pos q1]
    have := e1.mp q1
    exact ⟨fun h => absurd h (by decide), fun h => absurd h (by omega)⟩
  · rw [if_neg q1]
    have := mt e1.mpr q1
    by_cases q2 : nI hi < x
    · rw [if_pos q2]
      have := e2.mp q2
      exact ⟨fun h => absurd h (by decide), fun h => absurd h (by omega)⟩
    · rw [if_neg q2]
      have := mt e2.mpr q2
      exact ⟨fun _ => by omega, fun _ => rfl⟩
theorem jm_bool {a b : Bool} (h : a = true ↔ b = true) : a = b := by
  cases a <;> cases b <;> simp at h <;> rfl
theorem jm_subN {x : Int32} {k : Nat} (hk : k < 200) (h : 0 ≤ x.toInt ∧ x.toInt ≤ 126) : (x - nI k).toInt = x.toInt - k := by
  have := nI_toInt (n := k) (by omega)
  rw [jm_sub] <;> rw [this] <;> omega
theorem jm_wN {P M : jf_B} {n : Nat} (hP : jm_P P M n) {k : Nat} (hk : k < 40) : jf_within (jf_nd P k) (nI 0) (nI 7) = jf_within (M 4 k) (nI 97) (nI 104) := by
  obtain ⟨e, b⟩ := hP.2.2.2 k hk
  apply jm_bool
  rw [jm_within (by decide) (by decide), jm_within (by decide) (by decide)]
  unfold jf_nd
  rw [e, jm_subN (by decide) b]
  omega
theorem jm_wC {P M : jf_B} {n : Nat} (hP : jm_P P M n) {k : Nat} (hk : k < 40) : jf_within (jf_cl P k) (nI 0) (nI 3) = jf_within (M 4 k) (nI 48) (nI 51) := by
  obtain ⟨e, b⟩ := hP.2.2.2 k hk
  apply jm_bool
  rw [jm_within (by decide) (by decide), jm_within (by decide) (by decide)]
  unfold jf_cl
  rw [e, jm_subN (by decide) b]
  omega
theorem jm_letN {P M : jf_B} {n : Nat} (hP : jm_P P M n) {k : Nat} (hk : k < 40) (h : jf_within (jf_nd P k) (nI 0) (nI 7) = true) : jk_let M k = jf_nd P k := by
  obtain ⟨e, b⟩ := hP.2.2.2 k hk
  rw [jm_wN hP hk] at h
  unfold jk_let jf_nd
  rw [if_pos h, e]
theorem jm_let0 {P M : jf_B} {n : Nat} (hP : jm_P P M n) {k : Nat} (hk : k < 40) : jk_let M k < 0 ↔ ¬ jf_within (jf_nd P k) (nI 0) (nI 7) = true := by
  obtain ⟨e, b⟩ := hP.2.2.2 k hk
  have e2 := jm_wN hP hk
  by_cases q : jf_within (jf_nd P k) (nI 0) (nI 7) = true
  · rw [jm_letN hP hk q]
    have := (jm_within (by decide) (by decide)).mp q
    rw [jm_lt0]
    exact ⟨fun h => absurd h (by omega), fun h => absurd q h⟩
  · refine ⟨fun _ => q, fun _ => ?_⟩
    unfold jk_let
    rw [← e2, if_neg q]
    exact jm_neg6
theorem jm_nw {P M : jf_B} {n : Nat} (hP : jm_P P M n) (he : Int32) : ∀ m, 3 * m ≤ 36 → (∀ i, i < m → jk_let M (3 * i) = jf_nd P (3 * i) ∧ jk_let M (3 * i + 1) = jf_nd P (3 * i + 1)) → jk_nw M he m = !(jf_tb P he m)
  | 0, _, _ => rfl
  | m + 1, h3, h => by
    have ih := jm_nw hP he m (by omega) (fun i hi => h i (by omega))
    obtain ⟨e1, e2⟩ := h m (by omega)
    show (if jk_nw M he m then (if jk_pairI (jk_let M (3 * m)) (jk_let M (3 * m + 1)) = he then false else true) else false) = !(if jf_spotI (jf_nd P (3 * m)) (jf_nd P (3 * m + 1)) = he then true else jf_tb P he m)
    have e3 : jk_pairI (jk_let M (3 * m)) (jk_let M (3 * m + 1)) = jf_spotI (jf_nd P (3 * m)) (jf_nd P (3 * m + 1)) := by
      rw [e1, e2]
      unfold jk_pairI jf_spotI
      rw [Int32.mul_comm, Int32.mul_comm (jf_nd P (3 * m)) (nI 8)]
    rw [e3, ih]
    cases jf_tb P he m <;> by_cases q : jf_spotI (jf_nd P (3 * m)) (jf_nd P (3 * m + 1)) = he <;> simp [q]
theorem jm_stand {P M : jf_B} {n : Nat} (hP : jm_P P M n) {k : Nat} (hk : k < 40) (h : ∀ j, j < k → jf_stand P j = true) : jf_stand P k = jk_stand M k := by
  rcases (show k % 3 = 0 ∨ k % 3 = 1 ∨ k % 3 = 2 by omega) with q | q | q
  · rw [jk_stand_0 q]
    have h0 := jm_let0 hP hk
    by_cases z : k < 36
    · rw [jf_stand_0 z q]
      by_cases y : jf_within (jf_nd P k) (nI 0) (nI 7) = true
      · rw [y, if_neg (fun x => (h0.mp x) y), if_neg (by omega)]
      · rw [if_pos (h0.mpr y)]
        simpa using y
    · rw [jf_stand_3 (by omega), if_pos (show 36 ≤ k by omega)]
      split <;> rfl
  · obtain ⟨m, rfl⟩ : ∃ m, k = 3 * m + 1 := ⟨k / 3, by omega⟩
    have h3 := h (3 * m) (by omega)
    have l3 := jf_stand_lt h3
    rw [jf_stand_1 (by omega), jk_stand_1]
    unfold jf_st1 jk_new
    have lt : ∀ i, i ≤ m → jk_let M (3 * i) = jf_nd P (3 * i) := fun i hi => by
      have a := h (3 * i) (by omega)
      rw [jf_stand_0 (jf_stand_lt a) (by omega)] at a
      exact jm_letN hP (by omega) a
    have lt2 : ∀ i, i < m → jk_let M (3 * i + 1) = jf_nd P (3 * i + 1) := fun i hi => by
      have a := h (3 * i + 1) (by omega)
      rw [jf_stand_1 (jf_stand_lt a)] at a
      unfold jf_st1 at a
      split at a
      · next y => exact jm_letN hP (by omega) y
      · cases a
    have h0 := jm_let0 hP hk
    by_cases y : jf_within (jf_nd P (3 * m + 1)) (nI 0) (nI 7) = true
    · have e1 := jm_letN hP hk y
      have e0 := lt m (Nat.le_refl m)
      rw [if_pos y, if_neg (fun x => (h0.mp x) y), e1, e0]
      obtain ⟨p1, b1⟩ := hP.2.2.2 (3 * m + 1) hk
      obtain ⟨p0, b0⟩ := hP.2.2.2 (3 * m) (by omega)
      have eq : (P 1 (3 * m + 1) = P 1 (3 * m)) ↔ jf_nd P (3 * m) = jf_nd P (3 * m + 1) := by
        unfold jf_nd
        constructor
        · intro w; rw [w]
        · intro w
          have := congrArg Int32.toInt w
          rw [p1, p0, jm_subN (by decide) b0, jm_subN (by decide) b1] at this
          rw [p1, p0]
          apply Int32.toInt_inj.mp
          omega
      by_cases x : P 1 (3 * m + 1) = P 1 (3 * m)
      · rw [if_pos x, if_pos (eq.mp x)]
      · rw [if_neg x, if_neg (fun w => x (eq.mpr w))]
        have e3 : jk_pairI (jf_nd P (3 * m)) (jf_nd P (3 * m + 1)) = jf_spotI (jf_nd P (3 * m)) (jf_nd P (3 * m + 1)) := by
          unfold jk_pairI jf_spotI
          rw [Int32.mul_comm, Int32.mul_comm (jf_nd P (3 * m)) (nI 8)]
        rw [e3, jm_nw hP _ m (by omega) (fun i hi => ⟨lt i (by omega), lt2 i hi⟩)]
        cases jf_tb P (jf_spotI (jf_nd P (3 * m)) (jf_nd P (3 * m + 1))) m <;> rfl
    · rw [if_neg y, if_pos (h0.mpr y)]
  · have h3 := h (k - 2) (by omega)
    have l3 := jf_stand_lt h3
    rw [jf_stand_2 (by omega) q, jk_stand_2 q, jm_wC hP hk]
theorem jm_ffd {P M : jf_B} {n : Nat} (hP : jm_P P M n) : ∀ d i, i + d = n → (∀ j, j < i → jf_stand P j = true) → jf_ffd P n d i = jk_ffd M n d i
  | 0, i, _, _ => rfl
  | d + 1, i, hd, h => by
    have h40 := hP.2.2.1
    show (if jf_stand P i then jf_ffd P n d (i + 1) else nI i) = (if jk_stand M i then jk_ffd M n d (i + 1) else nI i)
    have e := jm_stand hP (show i < 40 by omega) h
    by_cases q : jf_stand P i = true
    · rw [if_pos q, if_pos (by rw [← e]; exact q)]
      refine jm_ffd hP d (i + 1) (by omega) (fun j hj => ?_)
      by_cases z : j = i
      · rw [z]; exact q
      · exact h j (by omega)
    · rw [if_neg q, if_neg (by rw [← e]; exact q)]
theorem jm_ff {P M : jf_B} {n : Nat} (hP : jm_P P M n) : jf_ff P n = jk_ff M n := jm_ffd hP n 0 (by omega) (fun j hj => absurd hj (by omega))
theorem jm_ffv (M : jf_B) {n : Nat} (hn : n ≤ 40) : ∀ d i, i + d = n → jk_ffd M n d i = -6 ∨ ¬ jk_ffd M n d i < 0
  | 0, i, _ => by
    show (if nI (n % 3) = 0 then (-6 : Int32) else nI n) = -6 ∨ ¬ (if nI (n % 3) = 0 then (-6 : Int32) else nI n) < 0
    split
    · exact Or.inl rfl
    · exact Or.inr (nI_pos (by omega))
  | d + 1, i, h => by
    show (if jk_stand M i then jk_ffd M n d (i + 1) else nI i) = -6 ∨ ¬ (if jk_stand M i then jk_ffd M n d (i + 1) else nI i) < 0
    split
    · exact jm_ffv M hn d (i + 1) (by omega)
    · exact Or.inr (nI_pos (by omega))
theorem jm_ff6 (M : jf_B) {n : Nat} (hn : n ≤ 40) : jk_ff M n = -6 ↔ jk_ff M n < 0 := by
  refine ⟨fun h => by rw [h]; exact jm_neg6, fun h => ?_⟩
  rcases jm_ffv M hn n 0 (by omega) with e | e
  · exact e
  · exact absurd h e
/-- all edges lifted -/
theorem jm_la {c0 : Nat} {N M : jf_B} (hR : jm_R N M) (hI : jm_I c0 M) : ∀ n, n ≤ 64 → jm_R (jf_it (jm_fl (fun a c X => jf_lift X a c)) N n) (jf_it jk_clr1 M n) ∧ jm_I c0 (jf_it jk_clr1 M n) ∧ (∀ r, r ≠ 1 → jf_it jk_clr1 M n r = M r) ∧ ∀ j, j < n → jf_it jk_clr1 M n 1 (24 + j) = -6
  | 0, _ => ⟨hR, hI, fun _ _ => rfl, fun j hj => absurd hj (by omega)⟩
  | n + 1, h => by
    obtain ⟨h1, h2, h3, h4⟩ := jm_la hR hI n (by omega)
    have e1 : jf_it (jm_fl (fun a c X => jf_lift X a c)) N (n + 1) = jm_fl (fun a c X => jf_lift X a c) n (jf_it (jm_fl (fun a c X => jf_lift X a c)) N n) := rfl
    have e2 : jf_it jk_clr1 M (n + 1) = jm_pl (jf_it jk_clr1 M n) n (-6) := rfl
    rw [e1, e2]
    generalize jf_it jk_clr1 M n = X at *
    generalize jf_it (jm_fl (fun a c X => jf_lift X a c)) N n = Y at *
    have hc : ∀ j, j < n + 1 → jm_pl X n (-6) 1 (24 + j) = -6 := fun j hj => by
      rw [jm_pl_c X (by omega) _ (by omega)]
      by_cases z : j = n
      · rw [if_pos z]
      · rw [if_neg z]; exact h4 j (by omega)
    have hr : ∀ r, r ≠ 1 → jm_pl X n (-6) r = M r := fun r hr => by rw [jm_pl_r X n (-6) hr]; exact h3 r hr
    have hcn := jm_cnt_pl64 X (show n < 64 by omega) (-6)
    rw [if_pos jm_neg6] at hcn
    unfold jm_fl
    by_cases q : n / 8 < n % 8
    · rw [if_pos q]
      have a := jm_lift h1 h2 (show n / 8 < 8 by omega) (show n % 8 < 8 by omega) (by omega)
      rw [jm_spot q] at a
      exact ⟨a, jm_pl_I h2 (by omega) q (Or.inl rfl) (by have := h2.2.2.2.2.1; omega), hr, hc⟩
    · rw [if_neg q]
      have e6 : X 1 (24 + n) = -6 := by
        rcases h2.1 n (by omega) with e | ⟨_, _, e⟩
        · exact e
        · exact absurd e q
      have e0 := (h2.2.2.1 n (by omega)).2 (by rw [e6]; exact jm_neg6)
      have z : ∀ j, j < 153 → jm_pl X n (-6) 1 j = X 1 j := fun j hj => by
        rw [jm_pl_1 X (by omega)]
        by_cases z : j = 88 + n
        · rw [if_pos z, z, e0]
        · rw [if_neg z]
          by_cases y : j = 24 + n
          · rw [if_pos y, y, e6]
          · rw [if_neg y]
      exact ⟨jm_R_c z h1, jm_I_c z h2, hr, hc⟩
theorem jm_cnt0 (M : jf_B) : ∀ n, (∀ j, j < n → M 1 (24 + j) = -6) → jk_cnt M n = 0
  | 0, _ => rfl
  | n + 1, h => by
    rw [jm_cnt_s, jm_cnt0 M n (fun j hj => h j (by omega))]
    unfold jm_wt
    rw [h n (by omega), if_pos jm_neg6]
theorem jm_liftAll (N : jf_B) : jf_liftAll N = jf_it (jm_fl (fun a c X => jf_lift X a c)) N 64 := jm_flat (fun a c X => jf_lift X a c) N 8 (Nat.le_refl 8)
theorem jm_netL {c0 : Nat} {N M P : jf_B} {n : Nat} (hP : jm_P P M n) (hR : jm_R N M) (hI : jm_I c0 M) (hn : n % 3 = 0) (hg : ∀ k, k < n → jf_stand P k = true) : ∀ i, i ≤ n / 3 → jm_R (jf_it (jf_netS P) (jf_liftAll N) i) (jk_netM M i) ∧ jm_I c0 (jk_netM M i) ∧ (∀ r, r ≠ 1 → jk_netM M i r = M r) ∧ jk_cnt (jk_netM M i) 64 ≤ i
  | 0, _ => by
    have e : jk_netM M 0 = jf_it jk_clr1 M 64 := rfl
    have e1 : ∀ Z, jf_it (jf_netS P) Z 0 = Z := fun Z => rfl
    rw [e, e1, jm_liftAll]
    obtain ⟨h1, h2, h3, h4⟩ := jm_la hR hI 64 (Nat.le_refl 64)
    exact ⟨h1, h2, h3, by rw [jm_cnt0 _ 64 h4]; exact Nat.le_refl 0⟩
  | i + 1, h => by
    obtain ⟨h1, h2, h3, h4⟩ := jm_netL hP hR hI hn hg i (by omega)
    have e1 : jf_it (jf_netS P) (jf_liftAll N) (i + 1) = jf_netS P i (jf_it (jf_netS P) (jf_liftAll N) i) := rfl
    have e2 : jk_netM M (i + 1) = jk_netS i (jk_netM M i) := rfl
    rw [e1, e2]
    generalize jf_it (jf_netS P) (jf_liftAll N) i = Y at *
    generalize jk_netM M i = X at *
    have h40 := hP.2.2.1
    have g0 := hg (3 * i) (by omega)
    have g1 := hg (3 * i + 1) (by omega)
    have g2 := hg (3 * i + 2) (by omega)
    have l2 := jf_stand_lt g2
    have w0 : jf_within (jf_nd P (3 * i)) (nI 0) (nI 7) = true := by
      rw [jf_stand_0 (by omega) (by omega)] at g0
      exact g0
    have w1 : jf_within (jf_nd P (3 * i + 1)) (nI 0) (nI 7) = true ∧ ¬ P 1 (3 * i + 1) = P 1 (3 * i) := by
      rw [jf_stand_1 (by omega)] at g1
      unfold jf_st1 at g1
      split at g1
      · next y =>
        refine ⟨y, fun z => ?_⟩
        rw [if_pos z] at g1
        cases g1
      · cases g1
    have w2 : jf_within (jf_cl P (3 * i + 2)) (nI 0) (nI 3) = true := by
      rw [jf_stand_2 (by omega) (by omega)] at g2
      exact g2
    have eX : X 4 = M 4 := h3 4 (by decide)
    have t0 : jk_let X (3 * i) = jf_nd P (3 * i) := by
      rw [← jm_letN hP (by omega) w0]
      unfold jk_let
      rw [eX]
    have t1 : jk_let X (3 * i + 1) = jf_nd P (3 * i + 1) := by
      rw [← jm_letN hP (by omega) w1.1]
      unfold jk_let
      rw [eX]
    obtain ⟨p2, b2⟩ := hP.2.2.2 (3 * i + 2) (by omega)
    have t2 : X 4 (3 * i + 2) - nI 48 = jf_cl P (3 * i + 2) := by
      unfold jf_cl
      rw [eX, p2]
    unfold jf_netS jk_netS
    rw [t0, t1, t2]
    have ne : jf_nd P (3 * i) ≠ jf_nd P (3 * i + 1) := fun w => w1.2 (by
      obtain ⟨p1, b1⟩ := hP.2.2.2 (3 * i + 1) (by omega)
      obtain ⟨p0, b0⟩ := hP.2.2.2 (3 * i) (by omega)
      have := congrArg Int32.toInt w
      unfold jf_nd at this
      rw [p1, p0, jm_subN (by decide) b0, jm_subN (by decide) b1] at this
      rw [p1, p0]
      apply Int32.toInt_inj.mp
      omega)
    obtain ⟨a, ha, ea⟩ := jf_node_of w0
    obtain ⟨c, hc, ec⟩ := jf_node_of w1.1
    have kb := (jm_within (by decide) (by decide)).mp w2
    rw [ea, ec] at ne ⊢
    rw [nI_clamp (by omega), nI_clamp (by omega)]
    have hac : a ≠ c := fun z => ne (by rw [z])
    have el : jk_lay X a c (jf_cl P (3 * i + 2)) = jm_pl X (jf_spot a c) (jf_cl P (3 * i + 2)) := by
      unfold jk_lay jm_pl
      rw [if_pos (jm_ge0.mpr (by omega))]
    rw [el]
    have hs := jf_spot_lt ha hc
    have hcn := jm_cnt_pl64 X hs (jf_cl P (3 * i + 2))
    have cle : jk_cnt (jm_pl X (jf_spot a c) (jf_cl P (3 * i + 2))) 64 ≤ i + 1 := by
      have : (if jf_cl P (3 * i + 2) < 0 then 0 else 1) ≤ 1 := by split <;> omega
      omega
    exact ⟨jm_lay h1 h2 ha hc hac (by omega), jm_pl_I h2 hs (jm_spot_lt2 ha hc hac) (Or.inr (by omega)) (by omega), fun r hr => by rw [jm_pl_r _ _ _ hr]; exact h3 r hr, cle⟩
