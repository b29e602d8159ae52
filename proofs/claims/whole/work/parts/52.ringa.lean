/-! ===== alike stays alike ===== -/
def jm_al (N N' : jf_B) : Prop := (∀ i, i < 8 → N 2 i = N' 2 i ∧ jf_rlo N i = jf_rlo N' i) ∧ (∀ j, j < 64 → N 6 j = N' 6 j) ∧ jf_turn N = jf_turn N'
theorem jm_al_s {A B : jf_B} (h : jm_al A B) : jm_al B A := ⟨fun i hi => ⟨(h.1 i hi).1.symm, (h.1 i hi).2.symm⟩, fun j hj => (h.2.1 j hj).symm, h.2.2.symm⟩
theorem jm_al_t {A B C : jf_B} (h : jm_al A B) (k : jm_al B C) : jm_al A C := ⟨fun i hi => ⟨(h.1 i hi).1.trans (k.1 i hi).1, (h.1 i hi).2.trans (k.1 i hi).2⟩, fun j hj => (h.2.1 j hj).trans (k.2.1 j hj), h.2.2.trans k.2.2⟩
theorem jm_alJ (A B : jf_B) : ∀ n, jf_alJ A B n = true ↔ ∀ i, i < n → A 2 i = B 2 i ∧ jf_rlo A i = jf_rlo B i
  | 0 => ⟨fun _ i hi => absurd hi (by omega), fun _ => rfl⟩
  | n + 1 => by
    have ih := jm_alJ A B n
    show (if A 2 n = B 2 n then (if jf_rlo A n = jf_rlo B n then jf_alJ A B n else false) else false) = true ↔ _
    by_cases q : A 2 n = B 2 n
    · rw [if_pos q]
      by_cases z : jf_rlo A n = jf_rlo B n
      · rw [if_pos z, ih]
        refine ⟨fun h i hi => ?_, fun h i hi => h i (by omega)⟩
        by_cases y : i = n
        · rw [y]; exact ⟨q, z⟩
        · exact h i (by omega)
      · rw [if_neg z]
        exact ⟨fun h => absurd h (by decide), fun h => absurd (h n (by omega)).2 z⟩
    · rw [if_neg q]
      exact ⟨fun h => absurd h (by decide), fun h => absurd (h n (by omega)).1 q⟩
theorem jm_alC (A B : jf_B) : ∀ n, jf_alC A B n = true ↔ ∀ i, i < n → A 6 i = B 6 i
  | 0 => ⟨fun _ i hi => absurd hi (by omega), fun _ => rfl⟩
  | n + 1 => by
    have ih := jm_alC A B n
    show (if A 6 n = B 6 n then jf_alC A B n else false) = true ↔ _
    by_cases q : A 6 n = B 6 n
    · rw [if_pos q, ih]
      refine ⟨fun h i hi => ?_, fun h i hi => h i (by omega)⟩
      by_cases y : i = n
      · rw [y]; exact q
      · exact h i (by omega)
    · rw [if_neg q]
      exact ⟨fun h => absurd h (by decide), fun h => absurd (h n (by omega)) q⟩
theorem jm_alike (A B : jf_B) : jf_alike A B = true ↔ jm_al A B := by
  unfold jf_alike jm_al
  rw [Bool.and_eq_true, Bool.and_eq_true, jm_alJ, jm_alC]
  unfold jf_turn
  by_cases q : jf_rem (A 0 8) (jf_colours A) = jf_rem (B 0 8) (jf_colours B)
  · rw [if_pos q]
    exact ⟨fun h => ⟨h.1, h.2.1, q⟩, fun h => ⟨h.1, h.2.1, rfl⟩⟩
  · rw [if_neg q]
    exact ⟨fun h => absurd h.2.2 (by decide), fun h => absurd h.2.2 q⟩
/-- two nets that stand for the same row -/
theorem jm_same {A B X : jf_B} (hA : jm_R A X) (hB : jm_R B X) (hC : jm_co X) : jm_al A B := by
  refine ⟨fun i hi => ⟨by rw [hA.2.1 i hi, hB.2.1 i hi], ?_⟩, fun j hj => by rw [hA.2.2.2.1 j hj, hB.2.2.2.1 j hj], ?_⟩
  · rw [jm_rlo hA.1 hi (hA.2.2.1 i hi), jm_rlo hB.1 hi (hB.2.2.1 i hi)]
  · rw [jm_turn hA.1 hC hA.2, jm_turn hB.1 hC hB.2]
theorem jm_one_t (ru : Int32) (g : Nat → Int32) (v : Int32) {c : Nat} (hc : c ≤ 40000) {N X : jf_B} (hR : jm_R N X) (hI : jm_I c X) (h : ∀ i, i < 8 → jf_rlo (jm_t g v N) i = jf_rlo N i) (ht : jf_turn (jm_t g v N) = jf_turn N) : ∃ g', jf_one ru (jm_t g v N) = jm_tp g' v (jf_one ru N) ∧ ∀ i, i < 8 → jf_rlo (jm_t g' v (jf_one ru N).1) i = jf_rlo (jf_one ru N).1 i := by
  obtain ⟨a1, a2, a3, a4, a5, ⟨r, a6, a7⟩, a8, a9⟩ := hI
  obtain ⟨hS, hD⟩ := hR
  have key : ∀ A : jf_B, A 3 = N 3 → A 4 = N 4 → ∀ i, i < 8 → jf_rlo (jm_t g v A) i = jf_rlo A i := by
    intro A e3 e4 i hi
    have h1 := h i hi
    unfold jf_rlo at h1 ⊢
    rw [jm_slots_t, jm_t_3] at h1 ⊢
    unfold jf_slots at h1 ⊢
    rw [e3, e4]
    exact h1
  unfold jf_one
  by_cases q0 : ru = 0
  · rw [if_pos q0, if_pos q0]
    obtain ⟨b1, b2, b3, b4, b5, b6⟩ := jm_flow hS a1 hD
    exact ⟨g, jm_flow_t g v N, key _ (b5 3 (by decide) (by decide) (by decide)) (b5 4 (by decide) (by decide) (by decide))⟩
  · rw [if_neg q0, if_neg q0]
    by_cases q1 : ru = nI 1
    · rw [if_pos q1, if_pos q1]
      obtain ⟨b1, b2, b3, b4, b5, b6⟩ := jm_exch (K := 186 * (c : Int)) hS a1 a2 hD (by omega) a8 a9 (jm_turn_nn a1 (by omega) a7)
      exact ⟨g, jm_exch_t g v N ht, key _ (b2 3 (by decide)) (b2 4 (by decide))⟩
    · rw [if_neg q1, if_neg q1]
      exact jm_deal_t g v N h
theorem jm_turn_rn {M : jf_B} (hC : jm_co M) {c : Nat} (hc : c ≤ 40000) (hr : ∃ r : Nat, r ≤ c ∧ M 1 152 = nI r) : ∃ r k : Nat, k ≤ 3 ∧ r ≤ c ∧ M 1 152 = nI r ∧ jk_col M = nI (k + 1) ∧ jk_turn M = nI (r % (k + 1)) := by
  obtain ⟨r, h1, h2⟩ := hr
  obtain ⟨k, h3, h4⟩ := jm_col4 hC
  exact ⟨r, k, h3, h1, h2, h4, jm_turn_r h2 (by omega) h3 h4⟩
theorem jm_mod1 {r s m : Nat} (h : r % m = s % m) : (r + 1) % m = (s + 1) % m := by
  rw [Nat.add_mod, h, ← Nat.add_mod]
theorem jm_alk (ru : Int32) {c : Nat} (hc : c ≤ 39999) {N X N' X' : jf_B} (hR : jm_R N X) (hI : jm_I c X) (hR' : jm_R N' X') (hI' : jm_I c X') (hZ : jm_Z X X') (hA : jm_al N N') : jm_al (jf_go ru N 1).1 (jf_go ru N' 1).1 := by
  have hz : ∀ j, j < 64 → X' 1 (24 + j) = X 1 (24 + j) := fun j hj => hZ _ (by omega)
  have hC := hI.1
  have hC' := hI'.1
  have esl : ∀ i, i < 8 → jf_slots N' i = jf_slots N i := fun i hi => by rw [jm_slots hR.1 hi, jm_slots hR'.1 hi, jk_deg_c hz hi 8 (by omega)]
  have eco : jf_colours N' = jf_colours N := by rw [jm_colours hR.1 hC, jm_colours hR'.1 hC', jk_col_c hz]
  -- the second net, with the first one's scratch
  have hT : jm_R (jm_t (N' 3) (N' 0 8) N) X' := by
    refine ⟨jm_S_of hR.1 (jm_t_r _ _ _ (by decide) (by decide)) (jm_t_r _ _ _ (by decide) (by decide)) (jm_t_r _ _ _ (by decide) (by decide)) (jm_t_7 _ _ _) hZ, fun i hi => ?_, fun i hi => ?_, fun j hj => ?_, ?_, fun i hi => ?_⟩
    · rw [jm_t_r _ _ _ (by decide) (by decide), (hA.1 i hi).1]; exact hR'.2.1 i hi
    · rw [jm_t_3]; exact hR'.2.2.1 i hi
    · rw [jm_t_r _ _ _ (by decide) (by decide), hA.2.1 j hj]; exact hR'.2.2.2.1 j hj
    · rw [jm_t_8]; exact hR'.2.2.2.2.1
    · rw [jm_t_r _ _ _ (by decide) (by decide)]; exact hR.2.2.2.2.2 i hi
  have h1 : ∀ i, i < 8 → jf_rlo (jm_t (N' 3) (N' 0 8) N) i = jf_rlo N i := fun i hi => by
    rw [(hA.1 i hi).2]
    unfold jf_rlo
    rw [jm_slots_t, jm_t_3, esl i hi]
  have h2 : jf_turn (jm_t (N' 3) (N' 0 8) N) = jf_turn N := by
    rw [hA.2.2]
    unfold jf_turn
    rw [jm_colours_t, jm_t_8, eco]
  obtain ⟨g', e1, e2⟩ := jm_one_t ru (N' 3) (N' 0 8) (by omega) hR hI h1 h2
  have r1 := (jm_wk1 (by omega) ru hT hI').1
  have r2 := jm_wk1 (c := c) (by omega) ru hR' hI'
  have r3 := jm_wk1 (c := c) (by omega) ru hR hI
  refine jm_al_t ?_ (jm_same r1 r2.1 r2.2.1.1)
  have f1 : (jf_go ru N 1).1 = jf_w (jf_one ru N).1 0 8 ((jf_one ru N).1 0 8 + nI 1) := rfl
  have f2 : (jf_go ru (jm_t (N' 3) (N' 0 8) N) 1).1 = jf_w (jf_one ru (jm_t (N' 3) (N' 0 8) N)).1 0 8 ((jf_one ru (jm_t (N' 3) (N' 0 8) N)).1 0 8 + nI 1) := rfl
  have f3 : (jf_one ru (jm_t (N' 3) (N' 0 8) N)).1 = jm_t g' (N' 0 8) (jf_one ru N).1 := by rw [e1]; rfl
  rw [f3] at f2
  refine ⟨fun i hi => ⟨?_, ?_⟩, fun j hj => ?_, ?_⟩
  · rw [f1, f2, jf_w_r _ _ _ (by decide), jf_w_r _ _ _ (by decide), jm_t_r _ _ _ (by decide) (by decide)]
  · have := e2 i hi
    rw [f1, f2]
    unfold jf_rlo jf_slots at this ⊢
    rw [jf_w_r _ _ _ (by decide), jf_w_r _ _ _ (by decide), jf_w_r _ _ _ (by decide), jf_w_r _ _ _ (by decide)]
    exact this.symm
  · rw [f1, f2, jf_w_r _ _ _ (by decide), jf_w_r _ _ _ (by decide), jm_t_r _ _ _ (by decide) (by decide)]
  · have t0 := hA.2.2
    rw [jm_turn r3.1.1 r3.2.1.1 r3.1.2, jm_turn r1.1 r2.2.1.1 r1.2]
    rw [jm_turn hR.1 hC hR.2, jm_turn hR'.1 hC' hR'.2] at t0
    obtain ⟨r, k, k3, rc, rr, rk, rt⟩ := jm_turn_rn hC (by omega) hI.2.2.2.2.2.1
    obtain ⟨r', k', k3', rc', rr', rk', rt'⟩ := jm_turn_rn hC' (by omega) hI'.2.2.2.2.2.1
    have w1 : (jk_round ru X).1 1 152 = nI (r + 1) := by
      have := (jm_one (c := c) (by omega) ru hR hI).2.2.1
      unfold jk_round
      dsimp only
      rw [jf_w_s, this, rr, nI_add]
    have w2 : (jk_round ru X').1 1 152 = nI (r' + 1) := by
      have := (jm_one (c := c) (by omega) ru hR' hI').2.2.1
      unfold jk_round
      dsimp only
      rw [jf_w_s, this, rr', nI_add]
    have kk : k' = k := by
      rw [jk_col_c hz, rk] at rk'
      have := (nI_eq (a := k + 1) (b := k' + 1) (by omega) (by omega)).mp rk'
      omega
    subst kk
    have m1 := Nat.mod_le r (k' + 1)
    have m2 := Nat.mod_le r' (k' + 1)
    rw [rt, rt'] at t0
    have mm := (nI_eq (a := r % (k' + 1)) (b := r' % (k' + 1)) (by omega) (by omega)).mp t0
    rw [jm_turn_r w1 (by omega) k3 (by rw [jk_col_c (fun j hj => r3.2.2 _ (by omega)), rk]), jm_turn_r w2 (by omega) k3 (by rw [jk_col_c (fun j hj => r2.2.2 _ (by omega)), rk']), jm_mod1 mm]
