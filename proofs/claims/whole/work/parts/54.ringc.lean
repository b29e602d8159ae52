/-! ===== the ring ===== -/
theorem jm_fa {E : jf_B} {p : Nat} : ∀ d a0, (∃ a, jk_fa E p d a0 = some a ∧ a0 ≤ a ∧ a < a0 + d ∧ jk_al E a (a + p) 81 = true ∧ ∀ b, a0 ≤ b → b < a → ¬ jk_al E b (b + p) 81 = true) ∨ (jk_fa E p d a0 = none ∧ ∀ b, a0 ≤ b → b < a0 + d → ¬ jk_al E b (b + p) 81 = true)
  | 0, a0 => Or.inr ⟨rfl, fun b h1 h2 => absurd h2 (by omega)⟩
  | d + 1, a0 => by
    have e : jk_fa E p (d + 1) a0 = if jk_al E a0 (a0 + p) 81 then some a0 else jk_fa E p d (a0 + 1) := rfl
    rw [e]
    by_cases q : jk_al E a0 (a0 + p) 81 = true
    · rw [if_pos q]
      exact Or.inl ⟨a0, rfl, by omega, by omega, q, fun b h1 h2 => absurd h2 (by omega)⟩
    · rw [if_neg q]
      rcases jm_fa (E := E) (p := p) d (a0 + 1) with ⟨a, h1, h2, h3, h4, h5⟩ | ⟨h1, h2⟩
      · refine Or.inl ⟨a, h1, by omega, by omega, h4, fun b k1 k2 => ?_⟩
        by_cases z : b = a0
        · rw [z]; exact q
        · exact h5 b (by omega) k2
      · refine Or.inr ⟨h1, fun b k1 k2 => ?_⟩
        by_cases z : b = a0
        · rw [z]; exact q
        · exact h2 b (by omega) (by omega)
theorem jm_fp {E : jf_B} : ∀ d p0, (∃ a p, jk_fp E d p0 = some (a, p) ∧ p0 ≤ p ∧ p < p0 + d ∧ jk_fa E p (301 - p) 0 = some a ∧ ∀ q, p0 ≤ q → q < p → jk_fa E q (301 - q) 0 = none) ∨ (jk_fp E d p0 = none ∧ ∀ q, p0 ≤ q → q < p0 + d → jk_fa E q (301 - q) 0 = none)
  | 0, p0 => Or.inr ⟨rfl, fun b h1 h2 => absurd h2 (by omega)⟩
  | d + 1, p0 => by
    have e : jk_fp E (d + 1) p0 = match jk_fa E p0 (301 - p0) 0 with
      | some a => some (a, p0)
      | none => jk_fp E d (p0 + 1) := rfl
    rw [e]
    cases q : jk_fa E p0 (301 - p0) 0 with
    | some a => exact Or.inl ⟨a, p0, rfl, by omega, by omega, q, fun b h1 h2 => absurd h2 (by omega)⟩
    | none =>
      rcases jm_fp (E := E) d (p0 + 1) with ⟨a, p, h1, h2, h3, h4, h5⟩ | ⟨h1, h2⟩
      · refine Or.inl ⟨a, p, h1, by omega, by omega, h4, fun b k1 k2 => ?_⟩
        by_cases z : b = p0
        · rw [z]; exact q
        · exact h5 b (by omega) k2
      · refine Or.inr ⟨h1, fun b k1 k2 => ?_⟩
        by_cases z : b = p0
        · rw [z]; exact q
        · exact h2 b (by omega) (by omega)
theorem jm_rl (ru : Int32) (A B : jf_B) : ∀ k i, (∃ p, jf_rl ru A B k i = (nI p, jf_wk ru A p) ∧ i < p ∧ p ≤ i + k ∧ jf_alike (jf_wk ru A p) B = true ∧ ∀ q, i < q → q < p → ¬ jf_alike (jf_wk ru A q) B = true) ∨ (jf_rl ru A B k i = (-6, jf_wk ru A (i + k)) ∧ ∀ q, i < q → q ≤ i + k → ¬ jf_alike (jf_wk ru A q) B = true)
  | 0, i => Or.inr ⟨rfl, fun q h1 h2 => absurd h2 (by omega)⟩
  | k + 1, i => by
    have e : jf_rl ru A B (k + 1) i = if jf_alike (jf_wk ru A (i + 1)) B then (nI (i + 1), jf_wk ru A (i + 1)) else jf_rl ru A B k (i + 1) := rfl
    rw [e]
    by_cases q : jf_alike (jf_wk ru A (i + 1)) B = true
    · rw [if_pos q]
      exact Or.inl ⟨i + 1, rfl, by omega, by omega, q, fun b h1 h2 => absurd h2 (by omega)⟩
    · rw [if_neg q]
      rcases jm_rl ru A B k (i + 1) with ⟨p, h1, h2, h3, h4, h5⟩ | ⟨h1, h2⟩
      · refine Or.inl ⟨p, h1, by omega, by omega, h4, fun b k1 k2 => ?_⟩
        by_cases z : b = i + 1
        · rw [z]; exact q
        · exact h5 b (by omega) k2
      · refine Or.inr ⟨by rw [h1, show i + 1 + k = i + (k + 1) by omega], fun b k1 k2 => ?_⟩
        by_cases z : b = i + 1
        · rw [z]; exact q
        · exact h2 b (by omega) (by omega)
theorem jm_rs (ru : Int32) (A B : jf_B) : ∀ k i, (∃ a, jf_rs ru A B k i = (nI a, jf_wk ru A a, jf_wk ru B a) ∧ i ≤ a ∧ a < i + k ∧ jf_alike (jf_wk ru A a) (jf_wk ru B a) = true ∧ ∀ q, i ≤ q → q < a → ¬ jf_alike (jf_wk ru A q) (jf_wk ru B q) = true) ∨ (jf_rs ru A B k i = (-6, jf_wk ru A (i + k), jf_wk ru B (i + k)) ∧ ∀ q, i ≤ q → q < i + k → ¬ jf_alike (jf_wk ru A q) (jf_wk ru B q) = true)
  | 0, i => Or.inr ⟨rfl, fun q h1 h2 => absurd h2 (by omega)⟩
  | k + 1, i => by
    have e : jf_rs ru A B (k + 1) i = if jf_alike (jf_wk ru A i) (jf_wk ru B i) then (nI i, jf_wk ru A i, jf_wk ru B i) else jf_rs ru A B k (i + 1) := rfl
    rw [e]
    by_cases q : jf_alike (jf_wk ru A i) (jf_wk ru B i) = true
    · rw [if_pos q]
      exact Or.inl ⟨i, rfl, by omega, by omega, q, fun b h1 h2 => absurd h2 (by omega)⟩
    · rw [if_neg q]
      rcases jm_rs ru A B k (i + 1) with ⟨p, h1, h2, h3, h4, h5⟩ | ⟨h1, h2⟩
      · refine Or.inl ⟨p, h1, by omega, by omega, h4, fun b k1 k2 => ?_⟩
        by_cases z : b = i
        · rw [z]; exact q
        · exact h5 b (by omega) k2
      · refine Or.inr ⟨by rw [h1, show i + 1 + k = i + (k + 1) by omega], fun b k1 k2 => ?_⟩
        by_cases z : b = i
        · rw [z]; exact q
        · exact h2 b (by omega) (by omega)
/-- rows that step alike -/
theorem jm_sh {P : Nat → Nat → Prop} {B : Nat} (hs : ∀ i j, i < B → j < B → P i j → P (i + 1) (j + 1)) {i j : Nat} (h : P i j) : ∀ n, i + n ≤ B → j + n ≤ B → P (i + n) (j + n)
  | 0, _, _ => h
  | n + 1, h1, h2 => hs (i + n) (j + n) (by omega) (by omega) (jm_sh hs h n (by omega) (by omega))
theorem jm_cy {P : Nat → Nat → Prop} {B : Nat} (hr : ∀ i, P i i) (ht : ∀ i j k, P i j → P j k → P i k) (hs : ∀ i j, i < B → j < B → P i j → P (i + 1) (j + 1)) {a p : Nat} (h : P a (a + p)) : ∀ k, a + k * p ≤ B → P a (a + k * p)
  | 0, _ => by rw [Nat.zero_mul]; exact hr a
  | k + 1, hk => by
    rw [Nat.succ_mul] at hk ⊢
    have h1 := jm_cy hr ht hs h k (by omega)
    have h2 := jm_sh hs h (k * p) (by omega) (by omega)
    rw [show a + p + k * p = a + (k * p + p) by omega] at h2
    exact ht _ _ _ h1 h2
theorem jm_in {P : Nat → Nat → Prop} (hr : ∀ i, P i i) (hy : ∀ i j, P i j → P j i) (ht : ∀ i j k, P i j → P j k → P i k) (hs : ∀ i j, i < 1000 → j < 1000 → P i j → P (i + 1) (j + 1)) {a p q : Nat} (hp : 1 ≤ p) (hb : a + p ≤ 300) (hq : q ≤ p) (h : P a (a + p)) (h3 : P 300 (300 + q)) : P a (a + q) := by
  have hk : ∃ k, 300 ≤ a + k * p ∧ a + k * p < 300 + p := by
    refine ⟨(300 - a + p - 1) / p, ?_, ?_⟩
    · have := Nat.lt_div_mul_add (a := 300 - a + p - 1) (b := p) (by omega)
      omega
    · have := Nat.div_mul_le_self (300 - a + p - 1) p
      omega
  obtain ⟨k, k1, k2⟩ := hk
  have e1 := jm_cy hr ht hs h k (by omega)
  have e2 := jm_sh hs h3 (a + k * p - 300) (by omega) (by omega)
  rw [show 300 + (a + k * p - 300) = a + k * p by omega, show 300 + q + (a + k * p - 300) = a + k * p + q by omega] at e2
  have e3 := jm_sh hs e1 q (by omega) (by omega)
  exact ht _ _ _ (ht _ _ _ e1 e2) (hy _ _ e3)
theorem jm_nI6 {n : Nat} (h : n < 2 ^ 31) : ¬ nI n = -6 := by
  intro e
  have h1 := nI_toInt h
  rw [e] at h1
  have : ((-6 : Int32)).toInt = -6 := by decide
  omega
theorem jm_ring {c : Nat} (hc : c ≤ 38000) (ru w : Int32) {C N K M : jf_B} (hR : jm_R C M) (hI : jm_I c M) (hN : ∀ i, i < 8 → N 7 i = 0) (hK : ∀ i, i < 8 → K 7 i = 0) : (jF_ring ru w C N K).1 = (jk_ring ru w M).1 ∧ jm_O M (jk_ring ru w M).2 ∧ (∀ i, i < 8 → (jF_ring ru w C N K).2.1 7 i = 0) ∧ ∀ i, i < 8 → (jF_ring ru w C N K).2.2 7 i = 0 := by
  have hO0 : jm_O M M := ⟨⟨fun _ _ => rfl, rfl, rfl, rfl⟩, fun _ _ => rfl⟩
  unfold jF_ring jk_ring
  by_cases q1 : jf_within ru (nI 0) (nI 2) = true
  · rw [if_pos q1, if_pos q1]
    by_cases q2 : jf_within w (nI 0) (nI 1) = true
    · rw [if_pos q2, if_pos q2]
      have hW := jm_bec hR hN
      obtain ⟨hO, hE⟩ := jm_rE ru hW hI hc
      -- any walk from a net that stands for M
      have hwk : ∀ W, jm_R W M → ∀ i, i ≤ 1000 → jm_R (jf_wk ru W i) (jk_go ru M i).1 ∧ jm_I (c + 1000) (jk_go ru M i).1 ∧ jm_Z M (jk_go ru M i).1 := fun W h i hi => by
        have := jm_wk ru h hI i (by omega)
        exact ⟨this.1, jm_I_le (by omega) this.2.1, this.2.2⟩
      have h7 : ∀ W, jm_R W M → ∀ i, i ≤ 1000 → ∀ n, n < 8 → jf_wk ru W i 7 n = 0 := fun W h i hi n hn => (hwk W h i hi).1.2.2.2.2.2 n hn
      generalize hWW : jf_become C N = W at *
      let P : Nat → Nat → Prop := fun i j => jm_al (jf_wk ru W i) (jf_wk ru W j)
      have pr : ∀ i, P i i := fun i => ⟨fun _ _ => ⟨rfl, rfl⟩, fun _ _ => rfl, rfl⟩
      have py : ∀ i j, P i j → P j i := fun i j h => jm_al_s h
      have pt : ∀ i j k, P i j → P j k → P i k := fun i j k h1 h2 => jm_al_t h1 h2
      have ps : ∀ i j, i < 1000 → j < 1000 → P i j → P (i + 1) (j + 1) := fun i j hi hj h => by
        have a1 := hwk W hW i (by omega)
        have a2 := hwk W hW j (by omega)
        show jm_al (jf_wk ru W (i + 1)) (jf_wk ru W (j + 1))
        rw [jf_wk_s, jf_wk_s]
        exact jm_alk ru (c := c + 1000) (by omega) a1.1 a1.2.1 a2.1 a2.2.1 (fun z hz => by rw [a2.2.2 z hz, a1.2.2 z hz]) h
      have psame : ∀ W2, jm_R W2 M → ∀ i, i ≤ 1000 → jm_al (jf_wk ru W2 i) (jf_wk ru W i) := fun W2 h i hi => jm_same (hwk W2 h i hi).1 (hwk W hW i hi).1 (hwk W hW i hi).2.1.1
      -- the length
      have eA : jf_rlA ru C N = jf_wk ru W 300 := by unfold jf_rlA; rw [hWW, jm_go_wk]
      have hA3 := (hwk W hW 300 (by omega))
      have hB : jm_R (jf_become (jf_rlA ru C N) K) (jk_go ru M 300).1 := by rw [eA]; exact jm_bec hA3.1 hK
      have hB7 : ∀ i, i < 8 → jf_become (jf_rlA ru C N) K 7 i = 0 := fun i hi => by rw [jm_bec_7]; exact hK i hi
      have hlen : ∀ p, p ≤ 300 → (jf_alike (jf_wk ru (jf_rlA ru C N) p) (jf_become (jf_rlA ru C N) K) = true ↔ P 300 (300 + p)) := fun p hp => by
        have s1 : jm_al (jf_become (jf_rlA ru C N) K) (jf_wk ru W 300) := jm_same hB hA3.1 hA3.2.1.1
        rw [jm_alike, eA, jm_wk_add]
        rw [eA] at s1
        exact ⟨fun h => jm_al_s (jm_al_t h s1), fun h => jm_al_t (jm_al_s h) (jm_al_s s1)⟩
      have hal : ∀ a p, a + p ≤ 300 → (jk_al (jk_rE ru M) a (a + p) 81 = true ↔ P a (a + p)) := fun a p h => hE a (a + p) (by omega) h
      have hL : ∀ L, L = jf_ringL ru C N K → (∃ p, L = (nI p, jf_wk ru (jf_rlA ru C N) p) ∧ 1 ≤ p ∧ p ≤ 300 ∧ P 300 (300 + p) ∧ ∀ q, 1 ≤ q → q < p → ¬ P 300 (300 + q)) ∨ (L = (-6, jf_wk ru (jf_rlA ru C N) 300) ∧ ∀ q, 1 ≤ q → q ≤ 300 → ¬ P 300 (300 + q)) := by
        intro L hL
        rw [hL]
        unfold jf_ringL
        rcases jm_rl ru (jf_rlA ru C N) (jf_become (jf_rlA ru C N) K) 300 0 with ⟨p, e1, e2, e3, e4, e5⟩ | ⟨e1, e2⟩
        · exact Or.inl ⟨p, e1, by omega, by omega, (hlen p (by omega)).mp e4, fun q z1 z2 z3 => e5 q (by omega) z2 ((hlen q (by omega)).mpr z3)⟩
        · refine Or.inr ⟨by rw [e1], fun q z1 z2 z3 => e2 q (by omega) (by omega) ((hlen q (by omega)).mpr z3)⟩
      have hS : ∀ p N' S, p ≤ 300 → (∀ i, i < 8 → N' 7 i = 0) → S = jf_ringS ru p C N' (jf_become (jf_rlA ru C N) K) → ((∃ a, S.1 = nI a ∧ a + p ≤ 300 ∧ P a (a + p) ∧ ∀ b, b < a → ¬ P b (b + p)) ∨ (S.1 = -6 ∧ ∀ b, b + p ≤ 300 → ¬ P b (b + p))) ∧ (∀ i, i < 8 → S.2.1 7 i = 0) ∧ ∀ i, i < 8 → S.2.2 7 i = 0 := by
        intro p N' S hp hN' hS
        have w1 := jm_bec hR hN'
        have w2 := jm_bec hR hB7
        rw [hS]
        unfold jf_ringS
        rw [jm_go_wk]
        generalize jf_become C N' = W1 at *
        generalize jf_become C (jf_become (jf_rlA ru C N) K) = W2 at *
        have hst : ∀ a, a + p ≤ 300 → (jf_alike (jf_wk ru (jf_wk ru W1 p) a) (jf_wk ru W2 a) = true ↔ P a (a + p)) := fun a ha => by
          rw [jm_alike, jm_wk_add, Nat.add_comm p a]
          have s1 := psame W1 w1 (a + p) (by omega)
          have s2 := psame W2 w2 a (by omega)
          exact ⟨fun h => jm_al_t (jm_al_s s2) (jm_al_t (jm_al_s h) s1), fun h => jm_al_t s1 (jm_al_t (jm_al_s h) (jm_al_s s2))⟩
        have hz : ∀ a, a ≤ 301 → (∀ i, i < 8 → jf_wk ru (jf_wk ru W1 p) a 7 i = 0) ∧ ∀ i, i < 8 → jf_wk ru W2 a 7 i = 0 := fun a ha => by
          rw [jm_wk_add]
          exact ⟨h7 W1 w1 _ (by omega), h7 W2 w2 _ (by omega)⟩
        rcases jm_rs ru (jf_wk ru W1 p) W2 (301 - p) 0 with ⟨a, e1, e2, e3, e4, e5⟩ | ⟨e1, e2⟩
        · rw [e1]
          exact ⟨Or.inl ⟨a, rfl, by omega, (hst a (by omega)).mp e4, fun b z1 z2 => e5 b (by omega) z1 ((hst b (by omega)).mpr z2)⟩, hz a (by omega)⟩
        · rw [e1]
          exact ⟨Or.inr ⟨rfl, fun b z1 z2 => e2 b (by omega) (by omega) ((hst b z1).mpr z2)⟩, hz _ (by omega)⟩
      -- the model's search
      have hM : ∀ o, o = jk_fp (jk_rE ru M) 300 1 → (∃ a p, o = some (a, p) ∧ 1 ≤ p ∧ a + p ≤ 300 ∧ P a (a + p) ∧ (∀ b, b < a → ¬ P b (b + p)) ∧ ∀ q, 1 ≤ q → q < p → ∀ b, b + q ≤ 300 → ¬ P b (b + q)) ∨ (o = none ∧ ∀ q, 1 ≤ q → q ≤ 300 → ∀ b, b + q ≤ 300 → ¬ P b (b + q)) := by
        intro o ho
        rw [ho]
        have nofa : ∀ q, q ≤ 300 → jk_fa (jk_rE ru M) q (301 - q) 0 = none → ∀ b, b + q ≤ 300 → ¬ P b (b + q) := fun q hq hn b hb hp => by
          rcases jm_fa (E := jk_rE ru M) (p := q) (301 - q) 0 with ⟨a, e1, _⟩ | ⟨e1, e2⟩
          · rw [hn] at e1; exact absurd e1 (by simp)
          · exact e2 b (by omega) (by omega) ((hal b q hb).mpr hp)
        rcases jm_fp (E := jk_rE ru M) 300 1 with ⟨a, p, e1, e2, e3, e4, e5⟩ | ⟨e1, e2⟩
        · rcases jm_fa (E := jk_rE ru M) (p := p) (301 - p) 0 with ⟨a', f1, f2, f3, f4, f5⟩ | ⟨f1, f2⟩
          · rw [e4] at f1
            have : a' = a := (Option.some.inj f1).symm
            subst this
            exact Or.inl ⟨a', p, e1, e2, by omega, (hal a' p (by omega)).mp f4, fun b z1 z2 => f5 b (by omega) z1 ((hal b p (by omega)).mpr z2), fun q z1 z2 => nofa q (by omega) (e5 q z1 z2)⟩
          · rw [e4] at f1; exact absurd f1 (by simp)
        · exact Or.inr ⟨e1, fun q z1 z2 => nofa q z2 (e2 q z1 (by omega))⟩
      have hwk3 : ∀ p, p ≤ 300 → ∀ i, i < 8 → jf_wk ru (jf_rlA ru C N) p 7 i = 0 := fun p hp i hi => by
        rw [eA, jm_wk_add]
        exact h7 W hW _ (by omega) i hi
      refine ⟨?_, hO, ?_⟩
      · rcases hM _ rfl with ⟨a, p, m1, m2, m3, m4, m5, m6⟩ | ⟨m1, m2⟩
        · rw [m1]
          have p3 : P 300 (300 + p) := by
            have := jm_sh ps m4 (300 - a) (by omega) (by omega)
            rw [show a + (300 - a) = 300 by omega, show a + p + (300 - a) = 300 + p by omega] at this
            exact this
          rcases hL _ rfl with ⟨p', l1, l2, l3, l4, l5⟩ | ⟨l1, l2⟩
          · have pp : p' = p := by
              by_cases z : p' = p
              · exact z
              · exfalso
                have le : p' ≤ p := by
                  by_cases y : p' ≤ p
                  · exact y
                  · exact absurd p3 (l5 p (by omega) (by omega))
                exact m6 p' l2 (by omega) a (by omega) (jm_in pr py pt ps m2 m3 le m4 l4)
            rw [pp] at l1
            rw [l1]
            dsimp only
            rw [if_neg (jm_nI6 (by omega)), nI_clamp (by omega)]
            obtain ⟨hs1, _⟩ := hS p (jf_wk ru (jf_rlA ru C N) p) _ (by omega) (hwk3 p (by omega)) rfl
            generalize jf_ringS ru p C (jf_wk ru (jf_rlA ru C N) p) (jf_become (jf_rlA ru C N) K) = S at *
            rcases hs1 with ⟨a', s1, s2, s3, s4⟩ | ⟨s1, s2⟩
            · have aa : a' = a := by
                by_cases z : a' < a
                · exact absurd s3 (m5 a' z)
                · by_cases y : a < a'
                  · exact absurd m4 (s4 a y)
                  · omega
              rw [aa] at s1
              rw [s1, if_neg (jm_nI6 (by omega))]
              unfold jk_rV
              dsimp only
              split
              · exact s1
              · rfl
            · exact absurd m4 (s2 a m3)
          · exact absurd p3 (l2 p m2 (by omega))
        · rw [m1]
          rcases hL _ rfl with ⟨p', l1, l2, l3, l4, l5⟩ | ⟨l1, l2⟩
          · rw [l1]
            dsimp only
            rw [if_neg (jm_nI6 (by omega)), nI_clamp (by omega)]
            obtain ⟨hs1, _⟩ := hS p' (jf_wk ru (jf_rlA ru C N) p') _ (by omega) (hwk3 p' (by omega)) rfl
            generalize jf_ringS ru p' C (jf_wk ru (jf_rlA ru C N) p') (jf_become (jf_rlA ru C N) K) = S at *
            rcases hs1 with ⟨a', s1, s2, s3, s4⟩ | ⟨s1, s2⟩
            · exact absurd s3 (m2 p' l2 l3 a' s2)
            · rw [if_pos s1]
              exact s1
          · rw [l1]
            dsimp only
            rw [if_pos rfl]
            rfl
      · rcases hL _ rfl with ⟨p', l1, l2, l3, l4, l5⟩ | ⟨l1, l2⟩
        · rw [l1]
          dsimp only
          rw [if_neg (jm_nI6 (by omega)), nI_clamp (by omega)]
          obtain ⟨_, hs2⟩ := hS p' (jf_wk ru (jf_rlA ru C N) p') _ (by omega) (hwk3 p' (by omega)) rfl
          generalize jf_ringS ru p' C (jf_wk ru (jf_rlA ru C N) p') (jf_become (jf_rlA ru C N) K) = S at *
          split
          · exact hs2
          · split
            · exact hs2
            · exact hs2
        · rw [l1]
          dsimp only
          rw [if_pos rfl]
          exact ⟨hwk3 300 (by omega), hB7⟩
    · rw [if_neg q2, if_neg q2]
      exact ⟨rfl, hO0, hN, hK⟩
  · rw [if_neg q1, if_neg q1]
    exact ⟨rfl, hO0, hN, hK⟩
