/-! ===== what comes next hangs only on what is compared ===== -/
def jm_t (g : Nat → Int32) (v : Int32) (N : jf_B) : jf_B := fun r j => if r = 3 then g j else if r = 0 ∧ j = 8 then v else N r j
theorem jm_t_r (g : Nat → Int32) (v : Int32) (N : jf_B) {r : Nat} (h3 : r ≠ 3) (h0 : r ≠ 0) : jm_t g v N r = N r := by
  funext j
  unfold jm_t
  rw [if_neg h3, if_neg (fun z => h0 z.1)]
theorem jm_t_3 (g : Nat → Int32) (v : Int32) (N : jf_B) : jm_t g v N 3 = g := by
  funext j
  unfold jm_t
  rw [if_pos rfl]
theorem jm_t_8 (g : Nat → Int32) (v : Int32) (N : jf_B) : jm_t g v N 0 8 = v := by
  unfold jm_t
  rw [if_neg (by decide), if_pos ⟨rfl, rfl⟩]
theorem jm_t_7 (g : Nat → Int32) (v : Int32) (N : jf_B) : jm_t g v N 0 7 = N 0 7 := by
  unfold jm_t
  rw [if_neg (by decide), if_neg (by omega)]
theorem jm_t_w (g : Nat → Int32) (v : Int32) (N : jf_B) {r : Nat} (j : Nat) (x : Int32) (h3 : r ≠ 3) (h0 : r ≠ 0) : jf_w (jm_t g v N) r j x = jm_t g v (jf_w N r j x) := by
  funext r' k
  rw [jf_w_if]
  unfold jm_t
  rw [jf_w_if]
  by_cases z : r' = r ∧ k = j
  · rw [if_pos z, if_pos z, if_neg (by omega), if_neg (by omega)]
  · rw [if_neg z, if_neg z]
theorem jm_t_w3 (g : Nat → Int32) (v : Int32) (N : jf_B) (j : Nat) (x : Int32) : jf_w (jm_t g v N) 3 j x = jm_t (upd g j x) v (jf_w N 3 j x) := by
  funext r' k
  rw [jf_w_if]
  unfold jm_t
  rw [jf_w_if]
  by_cases z : r' = 3
  · subst z
    rw [if_pos rfl, if_pos rfl]
    by_cases y : k = j
    · simp [upd, y]
    · simp [upd, y]
  · simp [z]
theorem jm_itc {σ : Type} {f : Nat → σ → σ} {T : σ → σ} (h : ∀ i s, f i (T s) = T (f i s)) (s : σ) : ∀ n, jf_it f (T s) n = T (jf_it f s n)
  | 0 => rfl
  | n + 1 => by
    show f n (jf_it f (T s) n) = T (f n (jf_it f s n))
    rw [jm_itc h s n, h]
theorem jm_frc {σ : Type} {f : Nat → σ → σ} {T : σ → σ} (h : ∀ i s, f i (T s) = T (f i s)) (s : σ) (k : Nat) : ∀ n, jf_fr f (T s) k n = T (jf_fr f s k n)
  | 0 => rfl
  | n + 1 => by
    show f (k + n) (jf_fr f (T s) k n) = T (f (k + n) (jf_fr f s k n))
    rw [jm_frc h s k n, h]
def jm_tp {σ : Type} (g : Nat → Int32) (v : Int32) (S : jf_B × σ) : jf_B × σ := (jm_t g v S.1, S.2)
section
variable (g : Nat → Int32) (v : Int32)
theorem jm_joins_t (N : jf_B) (a c : Nat) : jf_joins (jm_t g v N) a c = jf_joins N a c := by
  unfold jf_joins
  rw [jm_t_r g v N (by decide) (by decide)]
theorem jm_slots_t (N : jf_B) (i : Nat) : jf_slots (jm_t g v N) i = jf_slots N i := by
  unfold jf_slots
  rw [jm_t_r g v N (by decide) (by decide)]
theorem jm_most_t (N : jf_B) : ∀ n, jf_most (jm_t g v N) n = jf_most N n
  | 0 => rfl
  | n + 1 => by
    unfold jf_most
    rw [jm_most_t N n, jm_slots_t]
theorem jm_great_t (N : jf_B) : ∀ n, jf_great (jm_t g v N) n = jf_great N n
  | 0 => rfl
  | n + 1 => by
    unfold jf_great
    rw [jm_great_t N n, jm_t_r g v N (by decide) (by decide)]
theorem jm_measure_t (N : jf_B) : jf_measure (jm_t g v N) = jf_measure N := by unfold jf_measure; rw [jm_most_t]
theorem jm_colours_t (N : jf_B) : jf_colours (jm_t g v N) = jf_colours N := by unfold jf_colours; rw [jm_great_t]
theorem jm_settle_t (N : jf_B) : jf_settle (jm_t g v N) = jm_t g v (jf_settle N) := by
  unfold jf_settle
  refine jm_itc (T := jm_t g v) (fun i s => ?_) N 8
  unfold jf_set1
  rw [jm_t_r g v s (show 2 ≠ 3 by decide) (by decide), jm_t_r g v s (show 7 ≠ 3 by decide) (by decide), jm_t_w g v _ _ _ (by decide) (by decide), jm_t_w g v _ _ _ (by decide) (by decide)]
theorem jm_want_t (N : jf_B) (a c : Nat) : jf_want (jm_t g v N) a c = jf_want N a c := by
  unfold jf_want
  rw [jm_t_r g v N (show 6 ≠ 3 by decide) (by decide), jm_t_r g v N (show 2 ≠ 3 by decide) (by decide), jm_t_r g v N (show 1 ≠ 3 by decide) (by decide)]
theorem jm_along_t (N : jf_B) (a c : Nat) (me : Int32) : jf_along (jm_t g v N) a c me = jm_t g v (jf_along N a c me) := by
  unfold jf_along
  rw [jm_want_t]
  dsimp only
  rw [jm_t_w g v _ _ _ (by decide) (by decide), jm_t_r g v _ (show 7 ≠ 3 by decide) (by decide), jm_t_w g v _ _ _ (by decide) (by decide), jm_t_r g v _ (show 7 ≠ 3 by decide) (by decide), jm_t_w g v _ _ _ (by decide) (by decide)]
theorem jm_flS_t (me : Int32) (a c : Nat) (S : jf_B × Int32) : jf_flS me a c (jm_tp g v S) = jm_tp g v (jf_flS me a c S) := by
  unfold jf_flS jm_tp
  dsimp only
  rw [jm_joins_t, jm_along_t, jm_want_t]
  split <;> rfl
theorem jm_flow_t (N : jf_B) : jf_flow (jm_t g v N) = jm_tp g v (jf_flow N) := by
  unfold jf_flow
  rw [jm_measure_t]
  have e : jf_it (jf_flR (jf_measure N)) (jm_t g v N, nI 0) 8 = jm_tp g v (jf_it (jf_flR (jf_measure N)) (N, nI 0) 8) := by
    refine jm_itc (T := jm_tp g v) (fun i s => ?_) (N, nI 0) 8
    unfold jf_flR
    exact jm_frc (T := jm_tp g v) (fun j s => jm_flS_t g v _ _ _ _) s _ _
  rw [e]
  generalize jf_it (jf_flR (jf_measure N)) (N, nI 0) 8 = Y
  unfold jm_tp
  dsimp only
  rw [jm_settle_t]
theorem jm_exF_t (N : jf_B) (a c : Nat) : jf_exF (jm_t g v N) a c = jf_exF N a c := by
  unfold jf_exF jf_two
  rw [jm_t_r g v N (show 2 ≠ 3 by decide) (by decide), jm_t_r g v N (show 1 ≠ 3 by decide) (by decide)]
theorem jm_exS_t (tu : Int32) (a c : Nat) (S : jf_B × Int32) : jf_exS tu a c (jm_tp g v S) = jm_tp g v (jf_exS tu a c S) := by
  unfold jf_exS jm_tp jf_exA
  dsimp only
  have e5 := jm_t_r g v S.1 (show 5 ≠ 3 by decide) (by decide)
  rw [jm_joins_t, jm_exF_t, jm_t_r g v S.1 (show 2 ≠ 3 by decide) (by decide), jm_t_w g v _ _ _ (by decide) (by decide), jm_t_w g v _ _ _ (by decide) (by decide)]
  simp only [e5]
  split
  · split <;> rfl
  · rfl
theorem jm_exch_t (N : jf_B) (ht : jf_turn (jm_t g v N) = jf_turn N) : jf_exch (jm_t g v N) = jm_tp g v (jf_exch N) := by
  unfold jf_exch
  rw [ht]
  refine jm_itc (T := jm_tp g v) (fun i s => ?_) (N, nI 0) 8
  unfold jf_exR
  exact jm_frc (T := jm_tp g v) (fun j s => jm_exS_t g v _ _ _ _) s _ _
theorem jm_dfT_t (N : jf_B) (n : Nat) (hr : jf_rlo (jm_t g v N) n = jf_rlo N n) (i : Nat) : jf_dfT (jm_t g v N) n i = jm_tp g v (jf_dfT N n i) := by
  unfold jf_dfT
  rw [hr, jm_slots_t, jm_t_r g v N (show 2 ≠ 3 by decide) (by decide)]
  refine jm_itc (T := jm_tp g v) (fun o T => ?_) (N, nI 0, nI 0) i
  unfold jf_dfS jm_tp
  dsimp only
  rw [jm_joins_t, jm_t_r g v T.1 (show 7 ≠ 3 by decide) (by decide), jm_t_w g v _ _ _ (by decide) (by decide)]
  split <;> rfl
theorem jm_dealF_t (N : jf_B) (n : Nat) (hr : jf_rlo (jm_t g v N) n = jf_rlo N n) : ∃ x, jf_dealF (jm_t g v N) n = (jm_t (upd g n x) v (jf_dealF N n).1, (jf_dealF N n).2) ∧ (jf_dealF N n).1 3 n = x := by
  refine ⟨jf_rem (jf_rlo N n + jf_rem (N 2 n) (jf_slots N n)) (jf_slots N n), ?_, ?_⟩
  · unfold jf_dealF
    rw [jm_dfT_t g v N n hr, hr, jm_slots_t, jm_t_r g v N (show 2 ≠ 3 by decide) (by decide)]
    generalize jf_dfT N n 8 = Y
    unfold jm_tp
    dsimp only
    rw [jm_t_r g v _ (show 7 ≠ 3 by decide) (by decide), jm_t_w g v _ _ _ (by decide) (by decide), jm_t_w3]
  · unfold jf_dealF
    dsimp only
    rw [jf_w_s]
end
theorem jm_dfT_r (N : jf_B) (n : Nat) {r : Nat} (h7 : r ≠ 7) (i : Nat) : (jf_dfT N n i).1 r = N r := by
  unfold jf_dfT
  refine jm_itp (fun o T => ?_) (N, nI 0, nI 0) i
  unfold jf_dfS
  split
  · exact jf_w_r _ _ _ h7
  · rfl
theorem jm_dealF_r (N : jf_B) (n : Nat) {r : Nat} (h7 : r ≠ 7) (h3 : r ≠ 3) : (jf_dealF N n).1 r = N r := by
  unfold jf_dealF
  dsimp only
  rw [jf_w_r _ _ _ h3, jf_w_r _ _ _ h7, jm_dfT_r N n h7]
theorem jm_dealF_3 (N : jf_B) (n : Nat) {i : Nat} (h : i ≠ n) : (jf_dealF N n).1 3 i = N 3 i := by
  unfold jf_dealF
  dsimp only
  rw [jf_w_n _ _ (by omega), jf_w_r _ _ _ (by decide), jm_dfT_r N n (by decide)]
theorem jm_deS_t (v : Int32) (N : jf_B) : ∀ n, ∀ g, n ≤ 8 → (∀ i, i < 8 → jf_rlo (jm_t g v N) i = jf_rlo N i) → ∃ g', jf_it jf_deS (jm_t g v N, nI 0) n = jm_tp g' v (jf_it jf_deS (N, nI 0) n) ∧ ∀ i, i < 8 → jf_rlo (jm_t g' v (jf_it jf_deS (N, nI 0) n).1) i = jf_rlo (jf_it jf_deS (N, nI 0) n).1 i
  | 0, g, _, h => ⟨g, rfl, h⟩
  | n + 1, g, hn, h => by
    obtain ⟨g1, e1, h1⟩ := jm_deS_t v N n g (by omega) h
    have e2 : jf_it jf_deS (jm_t g v N, nI 0) (n + 1) = jf_deS n (jf_it jf_deS (jm_t g v N, nI 0) n) := rfl
    have e3 : jf_it jf_deS (N, nI 0) (n + 1) = jf_deS n (jf_it jf_deS (N, nI 0) n) := rfl
    rw [e2, e1, e3]
    generalize jf_it jf_deS (N, nI 0) n = S at *
    unfold jf_deS
    have e4 : (jm_tp g1 v S).1 2 n = S.1 2 n := by unfold jm_tp; dsimp only; rw [jm_t_r g1 v S.1 (by decide) (by decide)]
    rw [e4]
    by_cases q : S.1 2 n ≤ 0
    · rw [if_pos q, if_pos q]
      exact ⟨g1, rfl, h1⟩
    · rw [if_neg q, if_neg q]
      obtain ⟨x, ex, ey⟩ := jm_dealF_t g1 v S.1 n (h1 n (by omega))
      refine ⟨upd g1 n x, ?_, fun i hi => ?_⟩
      · unfold jm_tp
        dsimp only
        rw [ex]
      · dsimp only
        have hi1 := h1 i hi
        unfold jf_rlo at hi1 ⊢
        rw [jm_slots_t] at hi1 ⊢
        rw [jm_t_3] at hi1 ⊢
        by_cases z : i = n
        · rw [z, ey]
          simp [upd]
        · have : jf_slots (jf_dealF S.1 n).1 i = jf_slots S.1 i := by
            unfold jf_slots
            rw [jm_dealF_r S.1 n (by decide) (by decide)]
          rw [this, jm_dealF_3 S.1 n z, ← hi1]
          simp [upd, z]
theorem jm_deal_t (g : Nat → Int32) (v : Int32) (N : jf_B) (h : ∀ i, i < 8 → jf_rlo (jm_t g v N) i = jf_rlo N i) : ∃ g', jf_deal (jm_t g v N) = jm_tp g' v (jf_deal N) ∧ ∀ i, i < 8 → jf_rlo (jm_t g' v (jf_deal N).1) i = jf_rlo (jf_deal N).1 i := by
  obtain ⟨g', e, h'⟩ := jm_deS_t v N 8 g (Nat.le_refl 8) h
  refine ⟨g', ?_, fun i hi => ?_⟩
  · unfold jf_deal
    rw [e]
    generalize jf_it jf_deS (N, nI 0) 8 = S
    unfold jm_tp
    dsimp only
    rw [jm_settle_t]
  · unfold jf_deal
    dsimp only
    have hi1 := h' i hi
    generalize jf_it jf_deS (N, nI 0) 8 = S at *
    unfold jf_rlo at hi1 ⊢
    rw [jm_slots_t, jm_t_3] at hi1 ⊢
    unfold jf_slots at hi1 ⊢
    rw [jm_settle_r _ (by decide) (by decide), jm_settle_r _ (by decide) (by decide)]
    exact hi1
