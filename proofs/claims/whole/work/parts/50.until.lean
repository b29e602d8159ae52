/-! ===== frames, images, until ===== -/
theorem jm_itr {f : Nat → jf_B → jf_B} {r : Nat} (h : ∀ i M, f i M r = M r) (M : jf_B) : ∀ n, jf_it f M n r = M r
  | 0 => rfl
  | n + 1 => (h n _).trans (jm_itr h M n)
theorem jm_itp {σ : Type} {f : Nat → jf_B × σ → jf_B × σ} {r : Nat} (h : ∀ i S, (f i S).1 r = S.1 r) (S : jf_B × σ) : ∀ n, (jf_it f S n).1 r = S.1 r
  | 0 => rfl
  | n + 1 => (h n _).trans (jm_itp h S n)
theorem jm_ln_r (M : jf_B) {r : Nat} (h : r ≠ 5) : jk_ln M r = M r := by
  unfold jk_ln
  exact jm_itr (fun i X => by unfold jk_ln1; exact jf_w_r _ _ _ h) M 8
theorem jm_tn_r (M : jf_B) {r : Nat} (h : r ≠ 1) : jk_tn M r = M r := by
  unfold jk_tn
  exact jm_itr (fun i X => by unfold jk_tn1; exact jf_w_r _ _ _ h) M 8
theorem jm_flA_r (me : Int32) (i : Nat) (M : jf_B) {r : Nat} (h1 : r ≠ 1) (h5 : r ≠ 5) : jk_flA me i M r = M r := by
  unfold jk_flA
  rw [jf_w_r _ _ _ h5, jf_w_r _ _ _ h5, jf_w_r _ _ _ h1]
theorem jm_flow_r (M : jf_B) {r : Nat} (h1 : r ≠ 1) (h5 : r ≠ 5) : (jk_flow M).1 r = M r := by
  unfold jk_flow jk_flT
  dsimp only
  rw [jm_tn_r _ h1, jm_itp (fun i S => ?_) _ 64]
  · exact jm_ln_r M h5
  · unfold jk_flS
    split
    · rfl
    · exact jm_flA_r _ _ _ h1 h5
theorem jm_exch_r (M : jf_B) {r : Nat} (h1 : r ≠ 1) : (jk_exch M).1 r = M r := by
  unfold jk_exch jk_exT
  rw [jm_itp (fun i S => ?_) _ 64]
  unfold jk_exS
  split
  · unfold jk_evM
    dsimp only
    rw [jf_w_r _ _ _ h1, jf_w_r _ _ _ h1]
  · rfl
theorem jm_deal_r (M : jf_B) (n : Nat) {r : Nat} (h1 : r ≠ 1) (h5 : r ≠ 5) : (jk_deal M n).1 r = M r := by
  unfold jk_deal jk_dT
  dsimp only
  rw [jf_w_r _ _ _ h1, jm_itp (fun i S => ?_) _ 9]
  unfold jk_dS
  split
  · exact jf_w_r _ _ _ h5
  · split
    · exact jf_w_r _ _ _ h5
    · rfl
theorem jm_rotor_r (M : jf_B) {r : Nat} (h1 : r ≠ 1) (h5 : r ≠ 5) : (jk_rotor M).1 r = M r := by
  unfold jk_rotor jk_r1T jk_r0T
  dsimp only
  rw [jm_tn_r _ h1, jm_itp (fun i S => ?_) _ 8]
  · exact jm_itr (f := jk_r0) (r := r) (fun i X => by unfold jk_r0; exact jf_w_r _ _ _ h5) M 8
  · unfold jk_r1
    split
    · rfl
    · exact jm_deal_r _ _ h1 h5
theorem jm_round_r (ru : Int32) (M : jf_B) {r : Nat} (h1 : r ≠ 1) (h5 : r ≠ 5) : (jk_round ru M).1 r = M r := by
  unfold jk_round jk_one
  dsimp only
  rw [jf_w_r _ _ _ h1]
  split
  · exact jm_flow_r M h1 h5
  · split
    · exact jm_exch_r M h1
    · exact jm_rotor_r M h1 h5
theorem jm_go_r (ru : Int32) (M : jf_B) {r : Nat} (h1 : r ≠ 1) (h5 : r ≠ 5) (k : Nat) : (jk_go ru M k).1 r = M r := by
  unfold jk_go
  exact jm_itp (f := jk_goS ru) (r := r) (fun i S => by unfold jk_goS; exact jm_round_r ru S.1 h1 h5) (M, nI 0) k
theorem jm_unev_r (M : jf_B) {r : Nat} (h : r ≠ 0) : jk_unev M r = M r := by
  unfold jk_unev
  rw [jf_w_r _ _ _ h, jf_w_r _ _ _ h]
theorem jm_unev_4 (M : jf_B) : jk_unev M 0 4 = M 0 4 := by
  unfold jk_unev
  rw [jf_w_n _ _ (by omega), jf_w_n _ _ (by omega)]
theorem jm_svT (t : Nat) (M : jf_B) : ∀ i, i ≤ 153 → (∀ r, r ≠ 2 → jk_svT t M i r = M r) ∧ ∀ q, jk_svT t M i 2 q = if 153 * t ≤ q ∧ q < 153 * t + i then M 1 (q - 153 * t) else M 2 q
  | 0, _ => ⟨fun _ _ => rfl, fun q => by rw [if_neg (by omega)]; rfl⟩
  | i + 1, h => by
    obtain ⟨h1, h2⟩ := jm_svT t M i (by omega)
    have e : jk_svT t M (i + 1) = jk_sv1 t i (jk_svT t M i) := rfl
    rw [e]
    generalize jk_svT t M i = Y at *
    unfold jk_sv1
    refine ⟨fun r hr => by rw [jf_w_r _ _ _ hr]; exact h1 r hr, fun q => ?_⟩
    rw [jf_w_if, h1 1 (by decide), h2 q]
    by_cases z : q = 153 * t + i
    · rw [if_pos ⟨rfl, z⟩, if_pos (by omega), z]
      congr 1
      omega
    · rw [if_neg (by omega)]
      exact jm_if (by omega)
theorem jm_ldT (t : Nat) (M : jf_B) : ∀ i, i ≤ 153 → (∀ r, r ≠ 1 → jk_ldT t M i r = M r) ∧ ∀ q, jk_ldT t M i 1 q = if q < i then M 2 (153 * t + q) else M 1 q
  | 0, _ => ⟨fun _ _ => rfl, fun q => by rw [if_neg (by omega)]; rfl⟩
  | i + 1, h => by
    obtain ⟨h1, h2⟩ := jm_ldT t M i (by omega)
    have e : jk_ldT t M (i + 1) = jk_ld1 t i (jk_ldT t M i) := rfl
    rw [e]
    generalize jk_ldT t M i = Y at *
    unfold jk_ld1
    refine ⟨fun r hr => by rw [jf_w_r _ _ _ hr]; exact h1 r hr, fun q => ?_⟩
    rw [jf_w_if, h1 2 (by decide), h2 q]
    by_cases z : q = i
    · rw [if_pos ⟨rfl, z⟩, if_pos (by omega), z]
    · rw [if_neg (by omega)]
      exact jm_if (by omega)
theorem jm_save_r (t : Nat) (M : jf_B) {r : Nat} (h : r ≠ 2) : jk_save t M r = M r := (jm_svT t M 153 (Nat.le_refl _)).1 r h
theorem jm_save_2 (t : Nat) (M : jf_B) (q : Nat) : jk_save t M 2 q = if 153 * t ≤ q ∧ q < 153 * t + 153 then M 1 (q - 153 * t) else M 2 q := (jm_svT t M 153 (Nat.le_refl _)).2 q
theorem jm_load_r (t : Nat) (M : jf_B) {r : Nat} (h : r ≠ 1) : jk_load t M r = M r := (jm_ldT t M 153 (Nat.le_refl _)).1 r h
theorem jm_load_1 (t : Nat) (M : jf_B) (q : Nat) : jk_load t M 1 q = if q < 153 then M 2 (153 * t + q) else M 1 q := (jm_ldT t M 153 (Nat.le_refl _)).2 q
theorem jm_R_c {N M M' : jf_B} (h : ∀ j, j < 153 → M' 1 j = M 1 j) (hR : jm_R N M) : jm_R N M' :=
  ⟨jm_S_of hR.1 rfl rfl rfl rfl (fun j hj => h j (by omega)), jm_D_c (fun _ _ _ => rfl) (fun j hj => h j (by omega)) hR.2⟩
theorem jm_bec_r (A N : jf_B) {r j : Nat} (h : (r = 1 ∨ r = 2 ∨ r = 3 ∨ r = 4) ∧ j < 8 ∨ (r = 5 ∨ r = 6) ∧ j < 64 ∨ r = 0 ∧ (j = 7 ∨ j = 8)) : jf_become A N r j = A r j := by
  rcases h with ⟨h | h | h | h, hj⟩ | ⟨h | h, hj⟩ | ⟨h, hj | hj⟩ <;> subst h <;> first | subst hj | skip
  all_goals simp [jf_become, jf_w_if, va_up, va_cpy, *]
theorem jm_bec_7 (A N : jf_B) : jf_become A N 7 = N 7 := by
  unfold jf_become
  simp [jf_w_r, va_up]
theorem jm_bec {A N M : jf_B} (hR : jm_R A M) (h7 : ∀ i, i < 8 → N 7 i = 0) : jm_R (jf_become A N) M := by
  obtain ⟨⟨a1, a2, a3, a4⟩, b1, b2, b3, b4, b5⟩ := hR
  refine ⟨⟨fun i hi => ?_, fun j hj => ?_, fun i hi => ?_, ?_⟩, fun i hi => ?_, fun i hi => ?_, fun j hj => ?_, ?_, fun i hi => ?_⟩
  · rw [jm_bec_r A N (by omega)]; exact a1 i hi
  · rw [jm_bec_r A N (by omega)]; exact a2 j hj
  · rw [jm_bec_r A N (by omega)]; exact a3 i hi
  · rw [jm_bec_r A N (by omega)]; exact a4
  · rw [jm_bec_r A N (by omega)]; exact b1 i hi
  · rw [jm_bec_r A N (by omega)]; exact b2 i hi
  · rw [jm_bec_r A N (by omega)]; exact b3 j hj
  · rw [jm_bec_r A N (by omega)]; exact b4
  · rw [jm_bec_7]; exact h7 i hi
theorem jm_wk1 {c : Nat} (hc : c ≤ 40000) (ru : Int32) {N M : jf_B} (hR : jm_R N M) (hI : jm_I c M) : jm_R (jf_go ru N 1).1 (jk_round ru M).1 ∧ jm_I (c + 1) (jk_round ru M).1 ∧ jm_Z M (jk_round ru M).1 := (jm_round hc ru hR hI 0 (nI 0)).2
/-- what a call that looks ahead leaves of the model -/
def jm_K (M M' : jf_B) : Prop := (∀ j, j < 306 → M' 2 j = M 2 j) ∧ M' 3 = M 3 ∧ M' 4 = M 4 ∧ M' 0 4 = M 0 4
theorem jm_uW {c : Nat} (ru : Int32) {W M : jf_B} (hR : jm_R W M) (hI : jm_I c M) : ∀ i, c + i ≤ 40000 → jm_R (jf_wk ru W i) (jk_uW ru M i) ∧ jm_I (c + i) (jk_uW ru M i) ∧ jm_K M (jk_uW ru M i) ∧ ∀ q, q < 153 → jk_uW ru M i 2 (306 + q) = M 1 q
  | 0, _ => by
    have e : jk_uW ru M 0 = jk_save 2 M := rfl
    have h1 : ∀ j, j < 153 → jk_save 2 M 1 j = M 1 j := fun j _ => by rw [jm_save_r _ _ (by decide)]
    rw [e]
    refine ⟨jm_R_c h1 hR, jm_I_c h1 hI, ⟨fun j hj => ?_, jm_save_r _ _ (by decide), jm_save_r _ _ (by decide), by rw [jm_save_r _ _ (by decide)]⟩, fun q hq => ?_⟩
    · rw [jm_save_2, if_neg (by omega)]
    · rw [jm_save_2, if_pos (by omega), show 306 + q - 153 * 2 = q by omega]
  | i + 1, h => by
    obtain ⟨h1, h2, ⟨h3, h4, h5, h6⟩, h7⟩ := jm_uW ru hR hI i (by omega)
    have e : jk_uW ru M (i + 1) = (jk_round ru (jk_unev (jk_uW ru M i))).1 := rfl
    rw [e, jf_wk_s]
    generalize jk_uW ru M i = X at *
    have z : ∀ j, j < 153 → jk_unev X 1 j = X 1 j := fun j _ => by rw [jm_unev_r _ (by decide)]
    obtain ⟨d1, d2, d3⟩ := jm_wk1 (by omega) ru (jm_R_c z h1) (jm_I_c z h2)
    refine ⟨d1, d2, ⟨fun j hj => ?_, ?_, ?_, ?_⟩, fun q hq => ?_⟩
    · rw [jm_round_r _ _ (by decide) (by decide), jm_unev_r _ (by decide)]; exact h3 j hj
    · rw [jm_round_r _ _ (by decide) (by decide), jm_unev_r _ (by decide)]; exact h4
    · rw [jm_round_r _ _ (by decide) (by decide), jm_unev_r _ (by decide)]; exact h5
    · rw [jm_round_r _ _ (by decide) (by decide), jm_unev_4]; exact h6
    · rw [jm_round_r _ _ (by decide) (by decide), jm_unev_r _ (by decide)]; exact h7 q hq
theorem jm_isEv_u (M : jf_B) (d : Int32) : jk_isEv (jk_unev M) d = jk_isEv M d := by
  have e1 := jm_unev_r M (r := 1) (by decide)
  have eh : ∀ i, jk_hi (jk_unev M) i = jk_hi M i := fun i => by
    induction i with
    | zero => rfl
    | succ i ih => unfold jk_hi; rw [ih, e1]
  have el : ∀ i, jk_lo (jk_unev M) i = jk_lo M i := fun i => by
    induction i with
    | zero => rfl
    | succ i ih => unfold jk_lo; rw [ih, e1]
  have eu : jk_up (jk_unev M) = jk_up M := by unfold jk_up; rw [eh, el, e1]
  have ed : jk_dn (jk_unev M) = jk_dn M := by unfold jk_dn; rw [eh, el, e1]
  unfold jk_isEv
  rw [eu, ed]
/-- what looking ahead gives back -/
def jm_O (M : jf_B) (M' : jf_B) : Prop := jm_K M M' ∧ ∀ q, q < 153 → M' 1 q = M 1 q
theorem jm_uF {M X : jf_B} (hK : jm_K M X) (h7 : ∀ q, q < 153 → X 2 (306 + q) = M 1 q) : jm_O M (jk_load 2 (jk_unev X)) := by
  obtain ⟨h3, h4, h5, h6⟩ := hK
  refine ⟨⟨fun j hj => ?_, ?_, ?_, ?_⟩, fun q hq => ?_⟩
  · rw [jm_load_r _ _ (by decide), jm_unev_r _ (by decide)]; exact h3 j hj
  · rw [jm_load_r _ _ (by decide), jm_unev_r _ (by decide)]; exact h4
  · rw [jm_load_r _ _ (by decide), jm_unev_r _ (by decide)]; exact h5
  · rw [jm_load_r _ _ (by decide), jm_unev_4]; exact h6
  · rw [jm_load_1, if_pos hq, jm_unev_r _ (by decide)]; exact h7 q hq
theorem jm_unev_K {M X : jf_B} (hK : jm_K M X) : jm_K M (jk_unev X) := by
  obtain ⟨h3, h4, h5, h6⟩ := hK
  refine ⟨fun j hj => ?_, ?_, ?_, ?_⟩
  · rw [jm_unev_r _ (by decide)]; exact h3 j hj
  · rw [jm_unev_r _ (by decide)]; exact h4
  · rw [jm_unev_r _ (by decide)]; exact h5
  · rw [jm_unev_4]; exact h6
theorem jm_unt {c : Nat} (ru : Int32) {W M : jf_B} (hR : jm_R W M) (hI : jm_I c M) (hc : c ≤ 39000) {d : Int32} (hd : 0 ≤ d.toInt ∧ d.toInt ≤ 99) : ∀ k i, k + i = 200 → (jf_unt ru d W (k + 1) i).1 = (jk_unt ru d M k i).1 ∧ jm_O M (jk_unt ru d M k i).2 ∧ ∀ n, n < 8 → (jf_unt ru d W (k + 1) i).2 7 n = 0
  | 0, i, h => by
    obtain ⟨h1, h2, h3, h4⟩ := jm_uW ru hR hI i (by omega)
    have h5 := jm_even (by omega) h1 h2 hd
    have h6 := (jm_uW ru hR hI (i + 1) (by omega)).1
    have e2 : jk_unt ru d M 0 i = jk_uF d (jk_uW ru M i) i := rfl
    have e1 : jf_unt ru d W (0 + 1) i = if jf_even (jf_wk ru W i) d then (nI i, jf_wk ru W i) else (-6, jf_wk ru W (i + 1)) := rfl
    rw [e1, e2, h5]
    unfold jk_uF
    dsimp only
    refine ⟨?_, jm_uF h3 h4, fun n hn => ?_⟩
    · split <;> rfl
    · split
      · exact h1.2.2.2.2.2 n hn
      · exact h6.2.2.2.2.2 n hn
  | k + 1, i, h => by
    obtain ⟨h1, h2, h3, h4⟩ := jm_uW ru hR hI i (by omega)
    have h5 := jm_even (by omega) h1 h2 hd
    have e2 : jk_unt ru d M (k + 1) i = if jk_isEv (jk_uW ru M i) d then jk_uF d (jk_unev (jk_uW ru M i)) i else jk_unt ru d M k (i + 1) := rfl
    have e1 : jf_unt ru d W (k + 1 + 1) i = if jf_even (jf_wk ru W i) d then (nI i, jf_wk ru W i) else jf_unt ru d W (k + 1) (i + 1) := rfl
    rw [e1, e2, h5]
    by_cases q : jk_isEv (jk_uW ru M i) d = true
    · rw [if_pos q, if_pos q]
      unfold jk_uF
      dsimp only
      rw [jm_isEv_u, if_pos q]
      exact ⟨rfl, jm_uF (jm_unev_K h3) (fun z hz => by rw [jm_unev_r _ (by decide)]; exact h4 z hz), fun n hn => h1.2.2.2.2.2 n hn⟩
    · rw [if_neg q, if_neg q]
      exact jm_unt ru hR hI hc hd k (i + 1) (by omega)
