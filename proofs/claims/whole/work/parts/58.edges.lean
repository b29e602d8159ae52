/-! ===== edges laid and lifted ===== -/
def jm_pl (M : jf_B) (s : Nat) (v : Int32) : jf_B := jf_w (jf_w M 1 (24 + s) v) 1 (88 + s) (nI 0)
theorem jm_pl_1 (M : jf_B) {s : Nat} (hs : s < 64) (v : Int32) (j : Nat) : jm_pl M s v 1 j = if j = 88 + s then 0 else if j = 24 + s then v else M 1 j := by
  unfold jm_pl
  rw [jf_w_if, jf_w_if]
  by_cases z : j = 88 + s
  · rw [if_pos ⟨rfl, z⟩, if_pos z]; rfl
  · rw [if_neg (by omega), if_neg z]
    exact jm_if (by omega)
theorem jm_pl_r (M : jf_B) (s : Nat) (v : Int32) {r : Nat} (h : r ≠ 1) : jm_pl M s v r = M r := by
  unfold jm_pl
  rw [jf_w_r _ _ _ h, jf_w_r _ _ _ h]
theorem jm_pl_c (M : jf_B) {s : Nat} (hs : s < 64) (v : Int32) {j : Nat} (hj : j < 64) : jm_pl M s v 1 (24 + j) = if j = s then v else M 1 (24 + j) := by
  rw [jm_pl_1 M hs, if_neg (by omega)]
  exact jm_if (by omega)
theorem jm_wt_pl (M : jf_B) {s : Nat} (hs : s < 64) (v : Int32) {j : Nat} (hj : j < 64) : jm_wt (jm_pl M s v) j = if j = s then (if v < 0 then 0 else 1) else jm_wt M j := by
  unfold jm_wt
  rw [jm_pl_c M hs v hj]
  split <;> rfl
theorem jm_cnt_s (M : jf_B) (i : Nat) : jk_cnt M (i + 1) = jk_cnt M i + jm_wt M i := by
  show (if M 1 (24 + i) < 0 then jk_cnt M i + 0 else jk_cnt M i + 1) = _
  unfold jm_wt
  split <;> rfl
theorem jm_cnt_pl (M : jf_B) {s : Nat} (hs : s < 64) (v : Int32) : ∀ n, n ≤ 64 → jk_cnt (jm_pl M s v) n + (if s < n then jm_wt M s else 0) = jk_cnt M n + if s < n then (if v < 0 then 0 else 1) else 0 := by
  intro n
  induction n with
  | zero => intro _; rw [if_neg (by omega), if_neg (by omega)]; rfl
  | succ n ih0 =>
    intro h
    have ih := ih0 (by omega)
    rw [jm_cnt_s, jm_cnt_s, jm_wt_pl M hs v (show n < 64 by omega)]
    by_cases z : n = s
    · rw [if_pos z]
      rw [if_neg (by omega), if_neg (by omega)] at ih
      rw [if_pos (show s < n + 1 by omega), if_pos (show s < n + 1 by omega), z]
      rw [z] at ih
      omega
    · rw [if_neg z]
      by_cases y : s < n
      · rw [if_pos y, if_pos y] at ih
        rw [if_pos (show s < n + 1 by omega), if_pos (show s < n + 1 by omega)]
        omega
      · rw [if_neg y, if_neg y] at ih
        rw [if_neg (show ¬ s < n + 1 by omega), if_neg (show ¬ s < n + 1 by omega)]
        omega
theorem jm_spot_eq {a c i n : Nat} (ha : a < 8) (hc : c < 8) (hi : i < 8) (hn : n < 8) (hac : a ≠ c) (hin : i ≠ n) : jf_spot i n = jf_spot a c ↔ (i = a ∧ n = c) ∨ (i = c ∧ n = a) := by
  unfold jf_spot
  by_cases q1 : i < n
  · rw [if_pos q1]
    by_cases q2 : a < c
    · rw [if_pos q2]; omega
    · rw [if_neg q2]; omega
  · rw [if_neg q1]
    by_cases q2 : a < c
    · rw [if_pos q2]; omega
    · rw [if_neg q2]; omega
theorem jm_deg_pl (M : jf_B) {a c : Nat} (ha : a < 8) (hc : c < 8) (hac : a ≠ c) (v : Int32) {i : Nat} (hi : i < 8) : ∀ n, n ≤ 8 → jk_deg (jm_pl M (jf_spot a c) v) i n + (if (i = a ∧ c < n) ∨ (i = c ∧ a < n) then jm_wt M (jf_spot a c) else 0) = jk_deg M i n + if (i = a ∧ c < n) ∨ (i = c ∧ a < n) then (if v < 0 then 0 else 1) else 0
  | 0, _ => by
    rw [if_neg (by omega), if_neg (by omega)]
    rfl
  | n + 1, h => by
    have ih := jm_deg_pl M ha hc hac v hi n (by omega)
    rw [jm_deg_s, jm_deg_s]
    have hs := jf_spot_lt ha hc
    by_cases x1 : i = n
    · rw [if_pos x1, if_pos x1]
      have e : ((i = a ∧ c < n + 1) ∨ (i = c ∧ a < n + 1)) ↔ ((i = a ∧ c < n) ∨ (i = c ∧ a < n)) := by omega
      rw [jm_if e, jm_if e]
      omega
    · rw [if_neg x1, if_neg x1, jm_wt_pl M hs v (jf_spot_lt hi (show n < 8 by omega))]
      have se := jm_spot_eq ha hc hi (show n < 8 by omega) hac x1
      by_cases z : jf_spot i n = jf_spot a c
      · have z2 := se.mp z
        rw [if_pos z, z]
        rw [if_neg (by omega), if_neg (by omega)] at ih
        rw [if_pos (show (i = a ∧ c < n + 1) ∨ (i = c ∧ a < n + 1) by omega), if_pos (show (i = a ∧ c < n + 1) ∨ (i = c ∧ a < n + 1) by omega)]
        omega
      · have z2 := mt se.mpr z
        rw [if_neg z]
        have e : ((i = a ∧ c < n + 1) ∨ (i = c ∧ a < n + 1)) ↔ ((i = a ∧ c < n) ∨ (i = c ∧ a < n)) := by omega
        rw [jm_if e, jm_if e]
        omega
theorem jm_deg_pl8 (M : jf_B) {a c : Nat} (ha : a < 8) (hc : c < 8) (hac : a ≠ c) (v : Int32) {i : Nat} (hi : i < 8) : jk_deg (jm_pl M (jf_spot a c) v) i 8 + (if i = a ∨ i = c then jm_wt M (jf_spot a c) else 0) = jk_deg M i 8 + if i = a ∨ i = c then (if v < 0 then 0 else 1) else 0 := by
  have h := jm_deg_pl M ha hc hac v hi 8 (Nat.le_refl 8)
  have e : ((i = a ∧ c < 8) ∨ (i = c ∧ a < 8)) ↔ (i = a ∨ i = c) := by omega
  rw [jm_if e, jm_if e] at h
  exact h
/-- a colour, or none -/
def jm_cv (v : Int32) : Prop := v = -6 ∨ (0 ≤ v.toInt ∧ v.toInt ≤ 3)
theorem jm_spot_lt2 {a c : Nat} (ha : a < 8) (hc : c < 8) (hac : a ≠ c) : jf_spot a c / 8 < jf_spot a c % 8 := by
  unfold jf_spot
  split <;> omega
theorem jm_pl_I {c0 : Nat} {M : jf_B} (hI : jm_I c0 M) {s : Nat} (hs : s < 64) (h2 : s / 8 < s % 8) {v : Int32} (hv : jm_cv v) (hE : jk_cnt (jm_pl M s v) 64 ≤ 12) : jm_I c0 (jm_pl M s v) := by
  obtain ⟨a1, a2, a3, a4, a5, ⟨r, a6, a7⟩, a8, a9⟩ := hI
  have ho : ∀ j, j < 24 ∨ j = 152 → jm_pl M s v 1 j = M 1 j := fun j hj => by rw [jm_pl_1 M hs, if_neg (by omega), if_neg (by omega)]
  have hx : ∀ k, k < 8 → jm_x (jm_pl M s v) k = jm_x M k := fun k hk => by unfold jm_x; rw [ho _ (by omega)]
  refine ⟨fun j hj => ?_, fun i hi => ?_, fun j hj => ?_, fun i hi => ?_, hE, ⟨r, a6, by rw [ho 152 (by omega)]; exact a7⟩, by rw [jm_ps_c hx]; exact a8, by rw [jm_ng_c hx]; exact a9⟩
  · rw [jm_pl_c M hs v hj]
    by_cases z : j = s
    · rw [if_pos z]
      rcases hv with e | ⟨e1, e2⟩
      · exact Or.inl e
      · exact Or.inr ⟨e1, e2, by rw [z]; exact h2⟩
    · rw [if_neg z]; exact a1 j hj
  · rw [ho i (by omega)]; exact a2 i hi
  · rw [jm_pl_c M hs v hj, jm_pl_1 M hs]
    by_cases z : j = s
    · rw [if_pos (by omega), if_pos z]
      exact ⟨⟨by decide, by decide⟩, fun _ => rfl⟩
    · rw [if_neg (by omega), if_neg (by omega), if_neg z]
      exact a3 j hj
  · rw [ho _ (by omega)]; exact a4 i hi
theorem jm_cnt_pl64 (M : jf_B) {s : Nat} (hs : s < 64) (v : Int32) : jk_cnt (jm_pl M s v) 64 + jm_wt M s = jk_cnt M 64 + (if v < 0 then 0 else 1) := by
  have h := jm_cnt_pl M hs v 64 (Nat.le_refl 64)
  rw [if_pos hs, if_pos hs] at h
  exact h
theorem jm_nI1 (d : Nat) : nI (d + 1) - nI 1 = nI d := by rw [pk_sub (by omega)]; congr 1
theorem jm_lift {N M : jf_B} {c0 : Nat} (hR : jm_R N M) (hI : jm_I c0 M) {a c : Nat} (ha : a < 8) (hc : c < 8) (hac : a ≠ c) : jm_R (jf_lift N a c) (jm_pl M (jf_spot a c) (-6)) := by
  have hs := jf_spot_lt ha hc
  unfold jf_lift
  have hj := jm_joins hR.1 hI.1 ha hc
  obtain ⟨⟨s1, s2, s3, s4⟩, d1, d2, d3, d4, d5⟩ := hR
  unfold jk_edge at hj
  rw [if_neg hac] at hj
  have hw : jm_wt M (jf_spot a c) = if M 1 (24 + jf_spot a c) < 0 then 0 else 1 := rfl
  have hcn := jm_cnt_pl64 M hs (-6)
  have hdg := fun i (hi : i < 8) => jm_deg_pl8 M ha hc hac (-6) hi
  rw [if_pos jm_neg6] at hcn
  by_cases q : M 1 (24 + jf_spot a c) < 0
  · -- no edge
    rw [if_pos q] at hj hw
    rw [hj, if_neg (by decide)]
    have e6 : M 1 (24 + jf_spot a c) = -6 := by
      rcases hI.1 _ hs with e | ⟨e, _⟩
      · exact e
      · exact absurd q (jm_nneg e)
    have e0 := (hI.2.2.1 _ hs).2 q
    refine jm_R_c (fun j hj => ?_) ⟨⟨s1, s2, s3, s4⟩, d1, d2, d3, d4, d5⟩
    rw [jm_pl_1 M hs]
    by_cases z : j = 88 + jf_spot a c
    · rw [if_pos z, z, e0]
    · rw [if_neg z]
      by_cases y : j = 24 + jf_spot a c
      · rw [if_pos y, y, e6]
      · rw [if_neg y]
  · rw [if_neg q] at hj hw
    rw [hj, if_pos rfl]
    dsimp only
    have ho : ∀ j, j < 24 ∨ j = 152 → jm_pl M (jf_spot a c) (-6) 1 j = M 1 j := fun j hj => by rw [jm_pl_1 M hs, if_neg (by omega), if_neg (by omega)]
    refine ⟨⟨fun i hi => ?_, fun j hj => ?_, fun i hi => ?_, ?_⟩, fun i hi => ?_, fun i hi => ?_, fun j hj => ?_, ?_, fun i hi => ?_⟩
    · rw [ho i (by omega), ← s1 i hi]
      simp [jf_w_r]
    · rw [jm_pl_c M hs _ hj]
      by_cases z : j = jf_spot a c
      · rw [if_pos z, if_pos jm_neg6, z]
        simp [jf_w_if]
      · rw [if_neg z, ← s2 j hj]
        simp [jf_w_if, z]
    · have h := hdg i hi
      rw [if_pos jm_neg6] at h
      by_cases z1 : i = a
      · have z2 : i ≠ c := by omega
        rw [if_pos (Or.inl z1), if_pos (Or.inl z1), hw] at h
        have e := s3 i hi
        rw [show jk_deg M i 8 = jk_deg (jm_pl M (jf_spot a c) (-6)) i 8 + 1 by omega] at e
        rw [← jm_nI1 (jk_deg (jm_pl M (jf_spot a c) (-6)) i 8), ← e]
        simp [jf_w_if, z1, hac]
      · by_cases z2 : i = c
        · rw [if_pos (Or.inr z2), if_pos (Or.inr z2), hw] at h
          have e := s3 i hi
          rw [show jk_deg M i 8 = jk_deg (jm_pl M (jf_spot a c) (-6)) i 8 + 1 by omega] at e
          rw [← jm_nI1 (jk_deg (jm_pl M (jf_spot a c) (-6)) i 8), ← e]
          have hca : ¬ c = a := fun y => hac y.symm
          simp [jf_w_if, z2, hca]
        · rw [if_neg (by omega), if_neg (by omega)] at h
          have e := s3 i hi
          rw [show jk_deg (jm_pl M (jf_spot a c) (-6)) i 8 = jk_deg M i 8 by omega, ← e]
          simp [jf_w_if, z1, z2]
    · have e := s4
      rw [hw] at hcn
      rw [show jk_cnt M 64 = jk_cnt (jm_pl M (jf_spot a c) (-6)) 64 + 1 by omega] at e
      rw [← jm_nI1 (jk_cnt (jm_pl M (jf_spot a c) (-6)) 64), ← e]
      simp [jf_w_if]
    · rw [ho _ (by omega), ← d1 i hi]
      simp [jf_w_r]
    · rw [ho _ (by omega), ← d2 i hi]
      simp [jf_w_r]
    · rw [jm_pl_1 M hs]
      by_cases z : j = jf_spot a c
      · rw [if_pos (by omega), z]
        simp [jf_w_if]
        rfl
      · rw [if_neg (by omega), if_neg (by omega), ← d3 j hj]
        simp [jf_w_if, z]
    · rw [ho _ (by omega), ← d4]
      simp [jf_w_if]
    · rw [← d5 i hi]
      simp [jf_w_r]
theorem jm_lay {N M : jf_B} {c0 : Nat} (hR : jm_R N M) (hI : jm_I c0 M) {a c : Nat} (ha : a < 8) (hc : c < 8) (hac : a ≠ c) {k : Int32} (hk : 0 ≤ k.toInt ∧ k.toInt ≤ 3) : jm_R (jf_lay N a c k) (jm_pl M (jf_spot a c) k) := by
  have hs := jf_spot_lt ha hc
  have h1 := jm_lift hR hI ha hc hac
  have kn : ¬ k < 0 := jm_nneg hk.1
  unfold jf_lay
  dsimp only
  generalize jf_lift N a c = N1 at *
  obtain ⟨⟨s1, s2, s3, s4⟩, d1, d2, d3, d4, d5⟩ := h1
  have ho : ∀ v j, j < 24 ∨ 88 ≤ j → jm_pl M (jf_spot a c) v 1 j = jm_pl M (jf_spot a c) (-6) 1 j := fun v j hj => by
    rw [jm_pl_1 M hs, jm_pl_1 M hs, if_neg (show ¬ j = 24 + jf_spot a c by omega), if_neg (show ¬ j = 24 + jf_spot a c by omega)]
  have c1 := jm_cnt_pl64 M hs (-6)
  have c2 := jm_cnt_pl64 M hs k
  rw [if_pos jm_neg6] at c1
  rw [if_neg kn] at c2
  refine ⟨⟨fun i hi => ?_, fun j hj => ?_, fun i hi => ?_, ?_⟩, fun i hi => ?_, fun i hi => ?_, fun j hj => ?_, ?_, fun i hi => ?_⟩
  · rw [ho k i (by omega), ← s1 i hi]
    simp [jf_w_r]
  · rw [jm_pl_c M hs _ hj]
    by_cases z : j = jf_spot a c
    · rw [if_pos z, if_neg kn, z]
      simp [jf_w_if]
    · have e := s2 j hj
      rw [jm_pl_c M hs _ hj, if_neg z] at e
      rw [if_neg z, ← e]
      simp [jf_w_if, z]
  · have g1 := jm_deg_pl8 M ha hc hac (-6) hi
    have g2 := jm_deg_pl8 M ha hc hac k hi
    rw [if_pos jm_neg6] at g1
    rw [if_neg kn] at g2
    have e := s3 i hi
    by_cases z1 : i = a
    · rw [if_pos (Or.inl z1), if_pos (Or.inl z1)] at g1 g2
      rw [show jk_deg (jm_pl M (jf_spot a c) k) i 8 = jk_deg (jm_pl M (jf_spot a c) (-6)) i 8 + 1 by omega, ← nI_add, ← e]
      have z2 : i ≠ c := by omega
      simp [jf_w_if, z1, hac]
    · by_cases z2 : i = c
      · rw [if_pos (Or.inr z2), if_pos (Or.inr z2)] at g1 g2
        rw [show jk_deg (jm_pl M (jf_spot a c) k) i 8 = jk_deg (jm_pl M (jf_spot a c) (-6)) i 8 + 1 by omega, ← nI_add, ← e]
        have hca : ¬ c = a := fun y => hac y.symm
        simp [jf_w_if, z2, hca]
      · rw [if_neg (by omega), if_neg (by omega)] at g1 g2
        rw [show jk_deg (jm_pl M (jf_spot a c) k) i 8 = jk_deg (jm_pl M (jf_spot a c) (-6)) i 8 by omega, ← e]
        simp [jf_w_if, z1, z2]
  · rw [show jk_cnt (jm_pl M (jf_spot a c) k) 64 = jk_cnt (jm_pl M (jf_spot a c) (-6)) 64 + 1 by omega, ← nI_add, ← s4]
    simp [jf_w_if]
  · rw [ho k _ (by omega), ← d1 i hi]
    simp [jf_w_r]
  · rw [ho k _ (by omega), ← d2 i hi]
    simp [jf_w_r]
  · rw [ho k _ (by omega), ← d3 j hj]
    simp [jf_w_r]
  · rw [ho k _ (by omega), ← d4]
    simp [jf_w_if]
  · rw [← d5 i hi]
    simp [jf_w_r]
