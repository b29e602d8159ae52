/-! ===== each call, both sides: asking, rounds ===== -/
theorem jm_w0 (x : Int32) {m : Nat} (hm : m < 2 ^ 31) (h : jf_within x (nI 0) (nI m) = true) : ∃ i, i ≤ m ∧ x = nI i ∧ x.toNatClampNeg = i := by
  obtain ⟨i, hi, ex⟩ := jf_within_of hm h
  exact ⟨i, hi, ex, by rw [ex]; exact nI_clamp (by omega)⟩
theorem jl_jobs (E : jp_E) (l : Launch) {c : Nat} {h : jp_H} (hr : jr c h.1) (x : Int32) : jl_I E l yX2_jobs wsX2_jobs ({ frames := 2, cells := 0, slots := 0, locals := 42 } : Room) [.ref (E.2.1 0 0), .int x] yX3_jobs wsX3_jobs ({ frames := 2, cells := 0, slots := 0, locals := 42 } : Room) [.ref (E.2.1 7 0), .int x] c h := by
  have A := jc_X2_jobs E l (h := h) (x := x)
  have B := jc_X3_jobs E l (h := h) (M := h.1 7) (L := h.2 7) (x := x)
  unfold jF_jobs at A
  unfold jk_jobs at B
  by_cases q1 : jf_within x (nI 0) (nI 7) = true
  · rw [if_pos q1] at A B
    obtain ⟨i, hi, ex, ei⟩ := jm_w0 x (by decide) q1
    exact jl_bv A rfl B (jp_u_self _ 7) (by dsimp only; rw [ei, hr.1.2.1 i (by omega)]) (jr_id hr)
  · rw [if_neg q1] at A B
    exact jl_bv A rfl B (jp_u_self _ 7) rfl (jr_id hr)
theorem jl_told (E : jp_E) (l : Launch) {c : Nat} {h : jp_H} (hr : jr c h.1) (x w : Int32) : jl_I E l yX2_told wsX2_told ({ frames := 3, cells := 0, slots := 0, locals := 66 } : Room) [.ref (E.2.1 0 0), .int x, .int w] yX3_told wsX3_told ({ frames := 3, cells := 0, slots := 0, locals := 66 } : Room) [.ref (E.2.1 7 0), .int x, .int w] c h := by
  have A := jc_X2_told E l (h := h) (x := x) (w := w)
  have B := jc_X3_told E l (h := h) (M := h.1 7) (L := h.2 7) (x := x) (w := w)
  have eh : (jF_told x w h).2 = h := by
    unfold jF_told jF_toldC
    split
    · split
      · rfl
      · split
        · rfl
        · split
          · rfl
          · split
            · split <;> rfl
            · rfl
    · rfl
  rw [eh] at A
  refine jl_bv A rfl B (jp_u_self _ 7) ?_ (jr_id hr)
  unfold jF_told jk_told
  by_cases q1 : jf_within x (nI 0) (nI 7) = true
  · rw [if_pos q1, if_pos q1]
    obtain ⟨i, hi, ex, ei⟩ := jm_w0 x (by decide) q1
    rw [ei]
    by_cases q2 : jf_within w (nI 10) (nI 17) = true
    · obtain ⟨k, k1, k2, ew⟩ := jf_within_lo (lo := 10) (m := 17) (by decide) (by decide) q2
      have ek : w.toNatClampNeg = k := by rw [ew]; exact nI_clamp (by omega)
      have n0 : ∀ m, m < 10 → ¬ w = nI m := fun m hm z => by
        rw [ew, nI_eq (by omega) (by omega)] at z
        omega
      rw [if_neg (n0 0 (by decide)), if_neg (n0 1 (by decide)), if_neg (n0 2 (by decide)), if_pos q2]
      unfold jF_toldC
      rw [if_pos q2, ek, jm_joins hr.1.1 hr.2.1.1 (show i < 8 by omega) (show k - 10 < 8 by omega)]
      by_cases q3 : jk_edge (h.1 7) i (k - 10) = true
      · rw [if_pos q3, if_pos q3]
        dsimp only
        have hs := jf_spot_lt (show i < 8 by omega) (show k - 10 < 8 by omega)
        rw [hr.1.1.2.1 _ hs]
        unfold jk_edge at q3
        by_cases z1 : i = k - 10
        · rw [if_pos z1] at q3; exact absurd q3 (by decide)
        · rw [if_neg z1] at q3
          by_cases z2 : h.1 7 1 (24 + jf_spot i (k - 10)) < 0
          · rw [if_pos z2] at q3; exact absurd q3 (by decide)
          · rw [if_neg z2]
      · rw [if_neg q3, if_neg q3]
    · rw [if_neg q2]
      by_cases q3 : w = nI 0
      · rw [if_pos q3, if_pos q3]
        dsimp only
        rw [hr.1.1.1 i (by omega), Nat.zero_add]
      · rw [if_neg q3, if_neg q3]
        by_cases q4 : w = nI 1
        · rw [if_pos q4, if_pos q4]
          dsimp only
          rw [hr.1.1.2.2.1 i (by omega)]
        · rw [if_neg q4, if_neg q4]
          by_cases q5 : w = nI 2
          · rw [if_pos q5, if_pos q5]
            dsimp only
            exact jm_rlo hr.1.1 (by omega) (hr.1.2.2.1 i (by omega))
          · rw [if_neg q5, if_neg q5]
            unfold jF_toldC
            rw [if_neg q2]
  · rw [if_neg q1, if_neg q1]
theorem jl_carry (E : jp_E) (l : Launch) {c : Nat} {h : jp_H} (hr : jr c h.1) (x y : Int32) : jl_I E l yX2_carry wsX2_carry ({ frames := 2, cells := 0, slots := 0, locals := 43 } : Room) [.ref (E.2.1 0 0), .int x, .int y] yX3_carry wsX3_carry ({ frames := 2, cells := 0, slots := 0, locals := 43 } : Room) [.ref (E.2.1 7 0), .int x, .int y] c h := by
  have A := jc_X2_carry E l (h := h) (x := x) (y := y)
  have B := jc_X3_carry E l (h := h) (M := h.1 7) (L := h.2 7) (x := x) (y := y)
  have eh : (jF_carry x y h).2 = h := by
    unfold jF_carry
    split
    · split
      · split
        · rfl
        · split <;> rfl
      · rfl
    · rfl
  rw [eh] at A
  refine jl_bv A rfl B (jp_u_self _ 7) ?_ (jr_id hr)
  unfold jF_carry jk_carry
  by_cases q1 : jf_within x (nI 0) (nI 7) = true
  · rw [if_pos q1, if_pos q1]
    by_cases q2 : jf_within y (nI 0) (nI 7) = true
    · rw [if_pos q2, if_pos q2]
      by_cases q3 : x = y
      · rw [if_pos q3, if_pos q3]
      · rw [if_neg q3, if_neg q3]
        obtain ⟨i, hi, ex, ei⟩ := jm_w0 x (by decide) q1
        obtain ⟨j, hj, ey, ej⟩ := jm_w0 y (by decide) q2
        rw [ei, ej, jm_joins hr.1.1 hr.2.1.1 (show i < 8 by omega) (show j < 8 by omega)]
        by_cases q4 : jk_edge (h.1 7) i j = true
        · rw [if_pos q4, if_pos q4]
          dsimp only
          rw [hr.1.2.2.2.1 _ (jf_spot_lt (by omega) (by omega))]
        · rw [if_neg q4, if_neg q4]
    · rw [if_neg q2, if_neg q2]
  · rw [if_neg q1, if_neg q1]
theorem jl_run (E : jp_E) (l : Launch) {c : Nat} (hc : c ≤ 38000) {h : jp_H} (hr : jr c h.1) (ru k : Int32) : jl_I E l yX2_run wsX2_run ({ frames := 5, cells := 0, slots := 0, locals := 119 } : Room) [.ref (E.2.1 0 0), .int ru, .int k] yX3_run wsX3_run ({ frames := 6, cells := 0, slots := 0, locals := 140 } : Room) [.ref (E.2.1 7 0), .int ru, .int k] c h := by
  have ok := jm_ok hr.2.1.2.1
  by_cases q1 : jf_within ru (nI 0) (nI 2) = true
  · by_cases q2 : jf_within k (nI 1) (nI 50) = true
    · obtain ⟨n, n1, n2, ek⟩ := jf_within_lo (lo := 1) (m := 50) (by decide) (by decide) q2
      have en : k.toNatClampNeg = n := by rw [ek]; exact nI_clamp (by omega)
      obtain ⟨b1, b2, b3, b4⟩ := jm_go ru hr.1 hr.2.1 n (by omega)
      have e7 : (jp_u h 2 (jf_go ru (h.1 2) n).1 (h.2 2)).1 7 = h.1 7 := jp_u_n1 _ _ _ (by decide)
      refine jl_br (jf_go ru (h.1 2) n).2 (jp_u h 2 (jf_go ru (h.1 2) n).1 (h.2 2)) (jk_go ru (h.1 7) n).1 (jc_X2_run E l) (by unfold jF_run; rw [if_pos q1, if_pos q2, en]) (jc_X3_run E l (by rw [e7]; exact ok)) (by unfold jk_run; rw [if_pos q1, if_pos q2, en, e7, b1]) ?_
      exact jr_b2 hr _ _ b2 (jm_I_le (by omega) b3) (fun r h1 h5 => jm_go_r ru _ h1 h5 n)
    · exact jl_br (-2) h (h.1 7) (jc_X2_run E l) (by unfold jF_run; rw [if_pos q1, if_neg q2]) (jc_X3_run E l ok) (by unfold jk_run; rw [if_pos q1, if_neg q2]) (jr_id hr)
  · exact jl_br (-2) h (h.1 7) (jc_X2_run E l) (by unfold jF_run; rw [if_neg q1]) (jc_X3_run E l ok) (by unfold jk_run; rw [if_neg q1]) (jr_id hr)
theorem jm_zero (r n : Nat) (N : jf_B) (r' k : Nat) : jf_zero r n N r' k = if r' = r ∧ k < n then 0 else N r' k := by
  induction n with
  | zero => rw [if_neg (by omega)]; rfl
  | succ n ih =>
    have e : jf_zero r (n + 1) N = jf_w (jf_zero r n N) r n (nI 0) := rfl
    rw [e]
    generalize jf_zero r n N = Y at *
    rw [jf_w_if, ih]
    by_cases z : r' = r ∧ k = n
    · rw [if_pos z, if_pos (by omega)]; rfl
    · rw [if_neg z]
      exact jm_if (by omega)
theorem jm_zk (o : Nat) (M : jf_B) (n : Nat) : (∀ r, r ≠ 1 → jf_it (jk_z o) M n r = M r) ∧ ∀ k, jf_it (jk_z o) M n 1 k = if o ≤ k ∧ k < o + n then 0 else M 1 k := by
  induction n with
  | zero => exact ⟨fun _ _ => rfl, fun k => by rw [if_neg (by omega)]; rfl⟩
  | succ n ih =>
    obtain ⟨h1, h2⟩ := ih
    have e : jf_it (jk_z o) M (n + 1) = jk_z o n (jf_it (jk_z o) M n) := rfl
    rw [e]
    generalize jf_it (jk_z o) M n = Y at *
    unfold jk_z
    refine ⟨fun r hr => by rw [jf_w_r _ _ _ hr]; exact h1 r hr, fun k => ?_⟩
    rw [jf_w_if, h2]
    by_cases z : k = o + n
    · rw [if_pos ⟨rfl, z⟩, if_pos (show o ≤ k ∧ k < o + (n + 1) by omega)]; rfl
    · rw [if_neg (by omega)]
      exact jm_if (by omega)
theorem jm_reset_1 (M : jf_B) (k : Nat) : jk_reset M 1 k = if (16 ≤ k ∧ k < 24) ∨ (88 ≤ k ∧ k < 153) then 0 else M 1 k := by
  unfold jk_reset
  rw [(jm_zk 88 _ 64).2, (jm_zk 16 _ 8).2, jf_w_if]
  by_cases z1 : 88 ≤ k ∧ k < 88 + 64
  · rw [if_pos z1, if_pos (by omega)]
  · rw [if_neg z1]
    by_cases z2 : 16 ≤ k ∧ k < 16 + 8
    · rw [if_pos z2, if_pos (by omega)]
    · rw [if_neg z2]
      by_cases z3 : k = 152
      · rw [if_pos ⟨rfl, z3⟩, if_pos (by omega)]; rfl
      · rw [if_neg (by omega), if_neg (by omega)]
theorem jm_reset_r (M : jf_B) {r : Nat} (h : r ≠ 1) : jk_reset M r = M r := by
  unfold jk_reset
  rw [(jm_zk 88 _ 64).1 r h, (jm_zk 16 _ 8).1 r h, jf_w_r _ _ _ h]
theorem jm_again (N : jf_B) (r k : Nat) : jf_again N r k = if (r = 3 ∧ k < 8) ∨ (r = 6 ∧ k < 64) ∨ (r = 0 ∧ k = 8) then 0 else N r k := by
  unfold jf_again
  rw [jf_w_if, jm_zero, jm_zero]
  by_cases z1 : r = 0 ∧ k = 8
  · rw [if_pos z1, if_pos (by omega)]; rfl
  · rw [if_neg z1]
    by_cases z2 : r = 6 ∧ k < 64
    · rw [if_pos z2, if_pos (by omega)]
    · rw [if_neg z2]
      exact jm_if (by omega)
theorem jl_reset (E : jp_E) (l : Launch) {c : Nat} {h : jp_H} (hr : jr c h.1) : jl_I E l yX2_reset wsX2_reset ({ frames := 1, cells := 0, slots := 0, locals := 21 } : Room) [.ref (E.2.1 0 0)] yX3_reset wsX3_reset ({ frames := 0, cells := 0, slots := 0, locals := 0 } : Room) [.ref (E.2.1 7 0)] c h := by
  obtain ⟨⟨s1, s2, s3, s4⟩, d1, d2, d3, d4, d5⟩ := hr.1
  obtain ⟨a1, a2, a3, a4, a5, ⟨r, a6, a7⟩, a8, a9⟩ := hr.2.1
  have ho : ∀ k, k < 16 ∨ (24 ≤ k ∧ k < 88) → jk_reset (h.1 7) 1 k = h.1 7 1 k := fun k hk => by rw [jm_reset_1, if_neg (by omega)]
  have hz : ∀ k, (16 ≤ k ∧ k < 24) ∨ (88 ≤ k ∧ k < 153) → jk_reset (h.1 7) 1 k = 0 := fun k hk => by rw [jm_reset_1, if_pos hk]
  have hx : ∀ k, k < 8 → jm_x (jk_reset (h.1 7)) k = jm_x (h.1 7) k := fun k hk => by unfold jm_x; rw [ho _ (by omega)]
  have hN : ∀ r, r = 1 ∨ r = 2 ∨ r = 4 ∨ r = 5 ∨ r = 7 → jf_again (h.1 2) r = h.1 2 r := fun r hr => by
    funext k
    rw [jm_again, if_neg (by omega)]
  have e7 : (jp_u h 2 (jf_again (h.1 2)) (h.2 2)).1 7 = h.1 7 := jp_u_n1 _ _ _ (by decide)
  refine jl_bv (jc_X2_reset E l) rfl (jc_X3_reset E l (h := jp_u h 2 (jf_again (h.1 2)) (h.2 2)) (M := (jp_u h 2 (jf_again (h.1 2)) (h.2 2)).1 7) (L := (jp_u h 2 (jf_again (h.1 2)) (h.2 2)).2 7)) (jp_u_self _ 7) ?_ ?_
  · rw [e7]; exact d4
  · rw [e7]
    refine jr_b2 hr _ _ ⟨⟨fun i hi => ?_, fun j hj => ?_, fun i hi => ?_, ?_⟩, fun i hi => ?_, fun i hi => ?_, fun j hj => ?_, ?_, fun i hi => ?_⟩ ⟨jm_co_c (fun j hj => ho _ (by omega)) a1, fun i hi => ?_, fun j hj => ?_, fun i hi => ⟨0, by omega, ?_⟩, ?_, ⟨0, by omega, ?_⟩, ?_, ?_⟩ (fun r h1 _ => jm_reset_r _ h1)
    · rw [hN 1 (by omega), ho _ (by omega)]; exact s1 i hi
    · rw [hN 5 (by omega), ho _ (by omega)]; exact s2 j hj
    · rw [hN 4 (by omega), jk_deg_c (M := h.1 7) (fun j hj => ho _ (by omega)) hi 8 (Nat.le_refl 8)]; exact s3 i hi
    · rw [jm_again, if_neg (by omega), jk_cnt_c (M := h.1 7) (fun j hj => ho _ (by omega)) 64 (Nat.le_refl 64)]; exact s4
    · rw [hN 2 (by omega), ho _ (by omega)]; exact d1 i hi
    · rw [jm_again, if_pos (by omega), hz _ (by omega)]
    · rw [jm_again, if_pos (by omega), hz _ (by omega)]
    · rw [jm_again, if_pos (by omega), hz _ (by omega)]
    · rw [hN 7 (by omega)]; exact d5 i hi
    · rw [ho _ (by omega)]; exact a2 i hi
    · rw [hz (88 + j) (by omega)]
      exact ⟨⟨by decide, by decide⟩, fun _ => rfl⟩
    · rw [hz _ (by omega)]; rfl
    · rw [jk_cnt_c (M := h.1 7) (fun j hj => ho _ (by omega)) 64 (Nat.le_refl 64)]; exact a5
    · rw [hz _ (by omega)]; rfl
    · rw [jm_ps_c hx]; omega
    · rw [jm_ng_c hx]; omega
theorem jl_uneven (E : jp_E) (l : Launch) {c : Nat} (hc : c ≤ 38000) {h : jp_H} (hr : jr c h.1) (pa : Int32) : jl_I E l yX2_uneven wsX2_uneven ({ frames := 3, cells := 0, slots := 0, locals := 77 } : Room) [.ref (E.2.1 0 0), .int pa] yX3_uneven wsX3_uneven ({ frames := 2, cells := 0, slots := 0, locals := 55 } : Room) [.ref (E.2.1 7 0), .int pa] c h := by
  obtain ⟨u1, u2, u3, u4⟩ := jm_unev (by omega) hr.1 hr.2.1
  by_cases q : jf_within pa (nI 0) (nI 1) = true
  · refine jl_br ((jk_tR (jk_up (h.1 7)).toInt64 (jk_dn (h.1 7)).toInt64 pa).toInt32) h (jk_unev (h.1 7)) (jc_X2_uneven E l) (by unfold jF_uneven; rw [if_pos q, u1, u2, u3]) (jc_X3_uneven E l u4) (by unfold jk_uneven; rw [if_pos q]) ?_
    refine jr_same hr (fun _ _ => rfl) _ ⟨⟨fun j hj => ?_, jm_unev_r _ (by decide), jm_unev_r _ (by decide), jm_unev_4 _⟩, fun j hj => ?_⟩
    · rw [jm_unev_r _ (by decide)]
    · rw [jm_unev_r _ (by decide)]
  · exact jl_br (-2) h (h.1 7) (jc_X2_uneven E l) (by unfold jF_uneven; rw [if_neg q]) (jc_X3_uneven E l u4) (by unfold jk_uneven; rw [if_neg q]) (jr_id hr)
theorem jl_share (E : jp_E) (l : Launch) {c : Nat} (hc : c ≤ 38000) {h : jp_H} (hr : jr c h.1) (x pa : Int32) : jl_I E l yX2_share wsX2_share ({ frames := 3, cells := 0, slots := 0, locals := 77 } : Room) [.ref (E.2.1 0 0), .int x, .int pa] yX3_share wsX3_share ({ frames := 2, cells := 0, slots := 0, locals := 55 } : Room) [.ref (E.2.1 7 0), .int x, .int pa] c h := by
  obtain ⟨s1, s2⟩ := jm_share (by omega) hr.1 hr.2.1
  have A := jc_X2_share E l (h := h) (x := x) (pa := pa)
  have B := jc_X3_share E l (h := h) (M := h.1 7) (L := h.2 7) (x := x) (pa := pa) (fun i hi h0 => (s2 i hi h0).2)
  have eh : (jF_share x pa h).2 = h := by
    unfold jF_share
    split
    · split
      · split <;> rfl
      · rfl
    · rfl
  rw [eh] at A
  refine jl_bv A rfl B (jp_u_self _ 7) ?_ (jr_id hr)
  unfold jF_share jk_share
  by_cases q1 : jf_within x (nI 0) (nI 7) = true
  · rw [if_pos q1, if_pos q1]
    obtain ⟨i, hi, ex, ei⟩ := jm_w0 x (by decide) q1
    by_cases q2 : jf_within pa (nI 0) (nI 1) = true
    · rw [if_pos q2, if_pos q2, ei]
      by_cases q3 : 0 ≤ jk_sum (h.1 7) 8 8
      · rw [if_pos (s1.mpr q3), if_pos q3]
        dsimp only
        rw [(s2 i (by omega) q3).1 pa]
      · rw [if_neg (fun z => q3 (s1.mp z)), if_neg q3]
    · rw [if_neg q2, if_neg q2]
  · rw [if_neg q1, if_neg q1]
theorem jl_potential (E : jp_E) (l : Launch) {c : Nat} (hc : c ≤ 38000) {h : jp_H} (hr : jr c h.1) : jl_L E l yX2_potential wsX2_potential ({ frames := 1, cells := 0, slots := 0, locals := 23 } : Room) [.ref (E.2.1 0 0)] yX3_potential wsX3_potential ({ frames := 1, cells := 0, slots := 0, locals := 23 } : Room) [.ref (E.2.1 7 0)] c h :=
  jl_bL (jc_X2_potential E l) rfl (jc_X3_potential E l (h := h) (M := h.1 7) (L := h.2 7)) (jp_u_self _ 7) (jm_pot (by omega) hr.1 hr.2.1 8 (Nat.le_refl 8)) (jr_id hr)
theorem jl_ideal (E : jp_E) (l : Launch) {c : Nat} (hc : c ≤ 38000) {h : jp_H} (hr : jr c h.1) (x r pa : Int32) : jl_L E l yX2_ideal wsX2_ideal ({ frames := 3, cells := 0, slots := 0, locals := 77 } : Room) [.ref (E.2.1 0 0), .int x, .int r, .int pa] yX3_ideal wsX3_ideal ({ frames := 4, cells := 0, slots := 0, locals := 88 } : Room) [.ref (E.2.1 7 0), .int x, .int r, .int pa] c h := by
  have e7 : (jp_u h 0 (h.1 0) (jF_ideal x r pa (h.1 2) (h.2 0)).2).1 7 = h.1 7 := jp_u_n1 _ _ _ (by decide)
  refine jl_bL (jc_X2_ideal_h E l) rfl (jc_X3_ideal E l (h := jp_u h 0 (h.1 0) (jF_ideal x r pa (h.1 2) (h.2 0)).2) (M := (jp_u h 0 (h.1 0) (jF_ideal x r pa (h.1 2) (h.2 0)).2).1 7) (L := (jp_u h 0 (h.1 0) (jF_ideal x r pa (h.1 2) (h.2 0)).2).2 7) (fun i k hi hk ha => ?_)) (jp_u_self _ 7) ?_ ?_
  · rw [e7] at ha ⊢
    exact jm_idfr (by omega) hr.2.1 _ i k hi hk ha
  · rw [e7]
    exact jm_ideal (by omega) hr.1 hr.2.1 x r pa _ _
  · rw [e7]
    refine jr_same hr (fun b hb => ?_) _ (jm_O_refl _)
    by_cases z : b = 0
    · subst z; rw [jp_u_1]
    · rw [jp_u_n1 _ _ _ z]
theorem jl_until (E : jp_E) (l : Launch) {c : Nat} (hc : c ≤ 38000) {h : jp_H} (hr : jr c h.1) (ru d : Int32) : jl_I E l yX2_until wsX2_until ({ frames := 5, cells := 0, slots := 0, locals := 119 } : Room) [.ref (E.2.1 0 0), .int ru, .int d] yX3_until wsX3_until ({ frames := 6, cells := 0, slots := 0, locals := 140 } : Room) [.ref (E.2.1 7 0), .int ru, .int d] c h := by
  have e7 : ∀ N', (jp_u h 5 N' (h.2 5)).1 7 = h.1 7 := fun N' => jp_u_n1 _ _ _ (by decide)
  have z5 := hr.2.2.1 5 (by omega)
  have W := jm_bec hr.1 z5
  have U := fun hd => jm_unt ru W hr.2.1 (by omega) (d := d) hd 200 0 (by omega)
  have key : (jF_until ru d (h.1 2) (h.1 5)).1 = (jk_until ru d (h.1 7)).1 ∧ jm_O (h.1 7) (jk_until ru d (h.1 7)).2 ∧ ∀ n, n < 8 → (jF_until ru d (h.1 2) (h.1 5)).2 7 n = 0 := by
    unfold jF_until jk_until
    by_cases q1 : jf_within ru (nI 0) (nI 2) = true
    · rw [if_pos q1, if_pos q1]
      by_cases q2 : jf_within d (nI 0) (nI 99) = true
      · rw [if_pos q2, if_pos q2]
        have w := (jm_within (by decide) (by decide)).mp q2
        have u := U (by omega)
        rw [show 200 + 1 = 201 from rfl] at u
        exact u
      · rw [if_neg q2, if_neg q2]
        exact ⟨rfl, jm_O_refl _, z5⟩
    · rw [if_neg q1, if_neg q1]
      exact ⟨rfl, jm_O_refl _, z5⟩
  obtain ⟨k1, k2, k3⟩ := key
  have A := jc_X2_until E l (h := h) (N := h.1 5) (L := h.2 5) (ru := ru) (d := d)
  generalize jF_until ru d (h.1 2) (h.1 5) = F at *
  refine jl_bv A (jp_u_self _ 5) (jc_X3_until E l (h := jp_u h 5 F.2 (h.2 5)) (M := (jp_u h 5 F.2 (h.2 5)).1 7) (L := (jp_u h 5 F.2 (h.2 5)).2 7) (by rw [e7]; exact jm_ok hr.2.1.2.1)) (jp_u_self _ 7) ?_ ?_
  · rw [e7]; exact k1
  · rw [e7]
    obtain ⟨⟨b1, b2, b3, b4⟩, b5⟩ := k2
    obtain ⟨n, p1, p2, p3, p4⟩ := hr.2.2.2.1
    refine jr_mk (Nat.le_add_right c 50) hr _ ?_ (jm_I_le (Nat.le_add_right c 50) (jm_I_c b5 hr.2.1)) ?_ ?_ ?_ (fun b hb k hk => ?_) ⟨n, ?_, ?_, p3, fun i hi => ?_⟩ b1 b2
    · rw [jp_u_n1 _ _ _ (by decide)]; exact jm_R_c b5 hr.1
    · rw [jp_u_n1 _ _ _ (by decide)]
    · rw [jp_u_n1 _ _ _ (by decide)]
    · rw [jp_u_n1 _ _ _ (by decide)]
    · rcases hb with e | e <;> subst e
      · rw [jp_u_1]; exact k3 k hk
      · rw [jp_u_n1 _ _ _ (by decide)]; exact hr.2.2.1 6 (by omega) k hk
    · rw [jp_u_n1 _ _ _ (by decide)]; exact p1
    · rw [b4]; exact p2
    · rw [jp_u_n1 _ _ _ (by decide), b3]; exact p4 i hi
theorem jl_ring (E : jp_E) (l : Launch) {c : Nat} (hc : c ≤ 38000) {h : jp_H} (hr : jr c h.1) (ru w : Int32) : jl_I E l yX2_ring wsX2_ring ({ frames := 6, cells := 0, slots := 0, locals := 142 } : Room) [.ref (E.2.1 0 0), .int ru, .int w] yX3_ring wsX3_ring ({ frames := 6, cells := 0, slots := 0, locals := 140 } : Room) [.ref (E.2.1 7 0), .int ru, .int w] c h := by
  have e7 : ∀ N' L M' K, (jp_v h N' L M' K).1 7 = h.1 7 := fun N' L M' K => by
    unfold jp_v
    rw [jp_u_n1 _ _ _ (by decide), jp_u_n1 _ _ _ (by decide)]
  have eb : ∀ N' L M' K b, b ≠ 5 → b ≠ 6 → (jp_v h N' L M' K).1 b = h.1 b := fun N' L M' K b h5 h6 => by
    unfold jp_v
    rw [jp_u_n1 _ _ _ h5, jp_u_n1 _ _ _ h6]
  obtain ⟨k1, k2, k3, k4⟩ := jm_ring hc ru w hr.1 hr.2.1 (hr.2.2.1 5 (by omega)) (hr.2.2.1 6 (by omega))
  have A := jc_X2_ring E l (h := h) (N := h.1 5) (L := h.2 5) (M := h.1 6) (K := h.2 6) (ru := ru) (w := w)
  generalize jF_ring ru w (h.1 2) (h.1 5) (h.1 6) = F at *
  refine jl_bv A (jp_v_self h) (jc_X3_ring E l (h := jp_v h F.2.1 (h.2 5) F.2.2 (h.2 6)) (M := (jp_v h F.2.1 (h.2 5) F.2.2 (h.2 6)).1 7) (L := (jp_v h F.2.1 (h.2 5) F.2.2 (h.2 6)).2 7) (by rw [e7]; exact jm_ok hr.2.1.2.1)) (jp_u_self _ 7) ?_ ?_
  · rw [e7]; exact k1
  · rw [e7]
    obtain ⟨⟨b1, b2, b3, b4⟩, b5⟩ := k2
    obtain ⟨n, p1, p2, p3, p4⟩ := hr.2.2.2.1
    refine jr_mk (Nat.le_add_right c 50) hr _ ?_ (jm_I_le (Nat.le_add_right c 50) (jm_I_c b5 hr.2.1)) ?_ ?_ ?_ (fun b hb k hk => ?_) ⟨n, ?_, ?_, p3, fun i hi => ?_⟩ b1 b2
    · rw [eb _ _ _ _ 2 (by decide) (by decide)]; exact jm_R_c b5 hr.1
    · rw [eb _ _ _ _ 0 (by decide) (by decide)]
    · rw [eb _ _ _ _ 3 (by decide) (by decide)]
    · rw [eb _ _ _ _ 4 (by decide) (by decide)]
    · rcases hb with e | e <;> subst e
      · unfold jp_v
        rw [jp_u_1]; exact k3 k hk
      · unfold jp_v
        rw [jp_u_n1 _ _ _ (by decide), jp_u_1]; exact k4 k hk
    · rw [eb _ _ _ _ 1 (by decide) (by decide)]; exact p1
    · rw [b4]; exact p2
    · rw [eb _ _ _ _ 1 (by decide) (by decide), b3]; exact p4 i hi
