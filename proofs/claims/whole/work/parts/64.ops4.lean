/-! ===== each call, both sides: images, count ===== -/
theorem jl_image (E : jp_E) (l : Launch) {c : Nat} {h : jp_H} (hr : jr c h.1) (k : Int32) : jl_I E l yX2_image wsX2_image ({ frames := 2, cells := 0, slots := 0, locals := 61 } : Room) [.ref (E.2.1 0 0), .int k] yX3_image wsX3_image ({ frames := 1, cells := 0, slots := 0, locals := 22 } : Room) [.ref (E.2.1 7 0), .int k] c h := by
  by_cases q : jf_within k (nI 0) (nI 1) = true
  · obtain ⟨t, ht, ek, et⟩ := jm_w0 k (by decide) q
    have ht2 : t < 2 := by omega
    have eib : jf_ib k = 3 + t := by
      unfold jf_ib
      rw [ek]
      rcases (show t = 0 ∨ t = 1 by omega) with e | e <;> subst e
      · rw [if_pos rfl]
      · rw [if_neg (by decide)]
    have hb : 3 + t ≠ 0 ∧ 3 + t ≠ 1 ∧ 3 + t ≠ 2 ∧ 3 + t ≠ 5 ∧ 3 + t ≠ 6 ∧ 3 + t ≠ 7 := by omega
    have z3 := hr.2.2.1 (3 + t) (by omega)
    have R' := jm_bec hr.1 z3
    obtain ⟨x, ex⟩ : ∃ x, x = h.1 0 0 4 ||| nI 1 <<< (k &&& 31) := ⟨_, rfl⟩
    have hF : jF_image k h = (nI 1, jp_s (jp_u h (3 + t) (jf_become (h.1 2) (h.1 (3 + t))) (h.2 (3 + t))) 0 0 4 x) := by
      unfold jF_image
      rw [if_pos q, eib, jp_u_n1 _ _ _ (show 0 ≠ 3 + t by omega), ← ex]
    have e7 : (jp_s (jp_u h (3 + t) (jf_become (h.1 2) (h.1 (3 + t))) (h.2 (3 + t))) 0 0 4 x).1 7 = h.1 7 := by rw [jp_s_n _ _ _ _ (by decide), jp_u_n1 _ _ _ (by omega)]
    have eo : ∀ b, b ≠ 0 → b ≠ 3 + t → (jp_s (jp_u h (3 + t) (jf_become (h.1 2) (h.1 (3 + t))) (h.2 (3 + t))) 0 0 4 x).1 b = h.1 b := fun b h0 h3 => by rw [jp_s_n _ _ _ _ h0, jp_u_n1 _ _ _ h3]
    have ei : (jp_s (jp_u h (3 + t) (jf_become (h.1 2) (h.1 (3 + t))) (h.2 (3 + t))) 0 0 4 x).1 (3 + t) = jf_become (h.1 2) (h.1 (3 + t)) := by rw [jp_s_n _ _ _ _ (by omega), jp_u_1]
    have e0 : (jp_s (jp_u h (3 + t) (jf_become (h.1 2) (h.1 (3 + t))) (h.2 (3 + t))) 0 0 4 x).1 0 0 4 = x := by rw [jp_s_1, jf_w_s]
    generalize hH : jp_s (jp_u h (3 + t) (jf_become (h.1 2) (h.1 (3 + t))) (h.2 (3 + t))) 0 0 4 x = h1 at *
    obtain ⟨M', eM⟩ : ∃ M', M' = jf_w (jk_save t (h.1 7)) 3 t (jp_b true) := ⟨_, rfl⟩
    refine jl_br (nI 1) h1 M' (jc_X2_image E l) hF (jc_X3_image E l) (by unfold jk_image; rw [if_pos q, et, e7, eM]) ?_
    -- what the model holds now
    have m1 : ∀ j, j < 153 → M' 1 j = h.1 7 1 j := fun j hj => by rw [eM, jf_w_r _ _ _ (by decide), jm_save_r _ _ (by decide)]
    have m2 : ∀ j, M' 2 j = if 153 * t ≤ j ∧ j < 153 * t + 153 then h.1 7 1 (j - 153 * t) else h.1 7 2 j := fun j => by rw [eM, jf_w_r _ _ _ (by decide), jm_save_2]
    have m3 : ∀ i, M' 3 i = if i = t then 1 else h.1 7 3 i := fun i => by
      rw [eM, jf_w_if, jm_save_r _ _ (by decide)]
      by_cases z : i = t
      · rw [if_pos ⟨rfl, z⟩, if_pos z]; rfl
      · rw [if_neg (by omega), if_neg z]
    have m4 : M' 4 = h.1 7 4 := by rw [eM, jf_w_r _ _ _ (by decide), jm_save_r _ _ (by decide)]
    have m0 : M' 0 = h.1 7 0 := by rw [eM, jf_w_r _ _ _ (by decide), jm_save_r _ _ (by decide)]
    have hle := Nat.le_add_right c 50
    unfold jr
    rw [jp_u_1, jp_u_n1 _ _ _ (show 2 ≠ 7 by decide), jp_u_n1 _ _ _ (show 1 ≠ 7 by decide), jp_u_n1 _ _ _ (show 0 ≠ 7 by decide), eo 2 (by decide) (by omega), eo 1 (by decide) (by omega), e0]
    refine ⟨jm_R_c m1 hr.1, jm_I_le hle (jm_I_c m1 hr.2.1), fun b hb2 i hi => ?_, ?_, fun u hu hu2 => ?_, ?_⟩
    · rw [jp_u_n1 _ _ _ (by omega)]
      by_cases z : b = 3 + t
      · rw [z, ei, jm_bec_7]; exact z3 i hi
      · rw [eo b (by omega) z]; exact hr.2.2.1 b hb2 i hi
    · obtain ⟨n, p1, p2, p3, p4⟩ := hr.2.2.2.1
      exact ⟨n, p1, by rw [m0]; exact p2, p3, fun i hi => by rw [m4]; exact p4 i hi⟩
    · rw [jp_u_n1 _ _ _ (by omega)]
      by_cases z : u = t
      · subst z
        have zz : ∀ j, j < 153 → jr_im M' u 1 j = h.1 7 1 j := fun j hj => by
          unfold jr_im
          rw [if_pos rfl, m2, if_pos (by omega), show 153 * u + j - 153 * u = j by omega]
        rw [ei]
        exact ⟨jm_R_c zz R', jm_I_le hle (jm_I_c zz hr.2.1)⟩
      · rw [m3, if_neg z] at hu2
        obtain ⟨b1, b2⟩ := hr.2.2.2.2.1 u hu hu2
        have zz : ∀ j, j < 153 → jr_im M' u 1 j = jr_im (h.1 7) u 1 j := fun j hj => by
          unfold jr_im
          rw [if_pos rfl, if_pos rfl, m2, if_neg (by omega)]
        rw [eo (3 + u) (by omega) (by omega)]
        exact ⟨jm_R_c zz b1, jm_I_le hle (jm_I_c zz b2)⟩
    · have k0 := hr.2.2.2.2.2
      rw [ex, k0, ek, m3, m3]
      rcases (show t = 0 ∨ t = 1 by omega) with e | e <;> subst e
      · rw [if_pos (show (0 : Nat) = 0 from rfl), if_neg (show ¬ (1 : Nat) = 0 by decide), if_neg (show ¬ (1 : Int32) = 0 by decide)]
        by_cases y0 : h.1 7 3 0 = 0 <;> by_cases y1 : h.1 7 3 1 = 0
        · rw [if_pos y0, if_pos y1]; decide
        · rw [if_pos y0, if_neg y1]; decide
        · rw [if_neg y0, if_pos y1]; decide
        · rw [if_neg y0, if_neg y1]; decide
      · rw [if_neg (show ¬ (0 : Nat) = 1 by decide), if_pos (show (1 : Nat) = 1 from rfl), if_neg (show ¬ (1 : Int32) = 0 by decide)]
        by_cases y0 : h.1 7 3 0 = 0 <;> by_cases y1 : h.1 7 3 1 = 0
        · rw [if_pos y0, if_pos y1]; decide
        · rw [if_pos y0, if_neg y1]; decide
        · rw [if_neg y0, if_pos y1]; decide
        · rw [if_neg y0, if_neg y1]; decide
  · exact jl_br (-2) h (h.1 7) (jc_X2_image E l) (by unfold jF_image; rw [if_neg q]) (jc_X3_image E l) (by unfold jk_image; rw [if_neg q]) (jr_id hr)
theorem jr_kept {f : Nat → jf_B} {c : Nat} (hr : jr c f) {t : Nat} (ht : t < 2) : (f 0 0 4 &&& nI 1 <<< (nI t &&& 31) = 0) ↔ f 7 3 t = 0 := by
  rw [hr.2.2.2.2.2]
  rcases (show t = 0 ∨ t = 1 by omega) with e | e <;> subst e
  · by_cases y0 : f 7 3 0 = 0 <;> by_cases y1 : f 7 3 1 = 0
    · rw [if_pos y0, if_pos y1]; exact ⟨fun _ => y0, fun _ => by decide⟩
    · rw [if_pos y0, if_neg y1]; exact ⟨fun _ => y0, fun _ => by decide⟩
    · rw [if_neg y0, if_pos y1]; exact ⟨fun z => absurd z (by decide), fun z => absurd z y0⟩
    · rw [if_neg y0, if_neg y1]; exact ⟨fun z => absurd z (by decide), fun z => absurd z y0⟩
  · by_cases y0 : f 7 3 0 = 0 <;> by_cases y1 : f 7 3 1 = 0
    · rw [if_pos y0, if_pos y1]; exact ⟨fun _ => y1, fun _ => by decide⟩
    · rw [if_pos y0, if_neg y1]; exact ⟨fun z => absurd z (by decide), fun z => absurd z y1⟩
    · rw [if_neg y0, if_pos y1]; exact ⟨fun _ => y1, fun _ => by decide⟩
    · rw [if_neg y0, if_neg y1]; exact ⟨fun z => absurd z (by decide), fun z => absurd z y1⟩
theorem jl_restore (E : jp_E) (l : Launch) {c : Nat} {h : jp_H} (hr : jr c h.1) (k : Int32) : jl_I E l yX2_restore wsX2_restore ({ frames := 2, cells := 0, slots := 0, locals := 61 } : Room) [.ref (E.2.1 0 0), .int k] yX3_restore wsX3_restore ({ frames := 1, cells := 0, slots := 0, locals := 22 } : Room) [.ref (E.2.1 7 0), .int k] c h := by
  by_cases q : jf_within k (nI 0) (nI 1) = true
  · obtain ⟨t, ht, ek, et⟩ := jm_w0 k (by decide) q
    have ht2 : t < 2 := by omega
    have eib : jf_ib k = 3 + t := by
      unfold jf_ib
      rw [ek]
      rcases (show t = 0 ∨ t = 1 by omega) with e | e <;> subst e
      · rw [if_pos rfl]
      · rw [if_neg (by decide)]
    have hk := jr_kept hr ht2
    by_cases q2 : h.1 7 3 t = 0
    · exact jl_br (-3) h (h.1 7) (jc_X2_restore E l) (by unfold jF_restore; rw [if_pos q, if_pos (by rw [ek]; exact hk.mpr q2)]) (jc_X3_restore E l) (by unfold jk_restore; rw [if_pos q, et, if_pos q2]) (jr_id hr)
    · obtain ⟨b1, b2⟩ := hr.2.2.2.2.1 t ht2 q2
      have e7 : (jp_u h 2 (jf_become (h.1 (3 + t)) (h.1 2)) (h.2 2)).1 7 = h.1 7 := jp_u_n1 _ _ _ (by decide)
      have zz : ∀ j, j < 153 → jk_load t (h.1 7) 1 j = jr_im (h.1 7) t 1 j := fun j hj => by
        rw [jm_load_1, if_pos hj]
        unfold jr_im
        rw [if_pos rfl]
      refine jl_br (nI 1) (jp_u h 2 (jf_become (h.1 (3 + t)) (h.1 2)) (h.2 2)) (jk_load t (h.1 7)) (jc_X2_restore E l) (by unfold jF_restore; rw [if_pos q, if_neg (by rw [ek]; exact fun z => q2 (hk.mp z)), eib]) (jc_X3_restore E l) (by unfold jk_restore; rw [if_pos q, et, e7, if_neg q2]) ?_
      exact jr_b2 hr _ _ (jm_R_c zz (jm_bec b1 hr.1.2.2.2.2.2)) (jm_I_le (Nat.le_add_right c 50) (jm_I_c zz b2)) (fun r h1 _ => jm_load_r _ _ h1)
  · exact jl_br (-2) h (h.1 7) (jc_X2_restore E l) (by unfold jF_restore; rw [if_neg q]) (jc_X3_restore E l) (by unfold jk_restore; rw [if_neg q]) (jr_id hr)
theorem jl_count (E : jp_E) (l : Launch) {c : Nat} (hc : c ≤ 38000) {h : jp_H} (hr : jr c h.1) (w : Int32) : jl_I E l yX2_count wsX2_count ({ frames := 2, cells := 0, slots := 0, locals := 43 } : Room) [.ref (E.2.1 0 0), .int w] yX3_count wsX3_count ({ frames := 4, cells := 0, slots := 0, locals := 88 } : Room) [.ref (E.2.1 7 0), .int w] c h := by
  have A := jc_X2_count E l (h := h) (w := w)
  have B := jc_X3_count E l (h := h) (M := h.1 7) (L := h.2 7) (w := w)
  have eh : (jF_count w h).2 = h := by
    unfold jF_count
    repeat' split
    all_goals rfl
  rw [eh] at A
  refine jl_bv A rfl B (jp_u_self _ 7) ?_ (jr_id hr)
  obtain ⟨n, p1, p2, p3, p4⟩ := hr.2.2.2.1
  unfold jF_count jk_count
  by_cases q0 : w = nI 0
  · rw [if_pos q0, if_pos q0]; exact hr.1.1.2.2.2
  · rw [if_neg q0, if_neg q0]
    by_cases q1 : w = nI 1
    · rw [if_pos q1, if_pos q1]; dsimp only; rw [p1, p2]
    · rw [if_neg q1, if_neg q1]
      by_cases q2 : w = nI 2
      · rw [if_pos q2, if_pos q2]; exact hr.1.2.2.2.2.1
      · rw [if_neg q2, if_neg q2]
        by_cases q3 : w = nI 3
        · rw [if_pos q3, if_pos q3]
          dsimp only
          rw [jm_sumJ8 (by omega) hr.1 hr.2.1, Int32.toInt32_toInt64]
        · rw [if_neg q3, if_neg q3]
          by_cases q4 : w = nI 4
          · rw [if_pos q4, if_pos q4]; exact jm_measure hr.1.1
          · rw [if_neg q4, if_neg q4]
            by_cases q5 : w = nI 5
            · rw [if_pos q5, if_pos q5]; exact jm_colours hr.1.1 hr.2.1.1
            · rw [if_neg q5, if_neg q5]
              by_cases q6 : w = nI 6
              · rw [if_pos q6, if_pos q6]; exact jm_below hr.1.2 8 (Nat.le_refl 8)
              · rw [if_neg q6, if_neg q6]
                by_cases q7 : w = nI 7
                · rw [if_pos q7, if_pos q7]
                  dsimp only
                  rw [hr.2.2.2.2.2]
                  by_cases y0 : h.1 7 3 0 = 0 <;> by_cases y1 : h.1 7 3 1 = 0
                  · rw [if_pos y0, if_pos y1, if_pos y0, if_pos y1]
                  · rw [if_pos y0, if_neg y1, if_pos y0, if_neg y1]
                  · rw [if_neg y0, if_pos y1, if_neg y0, if_pos y1]
                  · rw [if_neg y0, if_neg y1, if_neg y0, if_neg y1]
                · rw [if_neg q7, if_neg q7]
