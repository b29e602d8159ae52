/-! ===== the relation that every call keeps ===== -/
def jr_im (M : jf_B) (t : Nat) : jf_B := fun r j => if r = 1 then M 2 (153 * t + j) else 0
def jr (c : Nat) (f : Nat → jf_B) : Prop :=
  jm_R (f 2) (f 7) ∧ jm_I c (f 7) ∧ (∀ b, b = 3 ∨ b = 4 ∨ b = 5 ∨ b = 6 → ∀ i, i < 8 → f b 7 i = 0) ∧ (∃ n, jm_P (f 1) (f 7) n) ∧ (∀ k, k < 2 → ¬ f 7 3 k = 0 → jm_R (f (3 + k)) (jr_im (f 7) k) ∧ jm_I c (jr_im (f 7) k)) ∧ f 0 0 4 = nI ((if f 7 3 0 = 0 then 0 else 1) + if f 7 3 1 = 0 then 0 else 2)
theorem jp_s_1 (h : jp_H) (b r j : Nat) (x : Int32) : (jp_s h b r j x).1 b = jf_w (h.1 b) r j x := by simp [jp_s, jp_sr, jf_w, va_up]
theorem jp_s_n (h : jp_H) {b b' : Nat} (r j : Nat) (x : Int32) (hn : b' ≠ b) : (jp_s h b r j x).1 b' = h.1 b' := by simp [jp_s, jp_sr, va_up, hn]
theorem jr_mk {c c' : Nat} (hcc : c ≤ c') {h h1 : jp_H} (hr : jr c h.1) {M' : jf_B} (L' : jf_L) (hR : jm_R (h1.1 2) M') (hI : jm_I c' M') (h0 : h1.1 0 0 4 = h.1 0 0 4) (h3 : h1.1 3 = h.1 3) (h4 : h1.1 4 = h.1 4) (hz : ∀ b, b = 5 ∨ b = 6 → ∀ i, i < 8 → h1.1 b 7 i = 0) (hP : ∃ n, jm_P (h1.1 1) M' n) (hM2 : ∀ j, j < 306 → M' 2 j = h.1 7 2 j) (hM3 : M' 3 = h.1 7 3) : jr c' (jp_u h1 7 M' L').1 := by
  obtain ⟨a1, a2, a3, a4, a5, a6⟩ := hr
  unfold jr
  rw [jp_u_1, jp_u_n1 _ _ _ (show 2 ≠ 7 by decide), jp_u_n1 _ _ _ (show 1 ≠ 7 by decide), jp_u_n1 _ _ _ (show 0 ≠ 7 by decide)]
  refine ⟨hR, hI, fun b hb i hi => ?_, hP, fun k hk hk2 => ?_, ?_⟩
  · rw [jp_u_n1 _ _ _ (by omega)]
    rcases hb with e | e | e
    · subst e; rw [h3]; exact a3 3 (by omega) i hi
    · subst e; rw [h4]; exact a3 4 (by omega) i hi
    · exact hz b e i hi
  · rw [hM3] at hk2
    obtain ⟨b1, b2⟩ := a5 k hk hk2
    have z : ∀ j, j < 153 → jr_im M' k 1 j = jr_im (h.1 7) k 1 j := fun j hj => by
      unfold jr_im
      rw [if_pos rfl, if_pos rfl, hM2 _ (by omega)]
    rw [jp_u_n1 _ _ _ (by omega)]
    have e : h1.1 (3 + k) = h.1 (3 + k) := by
      rcases (show k = 0 ∨ k = 1 by omega) with e | e <;> subst e
      · exact h3
      · exact h4
    rw [e]
    exact ⟨jm_R_c z b1, jm_I_le hcc (jm_I_c z b2)⟩
  · rw [h0, hM3]; exact a6
theorem jr_le {c c' : Nat} (hcc : c ≤ c') {f : Nat → jf_B} (hr : jr c f) : jr c' f := by
  obtain ⟨a1, a2, a3, a4, a5, a6⟩ := hr
  exact ⟨a1, jm_I_le hcc a2, a3, a4, fun k hk hk2 => ⟨(a5 k hk hk2).1, jm_I_le hcc (a5 k hk hk2).2⟩, a6⟩
/-- nothing that is looked at changed, but the model's scratch -/
theorem jr_same {c : Nat} {h h1 : jp_H} (hr : jr c h.1) (he : ∀ b, b = 0 ∨ b = 1 ∨ b = 2 ∨ b = 3 ∨ b = 4 ∨ b = 5 ∨ b = 6 → h1.1 b = h.1 b) {M' : jf_B} (L' : jf_L) (hO : jm_O (h.1 7) M') : jr (c + 50) (jp_u h1 7 M' L').1 := by
  have hr' := hr
  obtain ⟨a1, a2, a3, ⟨n, a4⟩, a5, a6⟩ := hr
  obtain ⟨⟨b1, b2, b3, b4⟩, b5⟩ := hO
  refine jr_mk (Nat.le_add_right c 50) hr' L' ?_ (jm_I_le (Nat.le_add_right c 50) (jm_I_c b5 a2)) ?_ (he 3 (by omega)) (he 4 (by omega)) (fun b hb i hi => ?_) ⟨n, ?_⟩ b1 b2
  · rw [he 2 (by omega)]; exact jm_R_c b5 a1
  · rw [he 0 (by omega)]
  · rw [he b (by omega)]; exact a3 b (by omega) i hi
  · rw [he 1 (by omega)]
    obtain ⟨p1, p2, p3, p4⟩ := a4
    exact ⟨p1, by rw [b4]; exact p2, p3, fun i hi => by rw [b3]; exact p4 i hi⟩
theorem jm_O_refl (M : jf_B) : jm_O M M := ⟨⟨fun _ _ => rfl, rfl, rfl, rfl⟩, fun _ _ => rfl⟩
theorem jr_id {c : Nat} {h : jp_H} (hr : jr c h.1) : jr (c + 50) (jp_u h 7 (h.1 7) (h.2 7)).1 := jr_same hr (fun _ _ => rfl) _ (jm_O_refl _)
theorem jr_cN {c : Nat} {M : jf_B} (hI : jm_I c M) {i : Nat} (hi : i < 8) {s j : Int32} (hs : 1 ≤ s.toInt ∧ s.toInt ≤ 4) (hj : 0 ≤ j.toInt ∧ j.toInt ≤ 999) : jm_I (c + 50) (jf_w (jf_w M 1 (0 + i) s) 1 (8 + i) j) := by
  obtain ⟨a1, a2, a3, a4, a5, ⟨r, a6, a7⟩, a8, a9⟩ := hI
  have ho : ∀ k, 16 ≤ k → jf_w (jf_w M 1 (0 + i) s) 1 (8 + i) j 1 k = M 1 k := fun k hk => by rw [jf_w_if, if_neg (by omega), jf_w_if, if_neg (by omega)]
  have hx : ∀ k, k < 8 → jm_x (jf_w (jf_w M 1 (0 + i) s) 1 (8 + i) j) k = if k = i then j.toInt else jm_x M k := fun k hk => by
    unfold jm_x
    rw [jf_w_if, jf_w_if]
    by_cases z : k = i
    · rw [if_pos ⟨rfl, by omega⟩, if_pos z]
    · rw [if_neg (by omega), if_neg (by omega), if_neg z]
  have ps0 : jm_ps (jm_x (jf_w (jf_w M 1 (0 + i) s) 1 (8 + i) j)) = jm_ps (fun k => if k = i then j.toInt else jm_x M k) := jm_ps_c hx
  have ng0 : jm_ng (jm_x (jf_w (jf_w M 1 (0 + i) s) 1 (8 + i) j)) = jm_ng (fun k => if k = i then j.toInt else jm_x M k) := jm_ng_c hx
  have ps1 : jm_ps (fun k => if k = i then j.toInt else jm_x M k) = jm_ps (jm_x M) + (max j.toInt 0 - max (jm_x M i) 0) := by
    unfold jm_ps
    rw [jm_sm_1 (f := fun k => max (jm_x M k) 0) (a := i) (fun k hk => by dsimp only; rw [if_neg hk]) hi]
    dsimp only
    rw [if_pos rfl]
  have ng1 : jm_ng (fun k => if k = i then j.toInt else jm_x M k) = jm_ng (jm_x M) + (max (-j.toInt) 0 - max (-(jm_x M i)) 0) := by
    unfold jm_ng
    rw [jm_sm_1 (f := fun k => max (-(jm_x M k)) 0) (a := i) (fun k hk => by dsimp only; rw [if_neg hk]) hi]
    dsimp only
    rw [if_pos rfl]
  refine ⟨jm_co_c (fun k hk => ho _ (by omega)) a1, fun k hk => ?_, fun k hk => ?_, fun k hk => ?_, ?_, ⟨r, by omega, by rw [ho _ (by omega)]; exact a7⟩, ?_, ?_⟩
  · rw [jf_w_if, if_neg (by omega), jf_w_if]
    by_cases z : k = i
    · rw [if_pos ⟨rfl, by omega⟩]; exact hs
    · rw [if_neg (by omega)]; exact a2 k hk
  · rw [ho _ (by omega), ho _ (by omega)]; exact a3 k hk
  · rw [ho _ (by omega)]; exact a4 k hk
  · rw [jk_cnt_c (fun k hk => ho _ (by omega)) 64 (Nat.le_refl 64)]; exact a5
  · rw [ps0, ps1]; omega
  · rw [ng0, ng1]; omega
theorem jr_cR {N M : jf_B} (hR : jm_R N M) {i : Nat} (hi : i < 8) (s j : Int32) : jm_R (jf_w (jf_w N 1 i s) 2 i j) (jf_w (jf_w M 1 (0 + i) s) 1 (8 + i) j) := by
  obtain ⟨⟨s1, s2, s3, s4⟩, d1, d2, d3, d4, d5⟩ := hR
  have ho : ∀ k, 16 ≤ k → jf_w (jf_w M 1 (0 + i) s) 1 (8 + i) j 1 k = M 1 k := fun k hk => by rw [jf_w_if, if_neg (by omega), jf_w_if, if_neg (by omega)]
  have hN : ∀ r, r ≠ 1 → r ≠ 2 → jf_w (jf_w N 1 i s) 2 i j r = N r := fun r h1 h2 => by rw [jf_w_r _ _ _ h2, jf_w_r _ _ _ h1]
  refine ⟨⟨fun k hk => ?_, fun k hk => ?_, fun k hk => ?_, ?_⟩, fun k hk => ?_, fun k hk => ?_, fun k hk => ?_, ?_, fun k hk => ?_⟩
  · rw [jf_w_r _ _ _ (by decide), jf_w_if, jf_w_if, if_neg (show ¬ (1 = 1 ∧ k = 8 + i) by omega), jf_w_if]
    by_cases z : k = i
    · rw [if_pos ⟨rfl, z⟩, if_pos ⟨rfl, by omega⟩]
    · rw [if_neg (by omega), if_neg (by omega)]; exact s1 k hk
  · rw [hN 5 (by decide) (by decide), ho _ (by omega)]; exact s2 k hk
  · rw [hN 4 (by decide) (by decide), jk_deg_c (M := M) (fun k hk => ho _ (by omega)) hk 8 (Nat.le_refl 8)]; exact s3 k hk
  · rw [hN 0 (by decide) (by decide), jk_cnt_c (M := M) (fun k hk => ho _ (by omega)) 64 (Nat.le_refl 64)]; exact s4
  · by_cases z : k = i
    · rw [z, jf_w_s, jf_w_s]
    · rw [jf_w_n _ _ (show ¬ (2 = 2 ∧ k = i) by omega), jf_w_n _ _ (show ¬ (1 = 1 ∧ 8 + k = 8 + i) by omega), jf_w_r _ _ _ (by decide), jf_w_n _ _ (show ¬ (1 = 1 ∧ 8 + k = 0 + i) by omega)]; exact d1 k hk
  · rw [hN 3 (by decide) (by decide), ho _ (by omega)]; exact d2 k hk
  · rw [hN 6 (by decide) (by decide), ho _ (by omega)]; exact d3 k hk
  · rw [hN 0 (by decide) (by decide), ho _ (by omega)]; exact d4
  · rw [hN 7 (by decide) (by decide)]; exact d5 k hk
