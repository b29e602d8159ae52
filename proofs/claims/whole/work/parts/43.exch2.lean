/-! ===== EXCHANGE: the rounds ===== -/
def jm_sp (M : jf_B) : Prop := ∀ i, i < 8 → 1 ≤ (M 1 i).toInt ∧ (M 1 i).toInt ≤ 4
def jm_ER (N0 M0 : jf_B) (K : Int) (S T : jf_B × Int32) : Prop :=
  S.2 = T.2 ∧ (∀ r, r ≠ 2 → S.1 r = N0 r) ∧ (∀ j, j < 8 ∨ 16 ≤ j → T.1 1 j = M0 1 j) ∧ (∀ i, i < 8 → S.1 2 i = T.1 1 (8 + i)) ∧ jm_ps (jm_x T.1) ≤ K ∧ jm_ng (jm_x T.1) ≤ K
theorem jm_exF {N M : jf_B} {a c : Nat} (ea : N 1 a = M 1 a) (ec : N 1 c = M 1 c) (fa : N 2 a = M 1 (8 + a)) (fc : N 2 c = M 1 (8 + c)) (hs1 : 1 ≤ (M 1 a).toInt) (hs2 : (M 1 a).toInt ≤ 4) (hs3 : 1 ≤ (M 1 c).toInt) (hs4 : (M 1 c).toInt ≤ 4) (hx : -100000000 ≤ jm_x M a ∧ jm_x M a ≤ 100000000) (hy : -100000000 ≤ jm_x M c ∧ jm_x M c ≤ 100000000) : jf_exF N a c = jk_evF M a c := by
  rw [(jm_ev hs1 hs2 hs3 hs4 hx hy).1]
  have hS : (M 1 a + M 1 c).toInt = (M 1 a).toInt + (M 1 c).toInt := jm_add (by omega) (by omega)
  unfold jf_exF jk_ev1 jk_ev2
  rw [jm_two (by rw [ea]; exact hs1) (by rw [ea]; exact hs2) (by rw [ec]; exact hs3) (by rw [ec]; exact hs4), ea, ec, fa, fc, jm_fdiv (by omega), jm_fdiv (by omega), Nat.zero_add, Nat.zero_add, Int32.mul_comm (M 1 a), Int32.mul_comm (M 1 c)]
theorem jm_exR {M : jf_B} {a c : Nat} {F : Int32} (hF : F = jk_evF M a c) (h1 : -1000000000 ≤ F.toInt) (h2 : F.toInt ≤ 1000000000) (hx : -100000000 ≤ jm_x M a ∧ jm_x M a ≤ 100000000) : jf_absI (F - M 1 (8 + a)) = jk_evR M a c := by
  unfold jf_absI jk_evR
  unfold jm_x at hx
  rw [← hF]
  have hs : (F - M 1 (8 + a)).toInt = F.toInt - (M 1 (8 + a)).toInt := jm_sub (by omega) (by omega)
  by_cases q : M 1 (8 + a) ≤ F
  · have q2 := Int32.le_iff_toInt_le.mp q
    rw [if_pos q, if_pos (jm_ge0.mpr (by omega))]
  · have q2 : ¬ (M 1 (8 + a)).toInt ≤ F.toInt := fun z => q (Int32.le_iff_toInt_le.mpr z)
    have q3 : ¬ 0 ≤ F - M 1 (8 + a) := fun z => by
      have := jm_ge0.mp z
      omega
    rw [if_neg q, if_neg q3]
    apply Int32.toInt_inj.mp
    rw [jm_sub (a := M 1 (8 + a)) (b := F) (by omega) (by omega), jm_sub (a := 0) (by rw [Int32.toInt_zero]; omega) (by rw [Int32.toInt_zero]; omega), Int32.toInt_zero, hs]
    omega
theorem jm_exA_2 (N : jf_B) {a c : Nat} (hac : a ≠ c) (k : Nat) : jf_exA N a c 2 k = if k = c then N 2 a + N 2 c - jf_exF N a c else if k = a then jf_exF N a c else N 2 k := by
  unfold jf_exA
  simp only [jf_w_if]
  simp
theorem jm_evM_1 (M : jf_B) (a c : Nat) (j : Nat) : jk_evM M a c 1 j = if j = 8 + c then M 1 (8 + a) + M 1 (8 + c) - jk_evF M a c else if j = 8 + a then jk_evF M a c else M 1 j := by
  unfold jk_evM
  simp only [jf_w_if]
  simp
theorem jm_ER_s {N0 M0 : jf_B} {S T : jf_B × Int32} {tu : Int32} {K : Int} (hS : jm_S N0 M0) (hC : jm_co M0) (hP : jm_sp M0) (hK : K ≤ 100000000) (htu : ¬ tu < 0) {i : Nat} (hi : i < 64) (h : jm_ER N0 M0 K S T) : jm_ER N0 M0 K (jm_fl (jf_exS tu) i S) (jk_exS tu i T) := by
  obtain ⟨h1, h2, h3, h4, h5, h6⟩ := h
  have eJ : ∀ a c, jf_joins S.1 a c = jf_joins N0 a c := fun a c => by unfold jf_joins; rw [h2 5 (by decide)]
  have eC : T.1 1 (24 + i) = M0 1 (24 + i) := h3 _ (by omega)
  have e0 : T.2 + nI 0 = T.2 := Int32.add_zero _
  unfold jk_exS
  rw [eC]
  rcases hC i hi with e | ⟨c1, c2, c3⟩
  · have hn : ¬ M0 1 (24 + i) = tu := fun z => htu (by rw [← z, e]; exact jm_neg6)
    rw [if_neg hn, e0]
    have eS : jm_fl (jf_exS tu) i S = S := by
      unfold jm_fl
      split
      · next q =>
        unfold jf_exS
        rw [eJ, jm_joins hS hC (by omega) (by omega)]
        unfold jk_edge
        rw [jm_spot q, e, if_pos jm_neg6, if_neg (show ¬ i / 8 = i % 8 by omega), if_neg (by decide)]
      · rfl
    rw [eS]
    exact ⟨h1, h2, h3, h4, h5, h6⟩
  · have hac : i / 8 ≠ i % 8 := by omega
    have ha : i / 8 < 8 := by omega
    have hc : i % 8 < 8 := by omega
    have eT : jk_edge M0 (i / 8) (i % 8) = true := by
      unfold jk_edge
      rw [if_neg hac, jm_spot c3, if_neg (jm_nneg c1)]
    have e5 : S.1 5 (jf_spot (i / 8) (i % 8)) = M0 1 (24 + i) := by
      rw [jm_spot c3, h2 5 (by decide), hS.2.1 i hi, if_neg (jm_nneg c1)]
    have eS : jm_fl (jf_exS tu) i S = if M0 1 (24 + i) = tu then (jf_exA S.1 (i / 8) (i % 8), S.2 + jf_absI (jf_exF S.1 (i / 8) (i % 8) - S.1 2 (i / 8))) else S := by
      unfold jm_fl jf_exS
      rw [if_pos c3, eJ, jm_joins hS hC ha hc, eT, if_pos rfl, e5]
    rw [eS]
    by_cases q : M0 1 (24 + i) = tu
    · rw [if_pos q, if_pos q]
      have b1 := jm_x_le h5 h6 ha
      have b2 := jm_x_le h5 h6 hc
      have s1 := hP _ ha
      have s2 := hP _ hc
      have t1 : T.1 1 (i / 8) = M0 1 (i / 8) := h3 _ (by omega)
      have t2 : T.1 1 (i % 8) = M0 1 (i % 8) := h3 _ (by omega)
      rw [← t1] at s1
      rw [← t2] at s2
      have ev := jm_ev s1.1 s1.2 s2.1 s2.2 (by omega) (by omega)
      have eF : jf_exF S.1 (i / 8) (i % 8) = jk_evF T.1 (i / 8) (i % 8) := jm_exF (by rw [h2 1 (by decide), hS.1 _ ha, t1]) (by rw [h2 1 (by decide), hS.1 _ hc, t2]) (h4 _ ha) (h4 _ hc) s1.1 s1.2 s2.1 s2.2 (by omega) (by omega)
      obtain ⟨v1, v2, v3, v4⟩ := ev
      have bF : -1000000000 ≤ (jk_evF T.1 (i / 8) (i % 8)).toInt ∧ (jk_evF T.1 (i / 8) (i % 8)).toInt ≤ 1000000000 := by
        by_cases z : 0 ≤ jm_x T.1 (i / 8) + jm_x T.1 (i % 8)
        · have := v3 z; omega
        · have := v4 (by omega); omega
      have xs : ∀ k, k ≠ i / 8 → k ≠ i % 8 → jm_x (jk_evM T.1 (i / 8) (i % 8)) k = jm_x T.1 k := by
        intro k z1 z2
        unfold jm_x
        rw [jm_evM_1, if_neg (by omega), if_neg (by omega)]
      have xa : jm_x (jk_evM T.1 (i / 8) (i % 8)) (i / 8) = (jk_evF T.1 (i / 8) (i % 8)).toInt := by
        unfold jm_x
        rw [jm_evM_1, if_neg (by omega), if_pos rfl]
      have xc : jm_x (jk_evM T.1 (i / 8) (i % 8)) (i % 8) = jm_x T.1 (i / 8) + jm_x T.1 (i % 8) - (jk_evF T.1 (i / 8) (i % 8)).toInt := by
        rw [← v2]
        show (jk_evM T.1 (i / 8) (i % 8) 1 (8 + i % 8)).toInt = _
        rw [jm_evM_1, if_pos rfl]
      refine ⟨?_, ?_, ?_, ?_, ?_, ?_⟩
      · show S.2 + _ = T.2 + _
        rw [h1, h4 _ ha, eF, jm_exR rfl bF.1 bF.2 (by omega)]
      · intro r hr
        show jf_exA S.1 (i / 8) (i % 8) r = N0 r
        unfold jf_exA
        rw [jf_w_r _ _ _ hr, jf_w_r _ _ _ hr]
        exact h2 r hr
      · intro j hj
        show jk_evM T.1 (i / 8) (i % 8) 1 j = M0 1 j
        rw [jm_evM_1, if_neg (by omega), if_neg (by omega)]
        exact h3 j hj
      · intro k hk
        show jf_exA S.1 (i / 8) (i % 8) 2 k = jk_evM T.1 (i / 8) (i % 8) 1 (8 + k)
        rw [jm_exA_2 _ hac, jm_evM_1, eF, h4 _ ha, h4 _ hc]
        by_cases z1 : k = i % 8
        · rw [if_pos z1, if_pos (show 8 + k = 8 + i % 8 by omega)]
        · rw [if_neg z1, if_neg (show ¬ 8 + k = 8 + i % 8 by omega)]
          by_cases z2 : k = i / 8
          · rw [if_pos z2, if_pos (show 8 + k = 8 + i / 8 by omega)]
          · rw [if_neg z2, if_neg (show ¬ 8 + k = 8 + i / 8 by omega)]
            exact h4 k hk
      · refine Int.le_trans ?_ h5
        show jm_sm (fun k => max (jm_x (jk_evM T.1 (i / 8) (i % 8)) k) 0) 8 ≤ jm_sm (fun k => max (jm_x T.1 k) 0) 8
        rw [jm_sm_2 (f := fun k => max (jm_x T.1 k) 0) (a := i / 8) (c := i % 8) hac (fun k z1 z2 => by rw [xs k z1 z2]) ha hc, xa, xc]
        by_cases z : 0 ≤ jm_x T.1 (i / 8) + jm_x T.1 (i % 8)
        · have := v3 z; omega
        · have := v4 (by omega); omega
      · refine Int.le_trans ?_ h6
        show jm_sm (fun k => max (-(jm_x (jk_evM T.1 (i / 8) (i % 8)) k)) 0) 8 ≤ jm_sm (fun k => max (-(jm_x T.1 k)) 0) 8
        rw [jm_sm_2 (f := fun k => max (-(jm_x T.1 k)) 0) (a := i / 8) (c := i % 8) hac (fun k z1 z2 => by rw [xs k z1 z2]) ha hc, xa, xc]
        by_cases z : 0 ≤ jm_x T.1 (i / 8) + jm_x T.1 (i % 8)
        · have := v3 z; omega
        · have := v4 (by omega); omega
    · rw [if_neg q, if_neg q, e0]
      exact ⟨h1, h2, h3, h4, h5, h6⟩
theorem jm_ER_n {N0 M0 : jf_B} {tu : Int32} {K : Int} (hS : jm_S N0 M0) (hC : jm_co M0) (hP : jm_sp M0) (hD : jm_D N0 M0) (hK : K ≤ 100000000) (h5 : jm_ps (jm_x M0) ≤ K) (h6 : jm_ng (jm_x M0) ≤ K) (htu : ¬ tu < 0) : ∀ n, n ≤ 64 → jm_ER N0 M0 K (jf_it (jm_fl (jf_exS tu)) (N0, nI 0) n) (jf_it (jk_exS tu) (M0, nI 0) n)
  | 0, _ => ⟨rfl, fun _ _ => rfl, fun _ _ => rfl, hD.1, h5, h6⟩
  | n + 1, h => jm_ER_s hS hC hP hK htu (by omega) (jm_ER_n hS hC hP hD hK h5 h6 htu n (by omega))
theorem jm_exch_T (N : jf_B) (tu : Int32) : jf_it (jf_exR tu) (N, nI 0) 8 = jf_it (jm_fl (jf_exS tu)) (N, nI 0) 64 := jm_flat (jf_exS tu) (N, nI 0) 8 (Nat.le_refl 8)
theorem jm_turn {N M : jf_B} (hS : jm_S N M) (hC : jm_co M) (hD : jm_D N M) : jf_turn N = jk_turn M := by
  unfold jf_turn jk_turn
  rw [jm_colours hS hC, hD.2.2.2.1]
theorem jm_exch {N M : jf_B} {K : Int} (hS : jm_S N M) (hC : jm_co M) (hP : jm_sp M) (hD : jm_D N M) (hK : K ≤ 100000000) (h5 : jm_ps (jm_x M) ≤ K) (h6 : jm_ng (jm_x M) ≤ K) (htu : ¬ jk_turn M < 0) : (jf_exch N).2 = (jk_exch M).2 ∧ (∀ r, r ≠ 2 → (jf_exch N).1 r = N r) ∧ (∀ j, j < 8 ∨ 16 ≤ j → (jk_exch M).1 1 j = M 1 j) ∧ (∀ i, i < 8 → (jf_exch N).1 2 i = (jk_exch M).1 1 (8 + i)) ∧ jm_ps (jm_x (jk_exch M).1) ≤ K ∧ jm_ng (jm_x (jk_exch M).1) ≤ K := by
  have := jm_ER_n hS hC hP hD hK h5 h6 htu 64 (Nat.le_refl 64)
  unfold jf_exch jk_exch jk_exT
  rw [jm_turn hS hC hD, jm_exch_T]
  exact this
