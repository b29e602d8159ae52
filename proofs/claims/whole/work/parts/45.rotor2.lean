/-! ===== ROTOR: the round ===== -/
def jm_ro (M : jf_B) : Prop := ∀ i, i < 8 → ∃ v : Nat, v ≤ 8 ∧ M 1 (16 + i) = nI v
theorem jm_r0_5 (M : jf_B) : ∀ n i, jk_r0T M n 5 i = (if i < n then (if M 1 (8 + i) ≤ 0 then M 1 (8 + i) else nI 0) else M 5 i)
  | 0, i => rfl
  | n + 1, i => by
    rw [jk_r0T_s]
    have h1 := jm_r0_5 M n i
    have h2 : ∀ j, jk_r0T M n 1 j = M 1 j := jk_r0T_sp M n
    generalize jk_r0T M n = Y at h1 h2 ⊢
    unfold jk_r0
    rw [jf_w_if, h1, h2]
    by_cases q : i = n
    · subst q
      rw [if_pos ⟨rfl, rfl⟩, if_pos (show i < i + 1 by omega)]
    · rw [if_neg (fun z => q z.2)]
      by_cases q2 : i < n
      · rw [if_pos q2, if_pos (show i < n + 1 by omega)]
      · rw [if_neg q2, if_neg (show ¬ i < n + 1 by omega)]
def jm_bb (M : jf_B) (n i : Nat) : Int32 := if M 1 (8 + i) ≤ 0 then M 1 (8 + i) else if i < n then M 1 (8 + i) else 0
def jm_QR (N0 M0 : jf_B) (n : Nat) (S T : jf_B × Int32) : Prop :=
  S.2 = T.2 ∧ (∀ r, r ≠ 3 → r ≠ 7 → S.1 r = N0 r) ∧ (∀ j, j < 16 ∨ 24 ≤ j → T.1 1 j = M0 1 j) ∧ (∀ i, i < 8 → S.1 3 i = T.1 1 (16 + i)) ∧ jm_ro T.1 ∧ (∀ i, i < 8 → T.1 5 i = jm_bb M0 n i + S.1 7 i) ∧ jm_ps (jm_y T.1) ≤ jm_sm (fun k => max (jm_x M0 k) 0) n ∧ jm_ng (jm_y T.1) ≤ jm_ng (jm_x M0)
theorem jm_sm_mono {f : Nat → Int} (h : ∀ k, 0 ≤ f k) {a b : Nat} (hab : a ≤ b) : jm_sm f a ≤ jm_sm f b := by
  induction b with
  | zero => rw [show a = 0 by omega]; exact Int.le_refl _
  | succ b ih =>
    by_cases q : a = b + 1
    · rw [q]; exact Int.le_refl _
    · have := ih (by omega)
      have := h b
      show jm_sm f a ≤ jm_sm f b + f b
      omega
theorem jm_QR_s {N0 M0 : jf_B} (hS : jm_S N0 M0) (hC : jm_co M0) (hJ : ∀ i, i < 8 → N0 2 i = M0 1 (8 + i)) (h5 : jm_ps (jm_x M0) ≤ 100000000) (h6 : jm_ng (jm_x M0) ≤ 100000000) {n : Nat} (hn : n < 8) {S T : jf_B × Int32} (h : jm_QR N0 M0 n S T) : jm_QR N0 M0 (n + 1) (jf_deS n S) (jk_r1 n T) := by
  obtain ⟨a1, a2, a3, a4, a5, a6, a7, a8⟩ := h
  have e2 : S.1 2 n = M0 1 (8 + n) := by rw [a2 2 (by decide) (by decide), hJ n hn]
  have eT : T.1 1 (8 + n) = M0 1 (8 + n) := a3 _ (by omega)
  have hsm : jm_sm (fun k => max (jm_x M0 k) 0) (n + 1) = jm_sm (fun k => max (jm_x M0 k) 0) n + max (jm_x M0 n) 0 := rfl
  unfold jf_deS jk_r1
  rw [e2, eT]
  by_cases q : M0 1 (8 + n) ≤ 0
  · rw [if_pos q, if_pos q]
    have q2 : jm_x M0 n ≤ 0 := jm_le0.mp q
    refine ⟨by show S.2 = T.2 + nI 0; rw [a1]; exact (Int32.add_zero _).symm, a2, a3, a4, a5, fun i hi => ?_, by rw [hsm]; show jm_ps (jm_y T.1) ≤ _; omega, a8⟩
    show T.1 5 i = _
    rw [a6 i hi]
    unfold jm_bb
    by_cases z : i = n
    · subst z
      rw [if_pos q, if_pos q]
    · by_cases z2 : i < n
      · rw [if_pos z2, if_pos (show i < n + 1 by omega)]
      · rw [if_neg z2, if_neg (show ¬ i < n + 1 by omega)]
  · rw [if_neg q, if_neg q]
    have q2 : ¬ jm_x M0 n ≤ 0 := fun z => q (jm_le0.mpr z)
    have hxn : ¬ M0 1 (8 + n) < 0 := fun z => by have := jm_lt0.mp z; unfold jm_x at q2; omega
    obtain ⟨X, hX31, hX0⟩ := nI_of hxn
    have hXi : jm_x M0 n = X := by unfold jm_x; rw [hX0]; exact nI_toInt hX31
    have hC' : jm_co T.1 := jm_co_c (fun j hj => a3 _ (by omega)) hC
    have hS' : jm_S S.1 T.1 := jm_S_of hS (a2 1 (by decide) (by decide)) (a2 5 (by decide) (by decide)) (a2 4 (by decide) (by decide)) (by rw [a2 0 (by decide) (by decide)]) (fun j hj => a3 j (by omega))
    obtain ⟨v, hv, ev⟩ := a5 n hn
    have hmono : jm_sm (fun k => max (jm_x M0 k) 0) (n + 1) ≤ jm_ps (jm_x M0) := jm_sm_mono (fun k => by omega) (show n + 1 ≤ 8 by omega)
    have hp0 : 0 ≤ jm_sm (fun k => max (jm_x M0 k) 0) n := jm_sm_nn (fun k _ => by omega)
    obtain ⟨d1, d2, d3, d4, d5, d6, d7, d8⟩ := jm_dealF (N0 := S.1) (M0 := T.1) (X := X) (ro := v) (b := jm_bb M0 n) (P := jm_sm (fun k => max (jm_x M0 k) 0) n) (Q := jm_ng (jm_x M0)) hS' hC' hn (by rw [e2, eT]) (by rw [eT, hX0]) (a4 n hn) ev (by omega) (by omega) hp0 (by omega) a6 a7 a8
    refine ⟨?_, fun r h3 h7 => ?_, fun j hj => ?_, fun i hi => ?_, fun i hi => ?_, fun i hi => ?_, ?_, d8⟩
    · show S.2 + _ = T.2 + _
      rw [a1, d1]
    · show (jf_dealF S.1 n).1 r = N0 r
      rw [d2 r h3 h7]; exact a2 r h3 h7
    · show (jk_deal T.1 n).1 1 j = M0 1 j
      rw [d5 j (by omega)]; exact a3 j hj
    · show (jf_dealF S.1 n).1 3 i = (jk_deal T.1 n).1 1 (16 + i)
      rw [d3 i]
      by_cases z : i = n
      · rw [if_pos z, z]
      · rw [if_neg z, d5 _ (by omega)]; exact a4 i hi
    · show ∃ v : Nat, v ≤ 8 ∧ (jk_deal T.1 n).1 1 (16 + i) = nI v
      by_cases z : i = n
      · rw [z]; exact d4
      · rw [d5 _ (by omega)]; exact a5 i hi
    · show (jk_deal T.1 n).1 5 i = _ + (jf_dealF S.1 n).1 7 i
      rw [d6 i hi]
      refine congrArg (fun z : Int32 => z + (jf_dealF S.1 n).1 7 i) ?_
      unfold jm_bb
      by_cases z : i = n
      · subst z
        rw [if_pos rfl, if_neg q, if_neg (show ¬ i < i by omega), if_neg q, if_pos (show i < i + 1 by omega), hX0]
        exact Int32.zero_add _
      · rw [if_neg z]
        by_cases z2 : i < n
        · rw [if_pos z2, if_pos (show i < n + 1 by omega)]
        · rw [if_neg z2, if_neg (show ¬ i < n + 1 by omega)]
    · rw [hsm]
      show jm_ps (jm_y (jk_deal T.1 n).1) ≤ _
      omega
theorem jm_QR_n {N0 M0 : jf_B} (hS : jm_S N0 M0) (hC : jm_co M0) (hD : jm_D N0 M0) (hR : jm_ro M0) (h5 : jm_ps (jm_x M0) ≤ 100000000) (h6 : jm_ng (jm_x M0) ≤ 100000000) : ∀ n, n ≤ 8 → jm_QR N0 M0 n (jf_it jf_deS (N0, nI 0) n) (jk_r1T M0 n)
  | 0, _ => by
    have e1 : ∀ j, (jk_r1T M0 0).1 1 j = M0 1 j := jk_r0T_sp M0 8
    have e5 : ∀ i, i < 8 → (jk_r1T M0 0).1 5 i = if M0 1 (8 + i) ≤ 0 then M0 1 (8 + i) else nI 0 := fun i hi => by
      rw [jk_r1T_0]
      show jk_r0T M0 8 5 i = _
      rw [jm_r0_5 M0 8 i, if_pos hi]
    have ey : ∀ i, i < 8 → jm_y (jk_r1T M0 0).1 i = if jm_x M0 i ≤ 0 then jm_x M0 i else 0 := fun i hi => by
      unfold jm_y jm_x
      rw [e5 i hi]
      by_cases q : M0 1 (8 + i) ≤ 0
      · rw [if_pos q, if_pos (jm_le0.mp q)]
      · rw [if_neg q, if_neg (fun z => q (jm_le0.mpr z))]
        rfl
    refine ⟨rfl, fun _ _ _ => rfl, fun j _ => e1 j, fun i hi => ?_, fun i hi => ?_, fun i hi => ?_, ?_, ?_⟩
    · rw [e1]; exact hD.2.1 i hi
    · rw [e1]; exact hR i hi
    · show (jk_r1T M0 0).1 5 i = jm_bb M0 0 i + N0 7 i
      rw [e5 i hi, hD.2.2.2.2 i hi, Int32.add_zero]
      unfold jm_bb
      by_cases q : M0 1 (8 + i) ≤ 0
      · rw [if_pos q, if_pos q]
      · rw [if_neg q, if_neg q, if_neg (by omega)]
        rfl
    · have : jm_ps (jm_y (jk_r1T M0 0).1) ≤ jm_sm (fun _ => 0) 8 := jm_sm_le (fun k hk => by
        rw [ey k hk]
        split <;> omega)
      have z : jm_sm (fun _ => 0) 8 = 0 := by decide
      show jm_ps (jm_y (jk_r1T M0 0).1) ≤ 0
      omega
    · exact jm_sm_le (fun k hk => by
        rw [ey k hk]
        split <;> omega)
  | n + 1, h => by
    rw [jk_r1T_s]
    exact jm_QR_s hS hC hD.1 h5 h6 (by omega) (jm_QR_n hS hC hD hR h5 h6 n (by omega))
theorem jm_rot {N M : jf_B} (hS : jm_S N M) (hC : jm_co M) (hD : jm_D N M) (hR : jm_ro M) (h5 : jm_ps (jm_x M) ≤ 100000000) (h6 : jm_ng (jm_x M) ≤ 100000000) : (jf_deal N).2 = (jk_rotor M).2 ∧ (∀ r, r ≠ 2 → r ≠ 3 → r ≠ 7 → (jf_deal N).1 r = N r) ∧ (∀ j, j < 8 ∨ 24 ≤ j → (jk_rotor M).1 1 j = M 1 j) ∧ (∀ i, i < 8 → (jf_deal N).1 2 i = (jk_rotor M).1 1 (8 + i)) ∧ (∀ i, i < 8 → (jf_deal N).1 3 i = (jk_rotor M).1 1 (16 + i)) ∧ (∀ i, i < 8 → (jf_deal N).1 7 i = 0) ∧ jm_ro (jk_rotor M).1 ∧ jm_ps (jm_x (jk_rotor M).1) ≤ jm_ps (jm_x M) ∧ jm_ng (jm_x (jk_rotor M).1) ≤ jm_ng (jm_x M) := by
  obtain ⟨a1, a2, a3, a4, a5, a6, a7, a8⟩ := jm_QR_n hS hC hD hR h5 h6 8 (Nat.le_refl 8)
  have exy : ∀ k, k < 8 → jm_x (jk_tn (jk_r1T M 8).1) k = jm_y (jk_r1T M 8).1 k := fun k hk => by
    unfold jm_x jm_y
    rw [jm_tn_j _ hk]
  unfold jf_deal jk_rotor
  dsimp only
  refine ⟨a1, fun r h2 h3 h7 => ?_, fun j hj => ?_, fun i hi => ?_, fun i hi => ?_, fun i hi => ?_, fun i hi => ?_, ?_, ?_⟩
  · rw [jm_settle_r _ h2 h7]; exact a2 r h3 h7
  · rw [jm_tn_o _ (by omega)]; exact a3 j (by omega)
  · rw [jm_settle_2 _ hi, jm_tn_j _ hi, a6 i hi, a2 2 (by decide) (by decide), hD.1 i hi]
    refine congrArg (fun z : Int32 => z + (jf_it jf_deS (N, nI 0) 8).1 7 i) ?_
    unfold jm_bb
    rw [if_pos hi]
    split <;> rfl
  · rw [jm_settle_r _ (by decide) (by decide), jm_tn_o _ (by omega)]; exact a4 i hi
  · rw [jm_settle_7 _ hi]
  · rw [jm_tn_o _ (by omega)]; exact a5 i hi
  · refine Int.le_trans (Int.le_of_eq (jm_sm_c (fun k hk => ?_))) a7
    rw [exy k hk]
  · refine Int.le_trans (Int.le_of_eq (jm_sm_c (fun k hk => ?_))) a8
    rw [exy k hk]
