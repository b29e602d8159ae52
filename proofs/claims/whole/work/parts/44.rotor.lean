/-! ===== ROTOR: both sides ===== -/
theorem jk_edge_c {M M' : jf_B} (h : ∀ j, j < 64 → M' 1 (24 + j) = M 1 (24 + j)) {a c : Nat} (ha : a < 8) (hc : c < 8) : jk_edge M' a c = jk_edge M a c := by
  unfold jk_edge
  rw [h _ (jf_spot_lt ha hc)]
theorem jk_deg_c {M M' : jf_B} (h : ∀ j, j < 64 → M' 1 (24 + j) = M 1 (24 + j)) {a : Nat} (ha : a < 8) : ∀ k, k ≤ 8 → jk_deg M' a k = jk_deg M a k
  | 0, _ => rfl
  | k + 1, hk => by
    unfold jk_deg
    rw [jk_edge_c h ha (show k < 8 by omega), jk_deg_c h ha k (by omega)]
theorem jk_cnt_c {M M' : jf_B} (h : ∀ j, j < 64 → M' 1 (24 + j) = M 1 (24 + j)) : ∀ k, k ≤ 64 → jk_cnt M' k = jk_cnt M k
  | 0, _ => rfl
  | k + 1, hk => by
    unfold jk_cnt
    rw [h k (by omega), jk_cnt_c h k (by omega)]
theorem jk_great_c {M M' : jf_B} (h : ∀ j, j < 64 → M' 1 (24 + j) = M 1 (24 + j)) : ∀ k, k ≤ 64 → jk_great M' k = jk_great M k
  | 0, _ => rfl
  | k + 1, hk => by
    unfold jk_great
    rw [h k (by omega), jk_great_c h k (by omega)]
theorem jk_most_c {M M' : jf_B} (h : ∀ j, j < 64 → M' 1 (24 + j) = M 1 (24 + j)) : ∀ k, k ≤ 8 → jk_most M' k = jk_most M k
  | 0, _ => rfl
  | k + 1, hk => by
    unfold jk_most
    rw [jk_deg_c h (show k < 8 by omega) 8 (by omega), jk_most_c h k (by omega)]
theorem jk_col_c {M M' : jf_B} (h : ∀ j, j < 64 → M' 1 (24 + j) = M 1 (24 + j)) : jk_col M' = jk_col M := by unfold jk_col; rw [jk_great_c h 64 (by omega)]
theorem jk_meas_c {M M' : jf_B} (h : ∀ j, j < 64 → M' 1 (24 + j) = M 1 (24 + j)) : jk_meas M' = jk_meas M := by unfold jk_meas; rw [jk_most_c h 8 (by omega)]
theorem jm_co_c {M M' : jf_B} (h : ∀ j, j < 64 → M' 1 (24 + j) = M 1 (24 + j)) (hC : jm_co M) : jm_co M' := fun j hj => by rw [h j hj]; exact hC j hj
theorem jm_S_of {N N' M M' : jf_B} (hS : jm_S N M) (h1 : N' 1 = N 1) (h5 : N' 5 = N 5) (h4 : N' 4 = N 4) (h0 : N' 0 7 = N 0 7) (hM : ∀ j, j < 8 ∨ (24 ≤ j ∧ j < 88) → M' 1 j = M 1 j) : jm_S N' M' := by
  have hc : ∀ j, j < 64 → M' 1 (24 + j) = M 1 (24 + j) := fun j hj => hM _ (by omega)
  refine ⟨fun i hi => ?_, fun j hj => ?_, fun i hi => ?_, ?_⟩
  · rw [h1, hM i (by omega)]; exact hS.1 i hi
  · rw [h5, hc j hj]; exact hS.2.1 j hj
  · rw [h4, jk_deg_c hc hi 8 (by omega)]; exact hS.2.2.1 i hi
  · rw [h0, jk_cnt_c hc 64 (by omega)]; exact hS.2.2.2
/-- how many jobs a slot gets -/
def jm_G (d X f s : Nat) : Nat := X / (d + 1) + if (s + (d + 1) - f) % (d + 1) < X % (d + 1) then 1 else 0
def jm_gs (d X f : Nat) : Nat → Nat
  | 0 => 0
  | s + 1 => jm_gs d X f s + jm_G d X f s
def jm_ct (m f r : Nat) : Nat → Nat
  | 0 => 0
  | s + 1 => jm_ct m f r s + if (s + m - f) % m < r then 1 else 0
theorem jm_ct_all : ∀ m, m < 10 → ∀ f, f < m → ∀ r, r < m → jm_ct m f r m = r := by decide +kernel
theorem jm_gs_ct (d X f : Nat) : ∀ s, jm_gs d X f s = s * (X / (d + 1)) + jm_ct (d + 1) f (X % (d + 1)) s
  | 0 => by simp [jm_gs, jm_ct]
  | s + 1 => by
    show jm_gs d X f s + jm_G d X f s = (s + 1) * (X / (d + 1)) + (jm_ct (d + 1) f (X % (d + 1)) s + _)
    rw [jm_gs_ct d X f s, Nat.succ_mul]
    unfold jm_G
    omega
theorem jm_gs_all {d X f : Nat} (hd : d ≤ 8) (hf : f ≤ d) : jm_gs d X f (d + 1) = X := by
  rw [jm_gs_ct, jm_ct_all (d + 1) (by omega) f (by omega) (X % (d + 1)) (Nat.mod_lt _ (by omega))]
  exact Nat.div_add_mod X (d + 1)
theorem jm_gs_mono (d X f : Nat) : ∀ {a b : Nat}, a ≤ b → jm_gs d X f a ≤ jm_gs d X f b
  | a, 0, h => by rw [show a = 0 by omega]; exact Nat.le_refl _
  | a, b + 1, h => by
    by_cases q : a = b + 1
    · rw [q]; exact Nat.le_refl _
    · have := jm_gs_mono d X f (a := a) (b := b) (by omega)
      show jm_gs d X f a ≤ jm_gs d X f b + jm_G d X f b
      omega
theorem jm_pm (x y z : Int32) : x - y + z = x + z - y := by
  rw [Int32.sub_eq_add_neg, Int32.sub_eq_add_neg, Int32.add_assoc, Int32.add_comm (-y), ← Int32.add_assoc]
theorem jm_beh {d f s : Nat} (hd : d ≤ 8) (hf : f ≤ d) (hs : s ≤ d) : jf_rem (nI s - nI f + nI (d + 1)) (nI (d + 1)) = nI ((s + (d + 1) - f) % (d + 1)) := by
  unfold jf_rem
  rw [jm_pm, nI_add, pk_sub (by omega), pk_rem (by omega) (by omega) (by omega)]
theorem jm_dfG {d X f s : Nat} (hd : d ≤ 8) (hf : f ≤ d) (hs : s ≤ d) : jf_dfG (nI (d + 1)) (nI (X / (d + 1))) (nI (X % (d + 1))) (nI f) (nI s) = nI (jm_G d X f s) := by
  have h1 := Nat.mod_lt X (show d + 1 > 0 by omega)
  have h2 := Nat.mod_lt (s + (d + 1) - f) (show d + 1 > 0 by omega)
  have hle := nI_leI (a := X % (d + 1)) (b := (s + (d + 1) - f) % (d + 1)) (by omega) (by omega)
  unfold jf_dfG jm_G
  rw [jm_beh hd hf hs]
  by_cases q : (s + (d + 1) - f) % (d + 1) < X % (d + 1)
  · rw [if_pos q, if_neg (fun z => by have := hle.mp z; omega), nI_add]
  · rw [if_neg q, if_pos (hle.mpr (by omega))]
    rfl
theorem jm_dG {d X f s : Nat} (hd : d ≤ 8) (hf : f ≤ d) (hs : s ≤ d) : jk_dG (nI (d + 1)) (nI (X / (d + 1))) (nI (X % (d + 1))) (nI f) (nI s) = nI (jm_G d X f s) := by
  have h1 := Nat.mod_lt X (show d + 1 > 0 by omega)
  have h2 := Nat.mod_lt (s + (d + 1) - f) (show d + 1 > 0 by omega)
  have hle := nI_leI (a := X % (d + 1)) (b := (s + (d + 1) - f) % (d + 1)) (by omega) (by omega)
  unfold jk_dG jm_G
  rw [jm_beh hd hf hs]
  by_cases q : (s + (d + 1) - f) % (d + 1) < X % (d + 1)
  · rw [if_pos q, if_neg (fun z => by have := hle.mp z; omega), nI_add]
  · rw [if_neg q, if_pos (hle.mpr (by omega)), nI_add]
def jm_y (M : jf_B) (k : Nat) : Int := (M 5 k).toInt
/-- how far both have dealt from node n -/
def jm_IR (N0 M0 : jf_B) (n d X f : Nat) (b : Nat → Int32) (P Q : Int) (k : Nat) (S T : jf_B × Int32 × Int32) : Prop :=
  S.2.1 = nI (jk_deg M0 n k) ∧ T.2.2 = nI (jk_deg M0 n k) ∧ S.2.2 = nI (jm_gs d X f (jk_deg M0 n k)) ∧ T.2.1 = nI (jm_gs d X f (jk_deg M0 n k)) ∧ (∀ r, r ≠ 7 → S.1 r = N0 r) ∧ (∀ r, r ≠ 5 → T.1 r = M0 r) ∧ (∀ i, i < 8 → T.1 5 i = b i + S.1 7 i) ∧ jm_ps (jm_y T.1) ≤ P + (jm_gs d X f (jk_deg M0 n k) : Nat) ∧ jm_ng (jm_y T.1) ≤ Q
theorem jm_put5 {M : jf_B} {k : Nat} {g : Nat} {P Q : Int} (hk : k < 8) (hP : jm_ps (jm_y M) ≤ P) (hQ : jm_ng (jm_y M) ≤ Q) (hPb : P + g ≤ 1000000000) (hQb : Q ≤ 1000000000) (hg : g ≤ 1000000000) : jm_ps (jm_y (jf_w M 5 k (M 5 k + nI g))) ≤ P + g ∧ jm_ng (jm_y (jf_w M 5 k (M 5 k + nI g))) ≤ Q := by
  have a := jm_sm_ge (f := fun k => max (jm_y M k) 0) (k := k) (n := 8) (fun k _ => by omega) hk
  have b := jm_sm_ge (f := fun k => max (-(jm_y M k)) 0) (k := k) (n := 8) (fun k _ => by omega) hk
  have hP2 : jm_sm (fun k => max (jm_y M k) 0) 8 ≤ P := hP
  have hQ2 : jm_sm (fun k => max (-(jm_y M k)) 0) 8 ≤ Q := hQ
  have a2 : max (jm_y M k) 0 ≤ P := Int.le_trans a hP2
  have b2 : max (-(jm_y M k)) 0 ≤ Q := Int.le_trans b hQ2
  have e : jm_y (jf_w M 5 k (M 5 k + nI g)) k = jm_y M k + g := by
    unfold jm_y
    rw [jf_w_s]
    unfold jm_y at a2 b2
    rw [jm_add, nI_toInt (by omega)] <;> rw [nI_toInt (by omega)] <;> omega
  have o : ∀ j, j ≠ k → jm_y (jf_w M 5 k (M 5 k + nI g)) j = jm_y M j := by
    intro j hj
    unfold jm_y
    rw [jf_w_n _ _ (fun z => hj z.2)]
  constructor
  · show jm_sm (fun k' => max (jm_y (jf_w M 5 k (M 5 k + nI g)) k') 0) 8 ≤ P + g
    rw [jm_sm_1 (f := fun k => max (jm_y M k) 0) (a := k) (fun j hj => by rw [o j hj]) hk, e]
    omega
  · show jm_sm (fun k' => max (-(jm_y (jf_w M 5 k (M 5 k + nI g)) k')) 0) 8 ≤ Q
    rw [jm_sm_1 (f := fun k => max (-(jm_y M k)) 0) (a := k) (fun j hj => by rw [o j hj]) hk, e]
    omega
theorem jm_IR_s {N0 M0 : jf_B} {n d X f : Nat} {b : Nat → Int32} {P Q : Int} (hS : jm_S N0 M0) (hC : jm_co M0) (hn : n < 8) (hdd : jk_deg M0 n 8 = d) (hf : f ≤ d) (hX : (X : Int) + P ≤ 1000000000) (hP0 : 0 ≤ P) (hQ : Q ≤ 1000000000) {k : Nat} (hk : k < 8) {S T : jf_B × Int32 × Int32} (h : jm_IR N0 M0 n d X f b P Q k S T) :
    jm_IR N0 M0 n d X f b P Q (k + 1) (jf_dfS (nI (d + 1)) (nI (X / (d + 1))) (nI (X % (d + 1))) (nI f) n k S) (jk_dS (nI (d + 1)) (nI (X / (d + 1))) (nI (X % (d + 1))) (nI f) n k T) := by
  obtain ⟨h1, h2, h3, h4, h5, h6, h7, h8, h9⟩ := h
  have hd8 : d ≤ 8 := by have := jk_deg_le M0 n 8; omega
  have eJ : jf_joins S.1 n k = jk_edge M0 n k := by
    rw [← jm_joins hS hC hn hk]
    unfold jf_joins
    rw [h5 5 (by decide)]
  have eE : jk_edge T.1 n k = jk_edge M0 n k := jk_edge_c (fun j _ => by rw [h6 1 (by decide)]) hn hk
  unfold jf_dfS jk_dS
  rw [eJ, eE, if_neg (show ¬ k = 8 by omega)]
  have hdeg : jk_deg M0 n (k + 1) = if jk_edge M0 n k then jk_deg M0 n k + 1 else jk_deg M0 n k + 0 := rfl
  cases q : jk_edge M0 n k with
  | false =>
    rw [q] at hdeg
    have e0 : jk_deg M0 n (k + 1) = jk_deg M0 n k := hdeg
    rw [if_neg (by decide), if_neg (by decide)]
    unfold jm_IR
    rw [e0]
    exact ⟨h1, h2, h3, h4, h5, h6, h7, h8, h9⟩
  | true =>
    rw [q] at hdeg
    have e1 : jk_deg M0 n (k + 1) = jk_deg M0 n k + 1 := hdeg
    have hmono : ∀ m, k + 1 + m ≤ 8 → jk_deg M0 n (k + 1) ≤ jk_deg M0 n (k + 1 + m) := by
      intro m
      induction m with
      | zero => intro _; exact Nat.le_refl _
      | succ m ih =>
        intro hm
        refine Nat.le_trans (ih (by omega)) ?_
        show jk_deg M0 n (k + 1 + m) ≤ jk_deg M0 n (k + 1 + m + 1)
        conv => rhs; unfold jk_deg
        split <;> omega
    have hlt : jk_deg M0 n k + 1 ≤ d := by
      have := hmono (8 - (k + 1)) (by omega)
      rw [show k + 1 + (8 - (k + 1)) = 8 by omega, hdd] at this
      omega
    have hs : jk_deg M0 n k ≤ d := by omega
    have hgs : jm_gs d X f (jk_deg M0 n k + 1) = jm_gs d X f (jk_deg M0 n k) + jm_G d X f (jk_deg M0 n k) := rfl
    have hgX : jm_gs d X f (jk_deg M0 n k + 1) ≤ X := by
      have := jm_gs_mono d X f (a := jk_deg M0 n k + 1) (b := d + 1) (by omega)
      rw [jm_gs_all hd8 hf] at this
      exact this
    rw [if_pos rfl, if_pos rfl]
    have gS : jf_dfG (nI (d + 1)) (nI (X / (d + 1))) (nI (X % (d + 1))) (nI f) S.2.1 = nI (jm_G d X f (jk_deg M0 n k)) := by rw [h1]; exact jm_dfG hd8 hf hs
    have gT : jk_dG (nI (d + 1)) (nI (X / (d + 1))) (nI (X % (d + 1))) (nI f) T.2.2 = nI (jm_G d X f (jk_deg M0 n k)) := by rw [h2]; exact jm_dG hd8 hf hs
    unfold jm_IR
    dsimp only
    rw [gS, gT, e1, hgs]
    have pp := jm_put5 (M := T.1) (k := k) (g := jm_G d X f (jk_deg M0 n k)) hk h8 h9 (by omega) hQ (by omega)
    refine ⟨by rw [h1, nI_add], by rw [h2, nI_add], by rw [h3, nI_add], by rw [h4, nI_add], fun r hr => ?_, fun r hr => ?_, fun i hi => ?_, by omega, pp.2⟩
    · rw [jf_w_r _ _ _ hr]; exact h5 r hr
    · rw [jf_w_r _ _ _ hr]; exact h6 r hr
    · by_cases z : i = k
      · rw [z, jf_w_s, jf_w_s, h7 k hk, Int32.add_assoc]
      · rw [jf_w_n _ _ (fun y => z y.2), jf_w_n _ _ (fun y => z y.2)]
        exact h7 i hi
theorem jm_IR_n {N0 M0 : jf_B} {n d X f : Nat} {b : Nat → Int32} {P Q : Int} (hS : jm_S N0 M0) (hC : jm_co M0) (hn : n < 8) (hdd : jk_deg M0 n 8 = d) (hf : f ≤ d) (hX : (X : Int) + P ≤ 1000000000) (hP0 : 0 ≤ P) (hQ : Q ≤ 1000000000) (h7 : ∀ i, i < 8 → M0 5 i = b i + N0 7 i) (h8 : jm_ps (jm_y M0) ≤ P) (h9 : jm_ng (jm_y M0) ≤ Q) :
    ∀ k, k ≤ 8 → jm_IR N0 M0 n d X f b P Q k (jf_it (jf_dfS (nI (d + 1)) (nI (X / (d + 1))) (nI (X % (d + 1))) (nI f) n) (N0, nI 0, nI 0) k) (jf_it (jk_dS (nI (d + 1)) (nI (X / (d + 1))) (nI (X % (d + 1))) (nI f) n) (M0, nI 0, nI 0) k)
  | 0, _ => ⟨rfl, rfl, rfl, rfl, fun _ _ => rfl, fun _ _ => rfl, h7, by show jm_ps (jm_y M0) ≤ P + (0 : Nat); omega, h9⟩
  | k + 1, hk => jm_IR_s hS hC hn hdd hf hX hP0 hQ (by omega) (jm_IR_n hS hC hn hdd hf hX hP0 hQ h7 h8 h9 k (by omega))
theorem jm_rg1 (b c g o : Int32) : b + c + o = b + (g + o) + (c - g) := by grind
/-- one node deals: both sides -/
theorem jm_dealF {N0 M0 : jf_B} {n X ro : Nat} {b : Nat → Int32} {P Q : Int} (hS : jm_S N0 M0) (hC : jm_co M0) (hn : n < 8) (hx : N0 2 n = M0 1 (8 + n)) (hX0 : M0 1 (8 + n) = nI X) (hr : N0 3 n = M0 1 (16 + n)) (hr0 : M0 1 (16 + n) = nI ro) (hro : ro < 2 ^ 31) (hX : (X : Int) + P ≤ 1000000000) (hP0 : 0 ≤ P) (hQ : Q ≤ 1000000000) (h7 : ∀ i, i < 8 → M0 5 i = b i + N0 7 i) (h8 : jm_ps (jm_y M0) ≤ P) (h9 : jm_ng (jm_y M0) ≤ Q) :
    (jf_dealF N0 n).2 = (jk_deal M0 n).2 ∧ (∀ r, r ≠ 3 → r ≠ 7 → (jf_dealF N0 n).1 r = N0 r) ∧ (∀ i, (jf_dealF N0 n).1 3 i = if i = n then (jk_deal M0 n).1 1 (16 + n) else N0 3 i) ∧ (∃ v : Nat, v ≤ 8 ∧ (jk_deal M0 n).1 1 (16 + n) = nI v) ∧ (∀ j, j ≠ 16 + n → (jk_deal M0 n).1 1 j = M0 1 j) ∧ (∀ i, i < 8 → (jk_deal M0 n).1 5 i = (if i = n then b i + nI X else b i) + (jf_dealF N0 n).1 7 i) ∧ jm_ps (jm_y (jk_deal M0 n).1) ≤ P + X ∧ jm_ng (jm_y (jk_deal M0 n).1) ≤ Q := by
  have hd8 := jk_deg_le M0 n 8
  generalize hdd : jk_deg M0 n 8 = d at hd8
  have hf : ro % (d + 1) ≤ d := by have := Nat.mod_lt ro (show d + 1 > 0 by omega); omega
  have esl : jf_slots N0 n = nI (d + 1) := by rw [jm_slots hS hn, hdd]
  have erl : jk_rlo M0 n = nI (ro % (d + 1)) := by
    unfold jk_rlo
    rw [hr0, hdd]
    exact pk_rem hro (by omega) (by omega)
  have erN : jf_rlo N0 n = nI (ro % (d + 1)) := by rw [jm_rlo hS hn hr, erl]
  have edv : nI X / nI (d + 1) = nI (X / (d + 1)) := pk_div (by omega) (by omega) (by omega)
  have erm : jf_rem (nI X) (nI (d + 1)) = nI (X % (d + 1)) := pk_rem (by omega) (by omega) (by omega)
  have eT : jf_dfT N0 n 8 = jf_it (jf_dfS (nI (d + 1)) (nI (X / (d + 1))) (nI (X % (d + 1))) (nI (ro % (d + 1))) n) (N0, nI 0, nI 0) 8 := by
    unfold jf_dfT
    rw [esl, erN, hx, hX0, edv, erm]
  have eU : ∀ k, jk_dT M0 n k = jf_it (jk_dS (nI (d + 1)) (nI (X / (d + 1))) (nI (X % (d + 1))) (nI (ro % (d + 1))) n) (M0, nI 0, nI 0) k := by
    intro k
    unfold jk_dT
    rw [erl, hX0, hdd, edv, erm]
  have I := jm_IR_n (f := ro % (d + 1)) (b := b) hS hC hn hdd hf hX hP0 hQ h7 h8 h9 8 (Nat.le_refl 8)
  rw [← eT, ← eU 8] at I
  obtain ⟨i1, i2, i3, i4, i5, i6, i7, i8, i9⟩ := I
  rw [hdd] at i1 i2 i3 i4 i8
  have tot : jm_gs d X (ro % (d + 1)) d + jm_G d X (ro % (d + 1)) d = X := jm_gs_all (by omega) hf
  have e9 : jk_dT M0 n 9 = (jf_w (jk_dT M0 n 8).1 5 n ((jk_dT M0 n 8).1 5 n + nI (jm_G d X (ro % (d + 1)) d)), (jk_dT M0 n 8).2.1 + nI 0, (jk_dT M0 n 8).2.2 + nI 1) := by
    rw [jk_dT_s]
    generalize jk_dT M0 n 8 = T at i2 i4 i6 i7 i8 i9 ⊢
    unfold jk_dS
    rw [if_pos rfl, erl, hX0, hdd, edv, erm, i2, jm_dG (by omega) hf (Nat.le_refl d)]
  have pp := jm_put5 (M := (jk_dT M0 n 8).1) (k := n) (g := jm_G d X (ro % (d + 1)) d) hn i8 i9 (by omega) hQ (by omega)
  have e0 : ∀ z : Int32, z + nI 0 = z := Int32.add_zero
  unfold jf_dealF jk_deal
  dsimp only
  rw [e9, esl, erl, erN, hx, hX0, hdd, erm]
  dsimp only
  have hv : jf_rem (nI (ro % (d + 1)) + nI (X % (d + 1))) (nI (d + 1)) = nI ((ro % (d + 1) + X % (d + 1)) % (d + 1)) := by
    have := Nat.mod_lt X (show d + 1 > 0 by omega)
    unfold jf_rem
    rw [nI_add, pk_rem (by omega) (by omega) (by omega)]
  refine ⟨by rw [i3, i4, e0], fun r h3 h7 => ?_, fun i => ?_, ⟨(ro % (d + 1) + X % (d + 1)) % (d + 1), ?_, ?_⟩, fun j hj => ?_, fun i hi => ?_, ?_, ?_⟩
  · rw [jf_w_r _ _ _ h3, jf_w_r _ _ _ h7]; exact i5 r h7
  · by_cases z : i = n
    · rw [if_pos z, z, jf_w_s, jf_w_s]
    · rw [if_neg z, jf_w_n _ _ (fun y => z y.2), jf_w_n _ _ (fun y => absurd y.1 (by decide)), i5 3 (by decide)]
  · have := Nat.mod_lt (ro % (d + 1) + X % (d + 1)) (show d + 1 > 0 by omega)
    omega
  · rw [jf_w_s, hv]
  · rw [jf_w_n _ _ (fun y => hj y.2), jf_w_n _ _ (fun y => absurd y.1 (by decide)), i6 1 (by decide)]
  · rw [jf_w_o (r := 1) (r' := 5) _ _ _ _ (by decide), jf_w_o (r := 3) (r' := 7) _ _ _ _ (by decide)]
    by_cases z : i = n
    · rw [if_pos z, z, jf_w_s, jf_w_s, i7 n hn, i3]
      have hX2 : nI X = nI (jm_gs d X (ro % (d + 1)) d) + nI (jm_G d X (ro % (d + 1)) d) := by rw [nI_add, tot]
      generalize (jf_dfT N0 n 8).1 7 n = c7
      generalize nI (jm_gs d X (ro % (d + 1)) d) = g at hX2 ⊢
      generalize nI (jm_G d X (ro % (d + 1)) d) = o at hX2 ⊢
      rw [hX2]
      exact jm_rg1 _ _ _ _
    · rw [if_neg z, jf_w_n _ _ (fun y => z y.2), jf_w_n _ _ (fun y => z y.2)]
      exact i7 i hi
  · have e5 : jm_y (jf_w (jf_w (jk_dT M0 n 8).1 5 n ((jk_dT M0 n 8).1 5 n + nI (jm_G d X (ro % (d + 1)) d))) 1 (16 + n) (jf_rem (nI (ro % (d + 1)) + nI (X % (d + 1))) (nI (d + 1)))) = jm_y (jf_w (jk_dT M0 n 8).1 5 n ((jk_dT M0 n 8).1 5 n + nI (jm_G d X (ro % (d + 1)) d))) := by
      funext j
      unfold jm_y
      rw [jf_w_n _ _ (fun y => absurd y.1 (by decide))]
    rw [e5]
    have := pp.1
    omega
  · have e5 : jm_y (jf_w (jf_w (jk_dT M0 n 8).1 5 n ((jk_dT M0 n 8).1 5 n + nI (jm_G d X (ro % (d + 1)) d))) 1 (16 + n) (jf_rem (nI (ro % (d + 1)) + nI (X % (d + 1))) (nI (d + 1)))) = jm_y (jf_w (jk_dT M0 n 8).1 5 n ((jk_dT M0 n 8).1 5 n + nI (jm_G d X (ro % (d + 1)) d))) := by
      funext j
      unfold jm_y
      rw [jf_w_n _ _ (fun y => absurd y.1 (by decide))]
    rw [e5]
    exact pp.2
