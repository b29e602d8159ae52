/-! ===== JobSpread, looking ahead; images; the pad's edges ===== -/
def jf_wk (ru : Int32) (W : jf_B) : Nat → jf_B
  | 0 => W
  | i + 1 => (jf_go ru (jf_wk ru W i) 1).1
theorem jf_wk_s (ru : Int32) (W : jf_B) (i : Nat) : jf_wk ru W (i + 1) = (jf_go ru (jf_wk ru W i) 1).1 := rfl
def jf_unt (ru d : Int32) (W : jf_B) : Nat → Nat → Int32 × jf_B
  | 0, i => (-6, jf_wk ru W i)
  | k + 1, i => if jf_even (jf_wk ru W i) d then (nI i, jf_wk ru W i) else jf_unt ru d W k (i + 1)
def jF_until (ru d : Int32) (A N : jf_B) : Int32 × jf_B :=
  if jf_within ru (nI 0) (nI 2) then
    (if jf_within d (nI 0) (nI 99) then jf_unt ru d (jf_become A N) 201 0 else (-2, N))
  else (-2, N)
set_option maxHeartbeats 1000000 in
set_option maxRecDepth 100000 in
theorem jc_X2_until (E : jp_E) (l : Launch) {h : jp_H} {N : jf_B} {L : jf_L} {ru d : Int32} : jc_M E l yX2_until wsX2_until ({ frames := 5, cells := 0, slots := 0, locals := 119 } : Room) [.ref (E.2.1 0 0), .int ru, .int d] (jp_u h 5 N L) (jp_R (some (.int (jF_until ru d (h.1 2) N).1)) (jp_u h 5 (jF_until ru d (h.1 2) N).2 L)) := by
  refine jc_of (cc := cX2_until) (maxL := 4) (ret := some .int) (own := RX2) (lv := [(0, _), (1, _), (2, _)]) (by decide) rfl rfl (Nat.le_of_ble_eq_true rfl) rfl (fun X cx => ?_)
  have inX2 : ∀ w ∈ u_ws RX2 TX2 9, w ∈ wsX2_until := by decide +kernel
  have f19 : Cond.fieldLink RX2 19 "JobSpread" "now" "LJobSpread$Net;" ∈ wsX2_until := by decide +kernel
  have f33 : Cond.fieldLink RX2 33 "JobSpread" "walker" "LJobSpread$Net;" ∈ wsX2_until := by decide +kernel
  refine jg_iload_n cx dX2_until_0 rfl ?_
  refine jg_callSi cx (n := 1) (jc_X2_isRule E l) gX2_until_X2_isRule rfl ⟨rfl, rfl⟩ ⟨(Nat.le_of_ble_eq_true rfl), (Nat.le_of_ble_eq_true rfl)⟩ (by decide +kernel) rfl rfl (Nat.le_of_ble_eq_true rfl) dX2_until_1 ?_
  refine jg_ifb_eq cx (tgt := 17) dX2_until_4 (by decide) (fun c4 => ?_) (fun c4 => ?_)
  · refine jg_bipush cx (v := (-2)) dX2_until_17 (by decide) ?_
    exact jg_iret cx dX2_until_19 (⟨(by first | with_reducible rfl | (simp only [jF_until, c4, ↓reduceIte, Bool.false_eq_true, Bool.true_eq_false, reduceCtorEq, eq_self, if_true, if_false, Bool.not_true, Bool.not_false]; first | done | rfl)), (by first | with_reducible rfl | (simp only [jF_until, c4, ↓reduceIte, Bool.false_eq_true, Bool.true_eq_false, reduceCtorEq, eq_self, if_true, if_false, Bool.not_true, Bool.not_false]; first | done | rfl))⟩)
  · refine jg_iload_n cx dX2_until_7 rfl ?_
    refine jg_iconst cx (v := nI 0) dX2_until_8 (by decide) ?_
    refine jg_bipush cx (v := nI 99) dX2_until_9 (by decide) ?_
    refine jg_callSi cx (n := 3) (jc_X2_isWithin E l) gX2_until_X2_isWithin rfl ⟨rfl, rfl⟩ ⟨(Nat.le_of_ble_eq_true rfl), (Nat.le_of_ble_eq_true rfl)⟩ (by decide +kernel) rfl rfl (Nat.le_of_ble_eq_true rfl) dX2_until_11 ?_
    refine jg_ifb_ne cx (tgt := 20) dX2_until_14 (by decide) (fun c14 => ?_) (fun c14 => ?_)
    · have eF : jF_until ru d (h.1 2) N = jf_unt ru d (jf_become (h.1 2) N) 201 0 := by simp only [jF_until, c4, c14, ↓reduceIte]
      refine jg_aload_n cx dX2_until_20 rfl ?_
      refine jg_get cx jp_js_o rfl inX2 5 (by decide) f33 rfl dX2_until_21 ?_
      refine jg_aload_n cx dX2_until_24 rfl ?_
      refine jg_get cx jp_js_o rfl inX2 1 (by decide) f19 rfl dX2_until_25 ?_
      refine jg_callVNv cx (n := 1) (jc_X0_become E l jp_net5 jp_net2 (by decide)) gX2_until_X0_become_n173 (by decide +kernel) (by decide +kernel) (by decide +kernel) (by decide +kernel) rfl ⟨rfl, rfl⟩ ⟨(Nat.le_of_ble_eq_true rfl), (Nat.le_of_ble_eq_true rfl)⟩ (by decide +kernel) (jp_net_o jp_net5) rfl rfl rfl (Nat.le_of_ble_eq_true rfl) dX2_until_28 ?_
      refine jg_iconst cx (v := nI 0) dX2_until_31 (by decide) ?_
      refine jg_istore_n cx (lv' := [(0, _), (1, _), (2, _), (3, _)]) dX2_until_32 (by decide) rfl ?_
      have lp33 : ∀ (d33 i : Nat), i + d33 = 201 → (jf_unt ru d (jf_become (h.1 2) N) d33 i = (jF_until ru d (h.1 2) N)) → X 33 [(0, .ref (E.2.1 0 0)), (1, .int ru), (2, .int d), (3, .int (nI i))] [] (jp_u h 5 (jf_wk ru (jf_become (h.1 2) N) i) L) := by
        intro d33
        induction d33 with
        | zero =>
          intro i  hr33 hq
          refine jg_iload_n cx dX2_until_33 rfl ?_
          refine jg_sipush cx (v := nI 200) dX2_until_34 (by decide) ?_
          refine jg_icmpN_gt cx (tgt := 69) dX2_until_37 (by decide) (by omega) (by omega) (fun c37 => ?_) (fun c37 => ?_)
          · refine jg_bipush cx (v := (-6)) dX2_until_69 (by decide) ?_
            exact jg_iret cx dX2_until_71 (⟨by rw [← hq]; simp only [jf_unt], by rw [← hq]; simp only [jf_unt]⟩)
          · exact absurd hr33 (by omega)
        | succ d33 ih33 =>
          intro i  hr33 hq
          refine jg_iload_n cx dX2_until_33 rfl ?_
          refine jg_sipush cx (v := nI 200) dX2_until_34 (by decide) ?_
          refine jg_icmpN_gt cx (tgt := 69) dX2_until_37 (by decide) (by omega) (by omega) (fun c37 => ?_) (fun c37 => ?_)
          · exact absurd hr33 (by omega)
          · refine jg_aload_n cx dX2_until_40 rfl ?_
            refine jg_get cx jp_js_o rfl inX2 5 (by decide) f33 rfl dX2_until_41 ?_
            refine jg_iload_n cx dX2_until_44 rfl ?_
            refine jg_callVNi cx (n := 1) (jc_X0_isUnevenAtMost E l jp_net5) gX2_until_X0_isUnevenAtMost_n177 (by decide +kernel) (by decide +kernel) (by decide +kernel) (by decide +kernel) rfl ⟨rfl, rfl⟩ ⟨(Nat.le_of_ble_eq_true rfl), (Nat.le_of_ble_eq_true rfl)⟩ (by decide +kernel) (jp_net_o jp_net5) rfl rfl rfl (Nat.le_of_ble_eq_true rfl) dX2_until_45 ?_
            refine jg_ifb_eq cx (tgt := 53) dX2_until_48 (by decide) (fun c48 => ?_) (fun c48 => ?_)
            · refine jg_aload_n cx dX2_until_53 rfl ?_
              refine jg_get cx jp_js_o rfl inX2 5 (by decide) f33 rfl dX2_until_54 ?_
              refine jg_iload_n cx dX2_until_57 rfl ?_
              refine jg_iconst cx (v := nI 1) dX2_until_58 (by decide) ?_
              refine jg_callVNi cx (n := 2) (jc_X0_goOn E l jp_net5 (by decide)) gX2_until_X0_goOn_n119 (by decide +kernel) (by decide +kernel) (by decide +kernel) (by decide +kernel) rfl ⟨rfl, rfl⟩ ⟨(Nat.le_of_ble_eq_true rfl), (Nat.le_of_ble_eq_true rfl)⟩ (by decide +kernel) (jp_net_o jp_net5) rfl rfl rfl (Nat.le_of_ble_eq_true rfl) dX2_until_59 ?_
              refine jg_pop cx dX2_until_62 rfl ?_
              refine jg_iincN cx (d := 1) (lv' := [(0, _), (1, _), (2, _), (3, _)]) dX2_until_63 rfl (by decide) (by decide) rfl ?_
              refine jg_goto cx (tgt := 33) dX2_until_66 (by decide) ?_
              exact jg_to (ih33 (i + 1)  (by omega) (by rw [← hq]; simp only [jf_unt, c48, ↓reduceIte, Bool.false_eq_true])) rfl rfl rfl
            · refine jg_iload_n cx dX2_until_51 rfl ?_
              exact jg_iret cx dX2_until_52 (⟨by rw [← hq]; simp only [jf_unt, c48, ↓reduceIte], by rw [← hq]; simp only [jf_unt, c48, ↓reduceIte]⟩)
      exact jg_to (lp33 201 0  (by omega) eF.symm) rfl rfl rfl
    · refine jg_bipush cx (v := (-2)) dX2_until_17 (by decide) ?_
      exact jg_iret cx dX2_until_19 (⟨(by first | with_reducible rfl | (simp only [jF_until, c4, c14, ↓reduceIte, Bool.false_eq_true, Bool.true_eq_false, reduceCtorEq, eq_self, if_true, if_false, Bool.not_true, Bool.not_false]; first | done | rfl)), (by first | with_reducible rfl | (simp only [jF_until, c4, c14, ↓reduceIte, Bool.false_eq_true, Bool.true_eq_false, reduceCtorEq, eq_self, if_true, if_false, Bool.not_true, Bool.not_false]; first | done | rfl))⟩)
def jp_v (h : jp_H) (N : jf_B) (L : jf_L) (M : jf_B) (K : jf_L) : jp_H := jp_u (jp_u h 6 M K) 5 N L
theorem jp_v_c (h : jp_H) (N : jf_B) (L : jf_L) (M : jf_B) (K : jf_L) : jp_v h N L M K = jp_u (jp_u h 5 N L) 6 M K := by
  unfold jp_v jp_u
  refine Prod.ext ?_ ?_ <;> funext j <;> simp only [va_up] <;> by_cases q5 : j = 5 <;> by_cases q6 : j = 6 <;> simp_all
theorem jp_v_2 (h : jp_H) (N : jf_B) (L : jf_L) (M : jf_B) (K : jf_L) : (jp_v h N L M K).1 2 = h.1 2 := by unfold jp_v; rw [jp_u_n1 _ _ _ (by decide), jp_u_n1 _ _ _ (by decide)]
theorem jp_v_5 (h : jp_H) (N : jf_B) (L : jf_L) (M : jf_B) (K : jf_L) : (jp_v h N L M K).1 5 = N := by unfold jp_v; rw [jp_u_1]
theorem jp_v_6 (h : jp_H) (N : jf_B) (L : jf_L) (M : jf_B) (K : jf_L) : (jp_v h N L M K).1 6 = M := by unfold jp_v; rw [jp_u_n1 _ _ _ (by decide), jp_u_1]
theorem jp_v_self (h : jp_H) : jp_v h (h.1 5) (h.2 5) (h.1 6) (h.2 6) = h := by
  unfold jp_v
  rw [jp_u_self h 6, jp_u_self h 5]
theorem jc_become_52 (E : jp_E) (l : Launch) {h : jp_H} {N M : jf_B} {L K : jf_L} : jc_M E l yX0_become wsX0_become ({ frames := 1, cells := 0, slots := 0, locals := 40 } : Room) [.ref (E.2.1 5 0), .ref (E.2.1 2 0)] (jp_v h N L M K) (jp_R none (jp_v h (jf_become (h.1 2) N) L M K)) := by
  have t9 := jc_X0_become E l (h := jp_u h 6 M K) (N := N) (L := L) jp_net5 jp_net2 (by decide)
  rw [jp_u_n1 _ _ _ (by decide)] at t9
  exact t9
theorem jc_become_62 (E : jp_E) (l : Launch) {h : jp_H} {N M : jf_B} {L K : jf_L} : jc_M E l yX0_become wsX0_become ({ frames := 1, cells := 0, slots := 0, locals := 40 } : Room) [.ref (E.2.1 6 0), .ref (E.2.1 2 0)] (jp_v h N L M K) (jp_R none (jp_v h N L (jf_become (h.1 2) M) K)) := by
  have t9 := jc_X0_become E l (h := jp_u h 5 N L) (N := M) (L := K) jp_net6 jp_net2 (by decide)
  rw [jp_u_n1 _ _ _ (by decide), ← jp_v_c, ← jp_v_c] at t9
  exact t9
theorem jc_become_65 (E : jp_E) (l : Launch) {h : jp_H} {N M : jf_B} {L K : jf_L} : jc_M E l yX0_become wsX0_become ({ frames := 1, cells := 0, slots := 0, locals := 40 } : Room) [.ref (E.2.1 6 0), .ref (E.2.1 5 0)] (jp_v h N L M K) (jp_R none (jp_v h N L (jf_become N M) K)) := by
  have t9 := jc_X0_become E l (h := jp_u h 5 N L) (N := M) (L := K) jp_net6 jp_net5 (by decide)
  rw [jp_u_1, ← jp_v_c, ← jp_v_c] at t9
  exact t9
theorem jc_goOn_5 (E : jp_E) (l : Launch) {h : jp_H} {N M : jf_B} {L K : jf_L} {ru : Int32} {k : Nat} (hk : k < 2 ^ 31) : jc_M E l yX0_goOn wsX0_goOn ({ frames := 4, cells := 0, slots := 0, locals := 95 } : Room) [.ref (E.2.1 5 0), .int ru, .int (nI k)] (jp_v h N L M K) (jp_R (some (.int (jf_go ru N k).2)) (jp_v h (jf_go ru N k).1 L M K)) := jc_X0_goOn E l jp_net5 hk
theorem jc_goOn_6 (E : jp_E) (l : Launch) {h : jp_H} {N M : jf_B} {L K : jf_L} {ru : Int32} {k : Nat} (hk : k < 2 ^ 31) : jc_M E l yX0_goOn wsX0_goOn ({ frames := 4, cells := 0, slots := 0, locals := 95 } : Room) [.ref (E.2.1 6 0), .int ru, .int (nI k)] (jp_v h N L M K) (jp_R (some (.int (jf_go ru M k).2)) (jp_v h N L (jf_go ru M k).1 K)) := by
  have t9 := jc_X0_goOn E l (h := jp_u h 5 N L) (N := M) (L := K) (ru := ru) jp_net6 hk
  rw [← jp_v_c, ← jp_v_c] at t9
  exact t9
theorem jc_isAlike_56 (E : jp_E) (l : Launch) {h : jp_H} {N M : jf_B} {L K : jf_L} : jc_M E l yX0_isAlike wsX0_isAlike ({ frames := 2, cells := 0, slots := 0, locals := 43 } : Room) [.ref (E.2.1 5 0), .ref (E.2.1 6 0)] (jp_v h N L M K) (jp_R (some (.int (jp_b (jf_alike N M)))) (jp_v h N L M K)) := by
  have t9 := jc_X0_isAlike E l (h := jp_v h N L M K) jp_net5 jp_net6
  rw [jp_v_5, jp_v_6] at t9
  exact t9
def jf_rl (ru : Int32) (A B : jf_B) : Nat → Nat → Int32 × jf_B
  | 0, i => (-6, jf_wk ru A i)
  | k + 1, i => if jf_alike (jf_wk ru A (i + 1)) B then (nI (i + 1), jf_wk ru A (i + 1)) else jf_rl ru A B k (i + 1)
def jf_rlA (ru : Int32) (C N : jf_B) : jf_B := (jf_go ru (jf_become C N) 300).1
def jf_ringL (ru : Int32) (C N M : jf_B) : Int32 × jf_B := jf_rl ru (jf_rlA ru C N) (jf_become (jf_rlA ru C N) M) 300 0
set_option maxHeartbeats 1000000 in
set_option maxRecDepth 100000 in
theorem jc_X2_ringLength (E : jp_E) (l : Launch) {h : jp_H} {N M : jf_B} {L K : jf_L} {ru : Int32} : jc_M E l yX2_ringLength wsX2_ringLength ({ frames := 5, cells := 0, slots := 0, locals := 119 } : Room) [.ref (E.2.1 0 0), .int ru] (jp_v h N L M K) (jp_R (some (.int (jf_ringL ru (h.1 2) N M).1)) (jp_v h (jf_ringL ru (h.1 2) N M).2 L (jf_become (jf_rlA ru (h.1 2) N) M) K)) := by
  refine jc_of (cc := cX2_ringLength) (maxL := 3) (ret := some .int) (own := RX2) (lv := [(0, _), (1, _)]) (by decide) rfl rfl (Nat.le_of_ble_eq_true rfl) rfl (fun X cx => ?_)
  have inX2 : ∀ w ∈ u_ws RX2 TX2 9, w ∈ wsX2_ringLength := by decide +kernel
  have f19 : Cond.fieldLink RX2 19 "JobSpread" "now" "LJobSpread$Net;" ∈ wsX2_ringLength := by decide +kernel
  have f33 : Cond.fieldLink RX2 33 "JobSpread" "walker" "LJobSpread$Net;" ∈ wsX2_ringLength := by decide +kernel
  have f36 : Cond.fieldLink RX2 36 "JobSpread" "marker" "LJobSpread$Net;" ∈ wsX2_ringLength := by decide +kernel
  refine jg_aload_n cx dX2_ringLength_0 rfl ?_
  refine jg_get cx jp_js_o rfl inX2 5 (by decide) f33 rfl dX2_ringLength_1 ?_
  refine jg_aload_n cx dX2_ringLength_4 rfl ?_
  refine jg_get cx jp_js_o rfl inX2 1 (by decide) f19 rfl dX2_ringLength_5 ?_
  refine jg_callVNv cx (n := 1) (jc_become_52 E l) gX2_ringLength_X0_become_n173 (by decide +kernel) (by decide +kernel) (by decide +kernel) (by decide +kernel) rfl ⟨rfl, rfl⟩ ⟨(Nat.le_of_ble_eq_true rfl), (Nat.le_of_ble_eq_true rfl)⟩ (by decide +kernel) (jp_net_o jp_net5) rfl rfl rfl (Nat.le_of_ble_eq_true rfl) dX2_ringLength_8 ?_
  refine jg_aload_n cx dX2_ringLength_11 rfl ?_
  refine jg_get cx jp_js_o rfl inX2 5 (by decide) f33 rfl dX2_ringLength_12 ?_
  refine jg_iload_n cx dX2_ringLength_15 rfl ?_
  refine jg_sipush cx (v := nI 300) dX2_ringLength_16 (by decide) ?_
  refine jg_callVNi cx (n := 2) (jc_goOn_5 E l (by decide)) gX2_ringLength_X0_goOn_n119 (by decide +kernel) (by decide +kernel) (by decide +kernel) (by decide +kernel) rfl ⟨rfl, rfl⟩ ⟨(Nat.le_of_ble_eq_true rfl), (Nat.le_of_ble_eq_true rfl)⟩ (by decide +kernel) (jp_net_o jp_net5) rfl rfl rfl (Nat.le_of_ble_eq_true rfl) dX2_ringLength_19 ?_
  refine jg_pop cx dX2_ringLength_22 rfl ?_
  refine jg_aload_n cx dX2_ringLength_23 rfl ?_
  refine jg_get cx jp_js_o rfl inX2 6 (by decide) f36 rfl dX2_ringLength_24 ?_
  refine jg_aload_n cx dX2_ringLength_27 rfl ?_
  refine jg_get cx jp_js_o rfl inX2 5 (by decide) f33 rfl dX2_ringLength_28 ?_
  refine jg_callVNv cx (n := 1) (jc_become_65 E l) gX2_ringLength_X0_become_n173 (by decide +kernel) (by decide +kernel) (by decide +kernel) (by decide +kernel) rfl ⟨rfl, rfl⟩ ⟨(Nat.le_of_ble_eq_true rfl), (Nat.le_of_ble_eq_true rfl)⟩ (by decide +kernel) (jp_net_o jp_net6) rfl rfl rfl (Nat.le_of_ble_eq_true rfl) dX2_ringLength_31 ?_
  refine jg_iconst cx (v := nI 1) dX2_ringLength_34 (by decide) ?_
  refine jg_istore_n cx (lv' := [(0, _), (1, _), (2, _)]) dX2_ringLength_35 (by decide) rfl ?_
  have lp36 : ∀ (d36 i : Nat), i + d36 = 300 → (jf_rl ru (jf_rlA ru (h.1 2) N) (jf_become (jf_rlA ru (h.1 2) N) M) d36 i = (jf_ringL ru (h.1 2) N M)) → X 36 [(0, .ref (E.2.1 0 0)), (1, .int ru), (2, .int (nI (i + 1)))] [] (jp_v h (jf_wk ru (jf_rlA ru (h.1 2) N) i) L (jf_become (jf_rlA ru (h.1 2) N) M) K) := by
    intro d36
    induction d36 with
    | zero =>
      intro i  hr36 hq
      refine jg_iload_n cx dX2_ringLength_36 rfl ?_
      refine jg_sipush cx (v := nI 300) dX2_ringLength_37 (by decide) ?_
      refine jg_icmpN_gt cx (tgt := 75) dX2_ringLength_40 (by decide) (by omega) (by omega) (fun c40 => ?_) (fun c40 => ?_)
      · refine jg_bipush cx (v := (-6)) dX2_ringLength_75 (by decide) ?_
        exact jg_iret cx dX2_ringLength_77 (⟨by rw [← hq]; simp only [jf_rl], by rw [← hq]; simp only [jf_rl]⟩)
      · exact absurd hr36 (by omega)
    | succ d36 ih36 =>
      intro i  hr36 hq
      refine jg_iload_n cx dX2_ringLength_36 rfl ?_
      refine jg_sipush cx (v := nI 300) dX2_ringLength_37 (by decide) ?_
      refine jg_icmpN_gt cx (tgt := 75) dX2_ringLength_40 (by decide) (by omega) (by omega) (fun c40 => ?_) (fun c40 => ?_)
      · exact absurd hr36 (by omega)
      · refine jg_aload_n cx dX2_ringLength_43 rfl ?_
        refine jg_get cx jp_js_o rfl inX2 5 (by decide) f33 rfl dX2_ringLength_44 ?_
        refine jg_iload_n cx dX2_ringLength_47 rfl ?_
        refine jg_iconst cx (v := nI 1) dX2_ringLength_48 (by decide) ?_
        refine jg_callVNi cx (n := 2) (jc_goOn_5 E l (by decide)) gX2_ringLength_X0_goOn_n119 (by decide +kernel) (by decide +kernel) (by decide +kernel) (by decide +kernel) rfl ⟨rfl, rfl⟩ ⟨(Nat.le_of_ble_eq_true rfl), (Nat.le_of_ble_eq_true rfl)⟩ (by decide +kernel) (jp_net_o jp_net5) rfl rfl rfl (Nat.le_of_ble_eq_true rfl) dX2_ringLength_49 ?_
        refine jg_pop cx dX2_ringLength_52 rfl ?_
        rw [← jf_wk_s]
        refine jg_aload_n cx dX2_ringLength_53 rfl ?_
        refine jg_get cx jp_js_o rfl inX2 5 (by decide) f33 rfl dX2_ringLength_54 ?_
        refine jg_aload_n cx dX2_ringLength_57 rfl ?_
        refine jg_get cx jp_js_o rfl inX2 6 (by decide) f36 rfl dX2_ringLength_58 ?_
        refine jg_callVNi cx (n := 1) (jc_isAlike_56 E l) gX2_ringLength_X0_isAlike_n186 (by decide +kernel) (by decide +kernel) (by decide +kernel) (by decide +kernel) rfl ⟨rfl, rfl⟩ ⟨(Nat.le_of_ble_eq_true rfl), (Nat.le_of_ble_eq_true rfl)⟩ (by decide +kernel) (jp_net_o jp_net5) rfl rfl rfl (Nat.le_of_ble_eq_true rfl) dX2_ringLength_61 ?_
        refine jg_ifb_eq cx (tgt := 69) dX2_ringLength_64 (by decide) (fun c64 => ?_) (fun c64 => ?_)
        · refine jg_iincN cx (d := 1) (lv' := [(0, _), (1, _), (2, _)]) dX2_ringLength_69 rfl (by decide) (by decide) rfl ?_
          refine jg_goto cx (tgt := 36) dX2_ringLength_72 (by decide) ?_
          exact jg_to (ih36 (i + 1)  (by omega) (by rw [← hq]; simp only [jf_rl, c64, ↓reduceIte, Bool.false_eq_true])) rfl rfl rfl
        · refine jg_iload_n cx dX2_ringLength_67 rfl ?_
          exact jg_iret cx dX2_ringLength_68 (⟨by rw [← hq]; simp only [jf_rl, c64, ↓reduceIte], by rw [← hq]; simp only [jf_rl, c64, ↓reduceIte]⟩)
  exact jg_to (lp36 300 0  (by omega) rfl) rfl rfl rfl
def jf_rs (ru : Int32) (A B : jf_B) : Nat → Nat → Int32 × jf_B × jf_B
  | 0, i => (-6, jf_wk ru A i, jf_wk ru B i)
  | k + 1, i => if jf_alike (jf_wk ru A i) (jf_wk ru B i) then (nI i, jf_wk ru A i, jf_wk ru B i) else jf_rs ru A B k (i + 1)
def jf_ringS (ru : Int32) (p : Nat) (C N M : jf_B) : Int32 × jf_B × jf_B := jf_rs ru (jf_go ru (jf_become C N) p).1 (jf_become C M) (301 - p) 0
set_option maxHeartbeats 1000000 in
set_option maxRecDepth 100000 in
theorem jc_X2_ringStart (E : jp_E) (l : Launch) {h : jp_H} {N M : jf_B} {L K : jf_L} {ru : Int32} {p : Nat} (hp : p ≤ 300) : jc_M E l yX2_ringStart wsX2_ringStart ({ frames := 5, cells := 0, slots := 0, locals := 119 } : Room) [.ref (E.2.1 0 0), .int ru, .int (nI p)] (jp_v h N L M K) (jp_R (some (.int (jf_ringS ru p (h.1 2) N M).1)) (jp_v h (jf_ringS ru p (h.1 2) N M).2.1 L (jf_ringS ru p (h.1 2) N M).2.2 K)) := by
  refine jc_of (cc := cX2_ringStart) (maxL := 4) (ret := some .int) (own := RX2) (lv := [(0, _), (1, _), (2, _)]) (by decide) rfl rfl (Nat.le_of_ble_eq_true rfl) rfl (fun X cx => ?_)
  have inX2 : ∀ w ∈ u_ws RX2 TX2 9, w ∈ wsX2_ringStart := by decide +kernel
  have f19 : Cond.fieldLink RX2 19 "JobSpread" "now" "LJobSpread$Net;" ∈ wsX2_ringStart := by decide +kernel
  have f33 : Cond.fieldLink RX2 33 "JobSpread" "walker" "LJobSpread$Net;" ∈ wsX2_ringStart := by decide +kernel
  have f36 : Cond.fieldLink RX2 36 "JobSpread" "marker" "LJobSpread$Net;" ∈ wsX2_ringStart := by decide +kernel
  refine jg_aload_n cx dX2_ringStart_0 rfl ?_
  refine jg_get cx jp_js_o rfl inX2 6 (by decide) f36 rfl dX2_ringStart_1 ?_
  refine jg_aload_n cx dX2_ringStart_4 rfl ?_
  refine jg_get cx jp_js_o rfl inX2 1 (by decide) f19 rfl dX2_ringStart_5 ?_
  refine jg_callVNv cx (n := 1) (jc_become_62 E l) gX2_ringStart_X0_become_n173 (by decide +kernel) (by decide +kernel) (by decide +kernel) (by decide +kernel) rfl ⟨rfl, rfl⟩ ⟨(Nat.le_of_ble_eq_true rfl), (Nat.le_of_ble_eq_true rfl)⟩ (by decide +kernel) (jp_net_o jp_net6) rfl rfl rfl (Nat.le_of_ble_eq_true rfl) dX2_ringStart_8 ?_
  refine jg_aload_n cx dX2_ringStart_11 rfl ?_
  refine jg_get cx jp_js_o rfl inX2 5 (by decide) f33 rfl dX2_ringStart_12 ?_
  refine jg_aload_n cx dX2_ringStart_15 rfl ?_
  refine jg_get cx jp_js_o rfl inX2 1 (by decide) f19 rfl dX2_ringStart_16 ?_
  refine jg_callVNv cx (n := 1) (jc_become_52 E l) gX2_ringStart_X0_become_n173 (by decide +kernel) (by decide +kernel) (by decide +kernel) (by decide +kernel) rfl ⟨rfl, rfl⟩ ⟨(Nat.le_of_ble_eq_true rfl), (Nat.le_of_ble_eq_true rfl)⟩ (by decide +kernel) (jp_net_o jp_net5) rfl rfl rfl (Nat.le_of_ble_eq_true rfl) dX2_ringStart_19 ?_
  refine jg_aload_n cx dX2_ringStart_22 rfl ?_
  refine jg_get cx jp_js_o rfl inX2 5 (by decide) f33 rfl dX2_ringStart_23 ?_
  refine jg_iload_n cx dX2_ringStart_26 rfl ?_
  refine jg_iload_n cx dX2_ringStart_27 rfl ?_
  refine jg_callVNi cx (n := 2) (jc_goOn_5 E l (by omega)) gX2_ringStart_X0_goOn_n119 (by decide +kernel) (by decide +kernel) (by decide +kernel) (by decide +kernel) rfl ⟨rfl, rfl⟩ ⟨(Nat.le_of_ble_eq_true rfl), (Nat.le_of_ble_eq_true rfl)⟩ (by decide +kernel) (jp_net_o jp_net5) rfl rfl rfl (Nat.le_of_ble_eq_true rfl) dX2_ringStart_28 ?_
  refine jg_pop cx dX2_ringStart_31 rfl ?_
  refine jg_iconst cx (v := nI 0) dX2_ringStart_32 (by decide) ?_
  refine jg_istore_n cx (lv' := [(0, _), (1, _), (2, _), (3, _)]) dX2_ringStart_33 (by decide) rfl ?_
  have lp34 : ∀ (d34 i : Nat), i + d34 = 301 - p → (jf_rs ru (jf_go ru (jf_become (h.1 2) N) p).1 (jf_become (h.1 2) M) d34 i = (jf_ringS ru p (h.1 2) N M)) → X 34 [(0, .ref (E.2.1 0 0)), (1, .int ru), (2, .int (nI p)), (3, .int (nI i))] [] (jp_v h (jf_wk ru (jf_go ru (jf_become (h.1 2) N) p).1 i) L (jf_wk ru (jf_become (h.1 2) M) i) K) := by
    intro d34
    induction d34 with
    | zero =>
      intro i  hr34 hq
      refine jg_iload_n cx dX2_ringStart_34 rfl ?_
      refine jg_iload_n cx dX2_ringStart_35 rfl ?_
      refine jg_iaddN cx dX2_ringStart_36 ?_
      refine jg_sipush cx (v := nI 300) dX2_ringStart_37 (by decide) ?_
      refine jg_icmpN_gt cx (tgt := 85) dX2_ringStart_40 (by decide) (by omega) (by omega) (fun c40 => ?_) (fun c40 => ?_)
      · refine jg_bipush cx (v := (-6)) dX2_ringStart_85 (by decide) ?_
        exact jg_iret cx dX2_ringStart_87 (⟨by rw [← hq]; simp only [jf_rs], by rw [← hq]; simp only [jf_rs]⟩)
      · exact absurd hr34 (by omega)
    | succ d34 ih34 =>
      intro i  hr34 hq
      refine jg_iload_n cx dX2_ringStart_34 rfl ?_
      refine jg_iload_n cx dX2_ringStart_35 rfl ?_
      refine jg_iaddN cx dX2_ringStart_36 ?_
      refine jg_sipush cx (v := nI 300) dX2_ringStart_37 (by decide) ?_
      refine jg_icmpN_gt cx (tgt := 85) dX2_ringStart_40 (by decide) (by omega) (by omega) (fun c40 => ?_) (fun c40 => ?_)
      · exact absurd hr34 (by omega)
      · refine jg_aload_n cx dX2_ringStart_43 rfl ?_
        refine jg_get cx jp_js_o rfl inX2 5 (by decide) f33 rfl dX2_ringStart_44 ?_
        refine jg_aload_n cx dX2_ringStart_47 rfl ?_
        refine jg_get cx jp_js_o rfl inX2 6 (by decide) f36 rfl dX2_ringStart_48 ?_
        refine jg_callVNi cx (n := 1) (jc_isAlike_56 E l) gX2_ringStart_X0_isAlike_n186 (by decide +kernel) (by decide +kernel) (by decide +kernel) (by decide +kernel) rfl ⟨rfl, rfl⟩ ⟨(Nat.le_of_ble_eq_true rfl), (Nat.le_of_ble_eq_true rfl)⟩ (by decide +kernel) (jp_net_o jp_net5) rfl rfl rfl (Nat.le_of_ble_eq_true rfl) dX2_ringStart_51 ?_
        refine jg_ifb_eq cx (tgt := 59) dX2_ringStart_54 (by decide) (fun c54 => ?_) (fun c54 => ?_)
        · refine jg_aload_n cx dX2_ringStart_59 rfl ?_
          refine jg_get cx jp_js_o rfl inX2 5 (by decide) f33 rfl dX2_ringStart_60 ?_
          refine jg_iload_n cx dX2_ringStart_63 rfl ?_
          refine jg_iconst cx (v := nI 1) dX2_ringStart_64 (by decide) ?_
          refine jg_callVNi cx (n := 2) (jc_goOn_5 E l (by decide)) gX2_ringStart_X0_goOn_n119 (by decide +kernel) (by decide +kernel) (by decide +kernel) (by decide +kernel) rfl ⟨rfl, rfl⟩ ⟨(Nat.le_of_ble_eq_true rfl), (Nat.le_of_ble_eq_true rfl)⟩ (by decide +kernel) (jp_net_o jp_net5) rfl rfl rfl (Nat.le_of_ble_eq_true rfl) dX2_ringStart_65 ?_
          refine jg_pop cx dX2_ringStart_68 rfl ?_
          refine jg_aload_n cx dX2_ringStart_69 rfl ?_
          refine jg_get cx jp_js_o rfl inX2 6 (by decide) f36 rfl dX2_ringStart_70 ?_
          refine jg_iload_n cx dX2_ringStart_73 rfl ?_
          refine jg_iconst cx (v := nI 1) dX2_ringStart_74 (by decide) ?_
          refine jg_callVNi cx (n := 2) (jc_goOn_6 E l (by decide)) gX2_ringStart_X0_goOn_n119 (by decide +kernel) (by decide +kernel) (by decide +kernel) (by decide +kernel) rfl ⟨rfl, rfl⟩ ⟨(Nat.le_of_ble_eq_true rfl), (Nat.le_of_ble_eq_true rfl)⟩ (by decide +kernel) (jp_net_o jp_net6) rfl rfl rfl (Nat.le_of_ble_eq_true rfl) dX2_ringStart_75 ?_
          refine jg_pop cx dX2_ringStart_78 rfl ?_
          refine jg_iincN cx (d := 1) (lv' := [(0, _), (1, _), (2, _), (3, _)]) dX2_ringStart_79 rfl (by decide) (by decide) rfl ?_
          refine jg_goto cx (tgt := 34) dX2_ringStart_82 (by decide) ?_
          exact jg_to (ih34 (i + 1)  (by omega) (by rw [← hq]; simp only [jf_rs, c54, ↓reduceIte, Bool.false_eq_true])) rfl rfl rfl
        · refine jg_iload_n cx dX2_ringStart_57 rfl ?_
          exact jg_iret cx dX2_ringStart_58 (⟨by rw [← hq]; simp only [jf_rs, c54, ↓reduceIte], by rw [← hq]; simp only [jf_rs, c54, ↓reduceIte]⟩)
  exact jg_to (lp34 (301 - p) 0  (by omega) rfl) rfl rfl rfl
theorem jf_rl_of {ru : Int32} {A B : jf_B} : ∀ {k i : Nat}, i + k < 2 ^ 31 → ¬ (jf_rl ru A B k i).1 = -6 → ∃ p, i < p ∧ p ≤ i + k ∧ (jf_rl ru A B k i).1 = nI p
  | 0, i, _, h => absurd rfl h
  | k + 1, i, hb, h => by
    unfold jf_rl at h ⊢
    split at h
    · next c => rw [if_pos c]; exact ⟨i + 1, by omega, by omega, rfl⟩
    · next c =>
      rw [if_neg c]
      obtain ⟨p, h1, h2, h3⟩ := jf_rl_of (k := k) (i := i + 1) (by omega) h
      exact ⟨p, by omega, by omega, h3⟩
def jF_ring (ru w : Int32) (C N M : jf_B) : Int32 × jf_B × jf_B :=
  if jf_within ru (nI 0) (nI 2) then
    (if jf_within w (nI 0) (nI 1) then
      (if (jf_ringL ru C N M).1 = -6 then (-6, (jf_ringL ru C N M).2, jf_become (jf_rlA ru C N) M)
      else (if (jf_ringS ru (jf_ringL ru C N M).1.toNatClampNeg C (jf_ringL ru C N M).2 (jf_become (jf_rlA ru C N) M)).1 = -6 then jf_ringS ru (jf_ringL ru C N M).1.toNatClampNeg C (jf_ringL ru C N M).2 (jf_become (jf_rlA ru C N) M)
        else if w = 0 then jf_ringS ru (jf_ringL ru C N M).1.toNatClampNeg C (jf_ringL ru C N M).2 (jf_become (jf_rlA ru C N) M)
        else ((jf_ringL ru C N M).1, (jf_ringS ru (jf_ringL ru C N M).1.toNatClampNeg C (jf_ringL ru C N M).2 (jf_become (jf_rlA ru C N) M)).2)))
    else (-2, N, M))
  else (-2, N, M)
set_option maxHeartbeats 1000000 in
set_option maxRecDepth 100000 in
theorem jc_X2_ring (E : jp_E) (l : Launch) {h : jp_H} {N M : jf_B} {L K : jf_L} {ru w : Int32} : jc_M E l yX2_ring wsX2_ring ({ frames := 6, cells := 0, slots := 0, locals := 142 } : Room) [.ref (E.2.1 0 0), .int ru, .int w] (jp_v h N L M K) (jp_R (some (.int (jF_ring ru w (h.1 2) N M).1)) (jp_v h (jF_ring ru w (h.1 2) N M).2.1 L (jF_ring ru w (h.1 2) N M).2.2 K)) := by
  refine jc_of (cc := cX2_ring) (maxL := 5) (ret := some .int) (own := RX2) (lv := [(0, _), (1, _), (2, _)]) (by decide) rfl rfl (Nat.le_of_ble_eq_true rfl) rfl (fun X cx => ?_)
  refine jg_iload_n cx dX2_ring_0 rfl ?_
  refine jg_callSi cx (n := 1) (jc_X2_isRule E l) gX2_ring_X2_isRule rfl ⟨rfl, rfl⟩ ⟨(Nat.le_of_ble_eq_true rfl), (Nat.le_of_ble_eq_true rfl)⟩ (by decide +kernel) rfl rfl (Nat.le_of_ble_eq_true rfl) dX2_ring_1 ?_
  refine jg_ifb_eq cx (tgt := 16) dX2_ring_4 (by decide) (fun c4 => ?_) (fun c4 => ?_)
  · refine jg_bipush cx (v := (-2)) dX2_ring_16 (by decide) ?_
    exact jg_iret cx dX2_ring_18 (⟨(by first | with_reducible rfl | (simp only [jF_ring, c4, ↓reduceIte, Bool.false_eq_true, Bool.true_eq_false, reduceCtorEq, eq_self, if_true, if_false, Bool.not_true, Bool.not_false]; first | done | rfl)), (by first | with_reducible rfl | (simp only [jF_ring, c4, ↓reduceIte, Bool.false_eq_true, Bool.true_eq_false, reduceCtorEq, eq_self, if_true, if_false, Bool.not_true, Bool.not_false]; first | done | rfl))⟩)
  · refine jg_iload_n cx dX2_ring_7 rfl ?_
    refine jg_iconst cx (v := nI 0) dX2_ring_8 (by decide) ?_
    refine jg_iconst cx (v := nI 1) dX2_ring_9 (by decide) ?_
    refine jg_callSi cx (n := 3) (jc_X2_isWithin E l) gX2_ring_X2_isWithin rfl ⟨rfl, rfl⟩ ⟨(Nat.le_of_ble_eq_true rfl), (Nat.le_of_ble_eq_true rfl)⟩ (by decide +kernel) rfl rfl (Nat.le_of_ble_eq_true rfl) dX2_ring_10 ?_
    refine jg_ifb_ne cx (tgt := 19) dX2_ring_13 (by decide) (fun c13 => ?_) (fun c13 => ?_)
    · refine jg_aload_n cx dX2_ring_19 rfl ?_
      refine jg_iload_n cx dX2_ring_20 rfl ?_
      refine jg_callVi cx (n := 1) (jc_X2_ringLength E l) gX2_ring_X2_ringLength rfl ⟨rfl, rfl⟩ ⟨(Nat.le_of_ble_eq_true rfl), (Nat.le_of_ble_eq_true rfl)⟩ (by decide +kernel) jp_js_o rfl rfl rfl (Nat.le_of_ble_eq_true rfl) dX2_ring_21 ?_
      refine jg_istore_n cx (lv' := [(0, _), (1, _), (2, _), (3, _)]) dX2_ring_24 (by decide) rfl ?_
      refine jg_iload_n cx dX2_ring_25 rfl ?_
      refine jg_bipush cx (v := (-6)) dX2_ring_26 (by decide) ?_
      refine jg_icmp_ne cx (tgt := 34) dX2_ring_28 (by decide) (fun c28 => ?_) (fun c28 => ?_)
      · obtain ⟨p, hp1, hp2, ep⟩ := jf_rl_of (by decide) c28
        have ep3 : (jf_ringL ru (h.1 2) N M).1 = nI p := ep
        have ep2 : (jf_ringL ru (h.1 2) N M).1.toNatClampNeg = p := by rw [ep3]; exact nI_clamp (by omega)
        rw [ep3]
        refine jg_aload_n cx dX2_ring_34 rfl ?_
        refine jg_iload_n cx dX2_ring_35 rfl ?_
        refine jg_iload_n cx dX2_ring_36 rfl ?_
        refine jg_callVi cx (n := 2) (jc_X2_ringStart E l hp2) gX2_ring_X2_ringStart rfl ⟨rfl, rfl⟩ ⟨(Nat.le_of_ble_eq_true rfl), (Nat.le_of_ble_eq_true rfl)⟩ (by decide +kernel) jp_js_o rfl rfl rfl (Nat.le_of_ble_eq_true rfl) dX2_ring_37 ?_
        refine jg_istore cx (lv' := [(0, _), (1, _), (2, _), (3, _), (4, _)]) dX2_ring_40 (by decide) rfl ?_
        refine jg_iload cx dX2_ring_42 rfl ?_
        refine jg_bipush cx (v := (-6)) dX2_ring_44 (by decide) ?_
        refine jg_icmp_eq cx (tgt := 53) dX2_ring_46 (by decide) (fun c46 => ?_) (fun c46 => ?_)
        · refine jg_iload cx dX2_ring_53 rfl ?_
          exact jg_iret cx dX2_ring_55 (⟨by simp only [jF_ring, c4, c13, if_neg c28, if_pos c46, ep2, ↓reduceIte], by simp only [jF_ring, c4, c13, if_neg c28, if_pos c46, ep2, ↓reduceIte]⟩)
        · refine jg_iload_n cx dX2_ring_49 rfl ?_
          refine jg_if_ne cx (tgt := 56) dX2_ring_50 (by decide) (fun c50 => ?_) (fun c50 => ?_)
          · refine jg_iload_n cx dX2_ring_56 rfl ?_
            exact jg_iret cx dX2_ring_57 (⟨by rw [← ep3]; simp only [jF_ring, c4, c13, if_neg c28, if_neg c46, if_neg c50, ep2, ↓reduceIte], by simp only [jF_ring, c4, c13, if_neg c28, if_neg c46, if_neg c50, ep2, ↓reduceIte]⟩)
          · refine jg_iload cx dX2_ring_53 rfl ?_
            exact jg_iret cx dX2_ring_55 (⟨by simp only [jF_ring, c4, c13, if_neg c28, if_neg c46, if_pos c50, ep2, ↓reduceIte], by simp only [jF_ring, c4, c13, if_neg c28, if_neg c46, if_pos c50, ep2, ↓reduceIte]⟩)
      · refine jg_bipush cx (v := (-6)) dX2_ring_31 (by decide) ?_
        exact jg_iret cx dX2_ring_33 (⟨(by first | with_reducible rfl | (simp only [jF_ring, c4, c13, if_pos c28, ↓reduceIte, Bool.false_eq_true, Bool.true_eq_false, reduceCtorEq, eq_self, if_true, if_false, Bool.not_true, Bool.not_false]; first | done | rfl)), (by first | with_reducible rfl | (simp only [jF_ring, c4, c13, if_pos c28, ↓reduceIte, Bool.false_eq_true, Bool.true_eq_false, reduceCtorEq, eq_self, if_true, if_false, Bool.not_true, Bool.not_false]; first | done | rfl))⟩)
    · refine jg_bipush cx (v := (-2)) dX2_ring_16 (by decide) ?_
      exact jg_iret cx dX2_ring_18 (⟨(by first | with_reducible rfl | (simp only [jF_ring, c4, c13, ↓reduceIte, Bool.false_eq_true, Bool.true_eq_false, reduceCtorEq, eq_self, if_true, if_false, Bool.not_true, Bool.not_false]; first | done | rfl)), (by first | with_reducible rfl | (simp only [jF_ring, c4, c13, ↓reduceIte, Bool.false_eq_true, Bool.true_eq_false, reduceCtorEq, eq_self, if_true, if_false, Bool.not_true, Bool.not_false]; first | done | rfl))⟩)
