/-! ===== the model ===== -/
def jk_pairI (x y : Int32) : Int32 := if y ≤ x then nI 8 * y + x else nI 8 * x + y
theorem jk_pairI_n {a c : Nat} (ha : a < 2 ^ 31) (hc : c < 2 ^ 31) : jk_pairI (nI a) (nI c) = nI (jf_spot a c) := by
  unfold jk_pairI jf_spot
  simp only [nI_leI hc ha, pk_mul, nI_add]
  by_cases q : c ≤ a
  · rw [if_pos q, if_neg (by omega), Nat.mul_comm]
  · rw [if_neg q, if_pos (by omega), Nat.mul_comm]
set_option maxHeartbeats 1000000 in
set_option maxRecDepth 100000 in
theorem jc_X3_pair (E : jp_E) (l : Launch) {h : jp_H} {x y : Int32} : jc_M E l yX3_pair wsX3_pair ({ frames := 0, cells := 0, slots := 0, locals := 0 } : Room) [.int x, .int y] h (jp_R (some (.int (jk_pairI x y))) h) := by
  refine jc_of (cc := cX3_pair) (maxL := 2) (ret := some .int) (own := RX3) (lv := [(0, _), (1, _)]) (by decide) rfl rfl (Nat.le_of_ble_eq_true rfl) rfl (fun X cx => ?_)
  refine jg_iload_n cx dX3_pair_0 rfl ?_
  refine jg_iload_n cx dX3_pair_1 rfl ?_
  refine jg_icmp_ge cx (tgt := 14) dX3_pair_2 (by decide) (fun c2 => ?_) (fun c2 => ?_)
  · refine jg_bipush cx (v := nI 8) dX3_pair_14 (by decide) ?_
    refine jg_iload_n cx dX3_pair_16 rfl ?_
    refine jg_imul cx dX3_pair_17 ?_
    refine jg_iload_n cx dX3_pair_18 rfl ?_
    refine jg_iadd cx dX3_pair_19 ?_
    exact jg_iret cx dX3_pair_20 (⟨(by first | with_reducible rfl | (simp only [jk_pairI, if_pos c2, ↓reduceIte, Bool.false_eq_true, Bool.true_eq_false, reduceCtorEq, eq_self, if_true, if_false, Bool.not_true, Bool.not_false]; first | done | rfl)), rfl⟩)
  · refine jg_bipush cx (v := nI 8) dX3_pair_5 (by decide) ?_
    refine jg_iload_n cx dX3_pair_7 rfl ?_
    refine jg_imul cx dX3_pair_8 ?_
    refine jg_iload_n cx dX3_pair_9 rfl ?_
    refine jg_iadd cx dX3_pair_10 ?_
    refine jg_goto cx (tgt := 20) dX3_pair_11 (by decide) ?_
    exact jg_iret cx dX3_pair_20 (⟨(by first | with_reducible rfl | (simp only [jk_pairI, if_neg c2, ↓reduceIte, Bool.false_eq_true, Bool.true_eq_false, reduceCtorEq, eq_self, if_true, if_false, Bool.not_true, Bool.not_false]; first | done | rfl)), rfl⟩)
theorem jc_X3_pairN (E : jp_E) (l : Launch) {h : jp_H} {a c : Nat} (ha : a < 8) (hc : c < 8) : jc_M E l yX3_pair wsX3_pair ({ frames := 0, cells := 0, slots := 0, locals := 0 } : Room) [.int (nI a), .int (nI c)] h (jp_R (some (.int (nI (jf_spot a c)))) h) := by
  rw [← jk_pairI_n (by omega) (by omega)]
  exact jc_X3_pair E l
set_option maxHeartbeats 1000000 in
set_option maxRecDepth 100000 in
theorem jc_X3_in (E : jp_E) (l : Launch) {h : jp_H} {x lo hi : Int32} : jc_M E l yX3_in wsX3_in ({ frames := 0, cells := 0, slots := 0, locals := 0 } : Room) [.int x, .int lo, .int hi] h (jp_R (some (.int (jp_b (jf_within x lo hi)))) h) := by
  refine jc_of (cc := cX3_in) (maxL := 3) (ret := some .boolean) (own := RX3) (lv := [(0, _), (1, _), (2, _)]) (by decide) rfl rfl (Nat.le_of_ble_eq_true rfl) rfl (fun X cx => ?_)
  refine jg_iload_n cx dX3_in_0 rfl ?_
  refine jg_iload_n cx dX3_in_1 rfl ?_
  refine jg_icmp_lt cx (tgt := 14) dX3_in_2 (by decide) (fun c2 => ?_) (fun c2 => ?_)
  · refine jg_iconst cx (v := jp_b false) dX3_in_14 (by decide) ?_
    exact jg_bret cx dX3_in_15 (⟨(by first | with_reducible rfl | (simp only [jf_within, if_pos c2, ↓reduceIte, Bool.false_eq_true, Bool.true_eq_false, reduceCtorEq, eq_self, if_true, if_false, Bool.not_true, Bool.not_false]; first | done | rfl)), rfl⟩)
  · refine jg_iload_n cx dX3_in_5 rfl ?_
    refine jg_iload_n cx dX3_in_6 rfl ?_
    refine jg_icmp_gt cx (tgt := 14) dX3_in_7 (by decide) (fun c7 => ?_) (fun c7 => ?_)
    · refine jg_iconst cx (v := jp_b false) dX3_in_14 (by decide) ?_
      exact jg_bret cx dX3_in_15 (⟨(by first | with_reducible rfl | (simp only [jf_within, if_neg c2, if_pos c7, ↓reduceIte, Bool.false_eq_true, Bool.true_eq_false, reduceCtorEq, eq_self, if_true, if_false, Bool.not_true, Bool.not_false]; first | done | rfl)), rfl⟩)
    · refine jg_iconst cx (v := jp_b true) dX3_in_10 (by decide) ?_
      refine jg_goto cx (tgt := 15) dX3_in_11 (by decide) ?_
      exact jg_bret cx dX3_in_15 (⟨(by first | with_reducible rfl | (simp only [jf_within, if_neg c2, if_neg c7, ↓reduceIte, Bool.false_eq_true, Bool.true_eq_false, reduceCtorEq, eq_self, if_true, if_false, Bool.not_true, Bool.not_false]; first | done | rfl)), rfl⟩)
set_option maxHeartbeats 1000000 in
set_option maxRecDepth 100000 in
theorem jc_X3_isNode (E : jp_E) (l : Launch) {h : jp_H} {x : Int32} : jc_M E l yX3_isNode wsX3_isNode ({ frames := 1, cells := 0, slots := 0, locals := 22 } : Room) [.int x] h (jp_R (some (.int (jp_b (jf_within x (nI 0) (nI 7))))) h) := by
  refine jc_of (cc := cX3_isNode) (maxL := 1) (ret := some .boolean) (own := RX3) (lv := [(0, _)]) (by decide) rfl rfl (Nat.le_of_ble_eq_true rfl) rfl (fun X cx => ?_)
  refine jg_iload_n cx dX3_isNode_0 rfl ?_
  refine jg_iconst cx (v := nI 0) dX3_isNode_1 (by decide) ?_
  refine jg_bipush cx (v := nI 7) dX3_isNode_2 (by decide) ?_
  refine jg_callSi cx (n := 3) (jc_X3_in E l) gX3_isNode_X3_in rfl ⟨rfl, rfl⟩ ⟨(Nat.le_of_ble_eq_true rfl), (Nat.le_of_ble_eq_true rfl)⟩ (by decide +kernel) rfl rfl (Nat.le_of_ble_eq_true rfl) dX3_isNode_4 ?_
  exact jg_bret cx dX3_isNode_7 (⟨rfl, rfl⟩)
def jk_edge (M : jf_B) (a c : Nat) : Bool := if a = c then false else if M 1 (24 + jf_spot a c) < 0 then false else true
set_option maxHeartbeats 1000000 in
set_option maxRecDepth 100000 in
theorem jc_X3_isEdge (E : jp_E) (l : Launch) {h : jp_H} {M : jf_B} {L : jf_L} {a c : Nat} (ha : a < 8) (hc : c < 8) : jc_M E l yX3_isEdge wsX3_isEdge ({ frames := 1, cells := 0, slots := 0, locals := 21 } : Room) [.ref (E.2.1 7 0), .int (nI a), .int (nI c)] (jp_u h 7 M L) (jp_R (some (.int (jp_b (jk_edge M a c)))) (jp_u h 7 (M) L)) := by
  refine jc_of (cc := cX3_isEdge) (maxL := 3) (ret := some .boolean) (own := RX3) (lv := [(0, _), (1, _), (2, _)]) (by decide) rfl rfl (Nat.le_of_ble_eq_true rfl) rfl (fun X cx => ?_)
  have inX3 : ∀ w ∈ u_ws RX3 TX3 11, w ∈ wsX3_isEdge := by decide +kernel
  have f7 : Cond.fieldLink RX3 7 "JobSpreadModel" "state" "[I" ∈ wsX3_isEdge := by decide +kernel
  refine jg_iload_n cx dX3_isEdge_0 rfl ?_
  refine jg_iload_n cx dX3_isEdge_1 rfl ?_
  refine jg_icmpN_eq cx (tgt := 25) dX3_isEdge_2 (by decide) (by omega) (by omega) (fun c2 => ?_) (fun c2 => ?_)
  · refine jg_iconst cx (v := jp_b false) dX3_isEdge_25 (by decide) ?_
    exact jg_bret cx dX3_isEdge_26 (⟨(by first | with_reducible rfl | (simp only [jk_edge, if_pos c2, ↓reduceIte, Bool.false_eq_true, Bool.true_eq_false, reduceCtorEq, eq_self, if_true, if_false, Bool.not_true, Bool.not_false]; first | done | rfl)), rfl⟩)
  · refine jg_aload_n cx dX3_isEdge_5 rfl ?_
    refine jg_get cx jp_mo_o rfl inX3 0 (by decide) f7 rfl dX3_isEdge_6 ?_
    refine jg_bipush cx (v := nI 24) dX3_isEdge_9 (by decide) ?_
    refine jg_iload_n cx dX3_isEdge_11 rfl ?_
    refine jg_iload_n cx dX3_isEdge_12 rfl ?_
    refine jg_callSi cx (n := 2) (jc_X3_pairN E l (by omega) (by omega)) gX3_isEdge_X3_pair rfl ⟨rfl, rfl⟩ ⟨(Nat.le_of_ble_eq_true rfl), (Nat.le_of_ble_eq_true rfl)⟩ (by decide +kernel) rfl rfl (Nat.le_of_ble_eq_true rfl) dX3_isEdge_13 ?_
    refine jg_iaddN cx dX3_isEdge_16 ?_
    refine jg_ialdU cx dX3_isEdge_17 (jp_mo_1) rfl (by have := jf_spot_lt (a := a) (c := c) (by omega) (by omega); omega) ?_
    refine jg_if_lt cx (tgt := 25) dX3_isEdge_18 (by decide) (fun c18 => ?_) (fun c18 => ?_)
    · refine jg_iconst cx (v := jp_b false) dX3_isEdge_25 (by decide) ?_
      exact jg_bret cx dX3_isEdge_26 (⟨(by first | with_reducible rfl | (simp only [jk_edge, if_neg c2, if_pos c18, ↓reduceIte, Bool.false_eq_true, Bool.true_eq_false, reduceCtorEq, eq_self, if_true, if_false, Bool.not_true, Bool.not_false]; first | done | rfl)), rfl⟩)
    · refine jg_iconst cx (v := jp_b true) dX3_isEdge_21 (by decide) ?_
      refine jg_goto cx (tgt := 26) dX3_isEdge_22 (by decide) ?_
      exact jg_bret cx dX3_isEdge_26 (⟨(by first | with_reducible rfl | (simp only [jk_edge, if_neg c2, if_neg c18, ↓reduceIte, Bool.false_eq_true, Bool.true_eq_false, reduceCtorEq, eq_self, if_true, if_false, Bool.not_true, Bool.not_false]; first | done | rfl)), rfl⟩)
def jk_cnt (M : jf_B) : Nat → Nat
  | 0 => 0
  | i + 1 => if M 1 (24 + i) < 0 then jk_cnt M i + 0 else jk_cnt M i + 1
def jk_deg (M : jf_B) (n : Nat) : Nat → Nat
  | 0 => 0
  | k + 1 => if jk_edge M n k then jk_deg M n k + 1 else jk_deg M n k + 0
theorem jk_deg_le (M : jf_B) (n : Nat) : ∀ k, jk_deg M n k ≤ k
  | 0 => Nat.le_refl 0
  | k + 1 => by
    unfold jk_deg
    have := jk_deg_le M n k
    split <;> omega
theorem jk_cnt_le (M : jf_B) : ∀ k, jk_cnt M k ≤ k
  | 0 => Nat.le_refl 0
  | k + 1 => by
    unfold jk_cnt
    have := jk_cnt_le M k
    split <;> omega
set_option maxHeartbeats 1000000 in
set_option maxRecDepth 100000 in
theorem jc_X3_edges (E : jp_E) (l : Launch) {h : jp_H} {M : jf_B} {L : jf_L}  : jc_M E l yX3_edges wsX3_edges ({ frames := 0, cells := 0, slots := 0, locals := 0 } : Room) [.ref (E.2.1 7 0)] (jp_u h 7 M L) (jp_R (some (.int (nI (jk_cnt M 64)))) (jp_u h 7 (M) L)) := by
  refine jc_of (cc := cX3_edges) (maxL := 3) (ret := some .int) (own := RX3) (lv := [(0, _)]) (by decide) rfl rfl (Nat.le_of_ble_eq_true rfl) rfl (fun X cx => ?_)
  have inX3 : ∀ w ∈ u_ws RX3 TX3 11, w ∈ wsX3_edges := by decide +kernel
  have f7 : Cond.fieldLink RX3 7 "JobSpreadModel" "state" "[I" ∈ wsX3_edges := by decide +kernel
  refine jg_iconst cx (v := nI 0) dX3_edges_0 (by decide) ?_
  refine jg_istore_n cx (lv' := [(0, _), (1, _)]) dX3_edges_1 (by decide) rfl ?_
  refine jg_iconst cx (v := nI 0) dX3_edges_2 (by decide) ?_
  refine jg_istore_n cx (lv' := [(0, _), (1, _), (2, _)]) dX3_edges_3 (by decide) rfl ?_
  have lp4 : ∀ (d4 i : Nat), i + d4 = 64 → X 4 [(0, .ref (E.2.1 7 0)), (1, .int (nI (jk_cnt M i))), (2, .int (nI i))] [] (jp_u h 7 M L) := by
    intro d4
    induction d4 with
    | zero =>
      intro i  hr4 
      obtain rfl : i = 64 := by omega
      refine jg_iload_n cx dX3_edges_4 rfl ?_
      refine jg_bipush cx (v := nI 64) dX3_edges_5 (by decide) ?_
      refine jg_icmpN_ge cx (tgt := 36) dX3_edges_7 (by decide) (by omega) (by omega) (fun c7 => ?_) (fun c7 => ?_)
      · refine jg_iload_n cx dX3_edges_36 rfl ?_
        exact jg_iret cx dX3_edges_37 (⟨rfl, rfl⟩)
      · exact absurd hr4 (by omega)
    | succ d4 ih4 =>
      intro i  hr4 
      refine jg_iload_n cx dX3_edges_4 rfl ?_
      refine jg_bipush cx (v := nI 64) dX3_edges_5 (by decide) ?_
      refine jg_icmpN_ge cx (tgt := 36) dX3_edges_7 (by decide) (by omega) (by omega) (fun c7 => ?_) (fun c7 => ?_)
      · exact absurd hr4 (by omega)
      · refine jg_iload_n cx dX3_edges_10 rfl ?_
        refine jg_aload_n cx dX3_edges_11 rfl ?_
        refine jg_get cx jp_mo_o rfl inX3 0 (by decide) f7 rfl dX3_edges_12 ?_
        refine jg_bipush cx (v := nI 24) dX3_edges_15 (by decide) ?_
        refine jg_iload_n cx dX3_edges_17 rfl ?_
        refine jg_iaddN cx dX3_edges_18 ?_
        refine jg_ialdU cx dX3_edges_19 (jp_mo_1) rfl (by omega) ?_
        refine jg_if_lt cx (tgt := 27) dX3_edges_20 (by decide) (fun c20 => ?_) (fun c20 => ?_)
        · refine jg_iconst cx (v := nI 0) dX3_edges_27 (by decide) ?_
          refine jg_iaddN cx dX3_edges_28 ?_
          refine jg_istore_n cx (lv' := [(0, _), (1, _), (2, _)]) dX3_edges_29 (by decide) rfl ?_
          refine jg_iincN cx (d := 1) (lv' := [(0, _), (1, _), (2, _)]) dX3_edges_30 rfl (by decide) (by decide) rfl ?_
          refine jg_goto cx (tgt := 4) dX3_edges_33 (by decide) ?_
          exact jg_to (ih4 (i + 1)  (by omega) ) (by first | with_reducible rfl | (simp only [jk_cnt, if_pos c20, ↓reduceIte, Bool.false_eq_true, Bool.true_eq_false, reduceCtorEq, eq_self, if_true, if_false, Bool.not_true, Bool.not_false]; first | done | rfl)) (by first | with_reducible rfl | (simp only [jk_cnt, if_pos c20, ↓reduceIte, Bool.false_eq_true, Bool.true_eq_false, reduceCtorEq, eq_self, if_true, if_false, Bool.not_true, Bool.not_false]; first | done | rfl)) (by first | with_reducible rfl | (simp only [jk_cnt, if_pos c20, ↓reduceIte, Bool.false_eq_true, Bool.true_eq_false, reduceCtorEq, eq_self, if_true, if_false, Bool.not_true, Bool.not_false]; first | done | rfl))
        · refine jg_iconst cx (v := nI 1) dX3_edges_23 (by decide) ?_
          refine jg_goto cx (tgt := 28) dX3_edges_24 (by decide) ?_
          refine jg_iaddN cx dX3_edges_28 ?_
          refine jg_istore_n cx (lv' := [(0, _), (1, _), (2, _)]) dX3_edges_29 (by decide) rfl ?_
          refine jg_iincN cx (d := 1) (lv' := [(0, _), (1, _), (2, _)]) dX3_edges_30 rfl (by decide) (by decide) rfl ?_
          refine jg_goto cx (tgt := 4) dX3_edges_33 (by decide) ?_
          exact jg_to (ih4 (i + 1)  (by omega) ) (by first | with_reducible rfl | (simp only [jk_cnt, if_neg c20, ↓reduceIte, Bool.false_eq_true, Bool.true_eq_false, reduceCtorEq, eq_self, if_true, if_false, Bool.not_true, Bool.not_false]; first | done | rfl)) (by first | with_reducible rfl | (simp only [jk_cnt, if_neg c20, ↓reduceIte, Bool.false_eq_true, Bool.true_eq_false, reduceCtorEq, eq_self, if_true, if_false, Bool.not_true, Bool.not_false]; first | done | rfl)) (by first | with_reducible rfl | (simp only [jk_cnt, if_neg c20, ↓reduceIte, Bool.false_eq_true, Bool.true_eq_false, reduceCtorEq, eq_self, if_true, if_false, Bool.not_true, Bool.not_false]; first | done | rfl))
  exact jg_to (lp4 64 0  (by omega) ) rfl rfl rfl
set_option maxHeartbeats 1000000 in
set_option maxRecDepth 100000 in
theorem jc_X3_edgesOf (E : jp_E) (l : Launch) {h : jp_H} {M : jf_B} {L : jf_L} {n : Nat} (hn : n < 8) : jc_M E l yX3_edgesOf wsX3_edgesOf ({ frames := 2, cells := 0, slots := 0, locals := 43 } : Room) [.ref (E.2.1 7 0), .int (nI n)] (jp_u h 7 M L) (jp_R (some (.int (nI (jk_deg M n 8)))) (jp_u h 7 (M) L)) := by
  refine jc_of (cc := cX3_edgesOf) (maxL := 4) (ret := some .int) (own := RX3) (lv := [(0, _), (1, _)]) (by decide) rfl rfl (Nat.le_of_ble_eq_true rfl) rfl (fun X cx => ?_)
  refine jg_iconst cx (v := nI 0) dX3_edgesOf_0 (by decide) ?_
  refine jg_istore_n cx (lv' := [(0, _), (1, _), (2, _)]) dX3_edgesOf_1 (by decide) rfl ?_
  refine jg_iconst cx (v := nI 0) dX3_edgesOf_2 (by decide) ?_
  refine jg_istore_n cx (lv' := [(0, _), (1, _), (2, _), (3, _)]) dX3_edgesOf_3 (by decide) rfl ?_
  have lp4 : ∀ (d4 i : Nat), i + d4 = 8 → X 4 [(0, .ref (E.2.1 7 0)), (1, .int (nI n)), (2, .int (nI (jk_deg M n i))), (3, .int (nI i))] [] (jp_u h 7 M L) := by
    intro d4
    induction d4 with
    | zero =>
      intro i  hr4 
      obtain rfl : i = 8 := by omega
      refine jg_iload_n cx dX3_edgesOf_4 rfl ?_
      refine jg_bipush cx (v := nI 8) dX3_edgesOf_5 (by decide) ?_
      refine jg_icmpN_ge cx (tgt := 33) dX3_edgesOf_7 (by decide) (by omega) (by omega) (fun c7 => ?_) (fun c7 => ?_)
      · refine jg_iload_n cx dX3_edgesOf_33 rfl ?_
        exact jg_iret cx dX3_edgesOf_34 (⟨rfl, rfl⟩)
      · exact absurd hr4 (by omega)
    | succ d4 ih4 =>
      intro i  hr4 
      refine jg_iload_n cx dX3_edgesOf_4 rfl ?_
      refine jg_bipush cx (v := nI 8) dX3_edgesOf_5 (by decide) ?_
      refine jg_icmpN_ge cx (tgt := 33) dX3_edgesOf_7 (by decide) (by omega) (by omega) (fun c7 => ?_) (fun c7 => ?_)
      · exact absurd hr4 (by omega)
      · refine jg_iload_n cx dX3_edgesOf_10 rfl ?_
        refine jg_aload_n cx dX3_edgesOf_11 rfl ?_
        refine jg_iload_n cx dX3_edgesOf_12 rfl ?_
        refine jg_iload_n cx dX3_edgesOf_13 rfl ?_
        refine jg_callVi cx (n := 2) (jc_X3_isEdge E l (by omega) (by omega)) gX3_edgesOf_X3_isEdge rfl ⟨rfl, rfl⟩ ⟨(Nat.le_of_ble_eq_true rfl), (Nat.le_of_ble_eq_true rfl)⟩ (by decide +kernel) jp_mo_o rfl rfl rfl (Nat.le_of_ble_eq_true rfl) dX3_edgesOf_14 ?_
        refine jg_ifb_eq cx (tgt := 24) dX3_edgesOf_17 (by decide) (fun c17 => ?_) (fun c17 => ?_)
        · refine jg_iconst cx (v := nI 0) dX3_edgesOf_24 (by decide) ?_
          refine jg_iaddN cx dX3_edgesOf_25 ?_
          refine jg_istore_n cx (lv' := [(0, _), (1, _), (2, _), (3, _)]) dX3_edgesOf_26 (by decide) rfl ?_
          refine jg_iincN cx (d := 1) (lv' := [(0, _), (1, _), (2, _), (3, _)]) dX3_edgesOf_27 rfl (by decide) (by decide) rfl ?_
          refine jg_goto cx (tgt := 4) dX3_edgesOf_30 (by decide) ?_
          exact jg_to (ih4 (i + 1)  (by omega) ) (by first | with_reducible rfl | (simp only [jk_deg, c17, ↓reduceIte, Bool.false_eq_true, Bool.true_eq_false, reduceCtorEq, eq_self, if_true, if_false, Bool.not_true, Bool.not_false]; first | done | rfl)) (by first | with_reducible rfl | (simp only [jk_deg, c17, ↓reduceIte, Bool.false_eq_true, Bool.true_eq_false, reduceCtorEq, eq_self, if_true, if_false, Bool.not_true, Bool.not_false]; first | done | rfl)) (by first | with_reducible rfl | (simp only [jk_deg, c17, ↓reduceIte, Bool.false_eq_true, Bool.true_eq_false, reduceCtorEq, eq_self, if_true, if_false, Bool.not_true, Bool.not_false]; first | done | rfl))
        · refine jg_iconst cx (v := nI 1) dX3_edgesOf_20 (by decide) ?_
          refine jg_goto cx (tgt := 25) dX3_edgesOf_21 (by decide) ?_
          refine jg_iaddN cx dX3_edgesOf_25 ?_
          refine jg_istore_n cx (lv' := [(0, _), (1, _), (2, _), (3, _)]) dX3_edgesOf_26 (by decide) rfl ?_
          refine jg_iincN cx (d := 1) (lv' := [(0, _), (1, _), (2, _), (3, _)]) dX3_edgesOf_27 rfl (by decide) (by decide) rfl ?_
          refine jg_goto cx (tgt := 4) dX3_edgesOf_30 (by decide) ?_
          exact jg_to (ih4 (i + 1)  (by omega) ) (by first | with_reducible rfl | (simp only [jk_deg, c17, ↓reduceIte, Bool.false_eq_true, Bool.true_eq_false, reduceCtorEq, eq_self, if_true, if_false, Bool.not_true, Bool.not_false]; first | done | rfl)) (by first | with_reducible rfl | (simp only [jk_deg, c17, ↓reduceIte, Bool.false_eq_true, Bool.true_eq_false, reduceCtorEq, eq_self, if_true, if_false, Bool.not_true, Bool.not_false]; first | done | rfl)) (by first | with_reducible rfl | (simp only [jk_deg, c17, ↓reduceIte, Bool.false_eq_true, Bool.true_eq_false, reduceCtorEq, eq_self, if_true, if_false, Bool.not_true, Bool.not_false]; first | done | rfl))
  exact jg_to (lp4 8 0  (by omega) ) rfl rfl rfl
def jk_node (x s j : Int32) (M : jf_B) : Int32 × jf_B :=
  if jf_within x (nI 0) (nI 7) then
    (if jf_within s (nI 1) (nI 4) then
      (if jf_within j (nI 0) (nI 999) then (M 1 (8 + x.toNatClampNeg) + nI 10000, jf_w (jf_w M 1 (0 + x.toNatClampNeg) s) 1 (8 + x.toNatClampNeg) j) else (-2, M))
    else (-2, M))
  else (-1, M)
set_option maxHeartbeats 1000000 in
set_option maxRecDepth 100000 in
theorem jc_X3_node (E : jp_E) (l : Launch) {h : jp_H} {M : jf_B} {L : jf_L} {x s j : Int32} : jc_M E l yX3_node wsX3_node ({ frames := 2, cells := 0, slots := 0, locals := 42 } : Room) [.ref (E.2.1 7 0), .int x, .int s, .int j] (jp_u h 7 M L) (jp_R (some (.int (jk_node x s j M).1)) (jp_u h 7 (jk_node x s j M).2 L)) := by
  refine jc_of (cc := cX3_node) (maxL := 5) (ret := some .int) (own := RX3) (lv := [(0, _), (1, _), (2, _), (3, _)]) (by decide) rfl rfl (Nat.le_of_ble_eq_true rfl) rfl (fun X cx => ?_)
  have inX3 : ∀ w ∈ u_ws RX3 TX3 11, w ∈ wsX3_node := by decide +kernel
  have f7 : Cond.fieldLink RX3 7 "JobSpreadModel" "state" "[I" ∈ wsX3_node := by decide +kernel
  refine jg_iload_n cx dX3_node_0 rfl ?_
  refine jg_callSi cx (n := 1) (jc_X3_isNode E l) gX3_node_X3_isNode rfl ⟨rfl, rfl⟩ ⟨(Nat.le_of_ble_eq_true rfl), (Nat.le_of_ble_eq_true rfl)⟩ (by decide +kernel) rfl rfl (Nat.le_of_ble_eq_true rfl) dX3_node_1 ?_
  refine jg_ifb_ne cx (tgt := 9) dX3_node_4 (by decide) (fun c4 => ?_) (fun c4 => ?_)
  · obtain ⟨i, hi, rfl⟩ := jf_node_of c4
    have ei : (nI i).toNatClampNeg = i := nI_clamp (by omega)
    refine jg_iload_n cx dX3_node_9 rfl ?_
    refine jg_iconst cx (v := nI 1) dX3_node_10 (by decide) ?_
    refine jg_iconst cx (v := nI 4) dX3_node_11 (by decide) ?_
    refine jg_callSi cx (n := 3) (jc_X3_in E l) gX3_node_X3_in rfl ⟨rfl, rfl⟩ ⟨(Nat.le_of_ble_eq_true rfl), (Nat.le_of_ble_eq_true rfl)⟩ (by decide +kernel) rfl rfl (Nat.le_of_ble_eq_true rfl) dX3_node_12 ?_
    refine jg_ifb_eq cx (tgt := 29) dX3_node_15 (by decide) (fun c15 => ?_) (fun c15 => ?_)
    · refine jg_bipush cx (v := (-2)) dX3_node_29 (by decide) ?_
      exact jg_iret cx dX3_node_31 (⟨(by first | with_reducible rfl | (simp only [jk_node, c4, c15, ↓reduceIte, Bool.false_eq_true, Bool.true_eq_false, reduceCtorEq, eq_self, if_true, if_false, Bool.not_true, Bool.not_false]; first | done | rfl)), (by first | with_reducible rfl | (simp only [jk_node, c4, c15, ↓reduceIte, Bool.false_eq_true, Bool.true_eq_false, reduceCtorEq, eq_self, if_true, if_false, Bool.not_true, Bool.not_false]; first | done | rfl))⟩)
    · refine jg_iload_n cx dX3_node_18 rfl ?_
      refine jg_iconst cx (v := nI 0) dX3_node_19 (by decide) ?_
      refine jg_sipush cx (v := nI 999) dX3_node_20 (by decide) ?_
      refine jg_callSi cx (n := 3) (jc_X3_in E l) gX3_node_X3_in rfl ⟨rfl, rfl⟩ ⟨(Nat.le_of_ble_eq_true rfl), (Nat.le_of_ble_eq_true rfl)⟩ (by decide +kernel) rfl rfl (Nat.le_of_ble_eq_true rfl) dX3_node_23 ?_
      refine jg_ifb_ne cx (tgt := 32) dX3_node_26 (by decide) (fun c26 => ?_) (fun c26 => ?_)
      · refine jg_aload_n cx dX3_node_32 rfl ?_
        refine jg_get cx jp_mo_o rfl inX3 0 (by decide) f7 rfl dX3_node_33 ?_
        refine jg_bipush cx (v := nI 8) dX3_node_36 (by decide) ?_
        refine jg_iload_n cx dX3_node_38 rfl ?_
        refine jg_iaddN cx dX3_node_39 ?_
        refine jg_ialdU cx dX3_node_40 (jp_mo_1) rfl (by omega) ?_
        refine jg_istore cx (lv' := [(0, _), (1, _), (2, _), (3, _), (4, _)]) dX3_node_41 (by decide) rfl ?_
        refine jg_aload_n cx dX3_node_43 rfl ?_
        refine jg_get cx jp_mo_o rfl inX3 0 (by decide) f7 rfl dX3_node_44 ?_
        refine jg_iconst cx (v := nI 0) dX3_node_47 (by decide) ?_
        refine jg_iload_n cx dX3_node_48 rfl ?_
        refine jg_iaddN cx dX3_node_49 ?_
        refine jg_iload_n cx dX3_node_50 rfl ?_
        refine jg_iastU cx dX3_node_51 (jp_mo_1) rfl (by omega) ?_
        refine jg_aload_n cx dX3_node_52 rfl ?_
        refine jg_get cx jp_mo_o rfl inX3 0 (by decide) f7 rfl dX3_node_53 ?_
        refine jg_bipush cx (v := nI 8) dX3_node_56 (by decide) ?_
        refine jg_iload_n cx dX3_node_58 rfl ?_
        refine jg_iaddN cx dX3_node_59 ?_
        refine jg_iload_n cx dX3_node_60 rfl ?_
        refine jg_iastU cx dX3_node_61 (jp_mo_1) rfl (by omega) ?_
        refine jg_iload cx dX3_node_62 rfl ?_
        refine jg_sipush cx (v := nI 10000) dX3_node_64 (by decide) ?_
        refine jg_iadd cx dX3_node_67 ?_
        exact jg_iret cx dX3_node_68 (⟨(by first | with_reducible rfl | (simp only [jk_node, ei, c4, c15, c26, ↓reduceIte, Bool.false_eq_true, Bool.true_eq_false, reduceCtorEq, eq_self, if_true, if_false, Bool.not_true, Bool.not_false]; first | done | rfl)), (by first | with_reducible rfl | (simp only [jk_node, ei, c4, c15, c26, ↓reduceIte, Bool.false_eq_true, Bool.true_eq_false, reduceCtorEq, eq_self, if_true, if_false, Bool.not_true, Bool.not_false]; first | done | rfl))⟩)
      · refine jg_bipush cx (v := (-2)) dX3_node_29 (by decide) ?_
        exact jg_iret cx dX3_node_31 (⟨(by first | with_reducible rfl | (simp only [jk_node, c4, c15, c26, ↓reduceIte, Bool.false_eq_true, Bool.true_eq_false, reduceCtorEq, eq_self, if_true, if_false, Bool.not_true, Bool.not_false]; first | done | rfl)), (by first | with_reducible rfl | (simp only [jk_node, c4, c15, c26, ↓reduceIte, Bool.false_eq_true, Bool.true_eq_false, reduceCtorEq, eq_self, if_true, if_false, Bool.not_true, Bool.not_false]; first | done | rfl))⟩)
  · refine jg_iconst cx (v := (-1)) dX3_node_7 (by decide) ?_
    exact jg_iret cx dX3_node_8 (⟨(by first | with_reducible rfl | (simp only [jk_node, c4, ↓reduceIte, Bool.false_eq_true, Bool.true_eq_false, reduceCtorEq, eq_self, if_true, if_false, Bool.not_true, Bool.not_false]; first | done | rfl)), (by first | with_reducible rfl | (simp only [jk_node, c4, ↓reduceIte, Bool.false_eq_true, Bool.true_eq_false, reduceCtorEq, eq_self, if_true, if_false, Bool.not_true, Bool.not_false]; first | done | rfl))⟩)
def jk_lay (M : jf_B) (a c : Nat) (k : Int32) : jf_B := jf_w (jf_w M 1 (24 + jf_spot a c) (if 0 ≤ k then k else -6)) 1 (88 + jf_spot a c) (nI 0)
set_option maxHeartbeats 1000000 in
set_option maxRecDepth 100000 in
theorem jc_X3_lay (E : jp_E) (l : Launch) {h : jp_H} {M : jf_B} {L : jf_L} {a c : Nat} {k : Int32} (ha : a < 8) (hc : c < 8) : jc_M E l yX3_lay wsX3_lay ({ frames := 1, cells := 0, slots := 0, locals := 21 } : Room) [.ref (E.2.1 7 0), .int (nI a), .int (nI c), .int k] (jp_u h 7 M L) (jp_R none (jp_u h 7 (jk_lay M a c k) L)) := by
  refine jc_of (cc := cX3_lay) (maxL := 4) (ret := none) (own := RX3) (lv := [(0, _), (1, _), (2, _), (3, _)]) (by decide) rfl rfl (Nat.le_of_ble_eq_true rfl) rfl (fun X cx => ?_)
  have inX3 : ∀ w ∈ u_ws RX3 TX3 11, w ∈ wsX3_lay := by decide +kernel
  have f7 : Cond.fieldLink RX3 7 "JobSpreadModel" "state" "[I" ∈ wsX3_lay := by decide +kernel
  refine jg_aload_n cx dX3_lay_0 rfl ?_
  refine jg_get cx jp_mo_o rfl inX3 0 (by decide) f7 rfl dX3_lay_1 ?_
  refine jg_bipush cx (v := nI 24) dX3_lay_4 (by decide) ?_
  refine jg_iload_n cx dX3_lay_6 rfl ?_
  refine jg_iload_n cx dX3_lay_7 rfl ?_
  refine jg_callSi cx (n := 2) (jc_X3_pairN E l (by omega) (by omega)) gX3_lay_X3_pair rfl ⟨rfl, rfl⟩ ⟨(Nat.le_of_ble_eq_true rfl), (Nat.le_of_ble_eq_true rfl)⟩ (by decide +kernel) rfl rfl (Nat.le_of_ble_eq_true rfl) dX3_lay_8 ?_
  refine jg_iaddN cx dX3_lay_11 ?_
  refine jg_iload_n cx dX3_lay_12 rfl ?_
  refine jg_if_ge cx (tgt := 21) dX3_lay_13 (by decide) (fun c13 => ?_) (fun c13 => ?_)
  · refine jg_iload_n cx dX3_lay_21 rfl ?_
    refine jg_iastU cx dX3_lay_22 (jp_mo_1) rfl (by have := jf_spot_lt (a := a) (c := c) (by omega) (by omega); omega) ?_
    refine jg_aload_n cx dX3_lay_23 rfl ?_
    refine jg_get cx jp_mo_o rfl inX3 0 (by decide) f7 rfl dX3_lay_24 ?_
    refine jg_bipush cx (v := nI 88) dX3_lay_27 (by decide) ?_
    refine jg_iload_n cx dX3_lay_29 rfl ?_
    refine jg_iload_n cx dX3_lay_30 rfl ?_
    refine jg_callSi cx (n := 2) (jc_X3_pairN E l (by omega) (by omega)) gX3_lay_X3_pair rfl ⟨rfl, rfl⟩ ⟨(Nat.le_of_ble_eq_true rfl), (Nat.le_of_ble_eq_true rfl)⟩ (by decide +kernel) rfl rfl (Nat.le_of_ble_eq_true rfl) dX3_lay_31 ?_
    refine jg_iaddN cx dX3_lay_34 ?_
    refine jg_iconst cx (v := nI 0) dX3_lay_35 (by decide) ?_
    refine jg_iastU cx dX3_lay_36 (jp_mo_1) rfl (by have := jf_spot_lt (a := a) (c := c) (by omega) (by omega); omega) ?_
    exact jg_vret cx dX3_lay_37 (⟨rfl, (by first | with_reducible rfl | (simp only [jk_lay, if_pos c13, ↓reduceIte, Bool.false_eq_true, Bool.true_eq_false, reduceCtorEq, eq_self, if_true, if_false, Bool.not_true, Bool.not_false]; first | done | rfl))⟩)
  · refine jg_bipush cx (v := (-6)) dX3_lay_16 (by decide) ?_
    refine jg_goto cx (tgt := 22) dX3_lay_18 (by decide) ?_
    refine jg_iastU cx dX3_lay_22 (jp_mo_1) rfl (by have := jf_spot_lt (a := a) (c := c) (by omega) (by omega); omega) ?_
    refine jg_aload_n cx dX3_lay_23 rfl ?_
    refine jg_get cx jp_mo_o rfl inX3 0 (by decide) f7 rfl dX3_lay_24 ?_
    refine jg_bipush cx (v := nI 88) dX3_lay_27 (by decide) ?_
    refine jg_iload_n cx dX3_lay_29 rfl ?_
    refine jg_iload_n cx dX3_lay_30 rfl ?_
    refine jg_callSi cx (n := 2) (jc_X3_pairN E l (by omega) (by omega)) gX3_lay_X3_pair rfl ⟨rfl, rfl⟩ ⟨(Nat.le_of_ble_eq_true rfl), (Nat.le_of_ble_eq_true rfl)⟩ (by decide +kernel) rfl rfl (Nat.le_of_ble_eq_true rfl) dX3_lay_31 ?_
    refine jg_iaddN cx dX3_lay_34 ?_
    refine jg_iconst cx (v := nI 0) dX3_lay_35 (by decide) ?_
    refine jg_iastU cx dX3_lay_36 (jp_mo_1) rfl (by have := jf_spot_lt (a := a) (c := c) (by omega) (by omega); omega) ?_
    exact jg_vret cx dX3_lay_37 (⟨rfl, (by first | with_reducible rfl | (simp only [jk_lay, if_neg c13, ↓reduceIte, Bool.false_eq_true, Bool.true_eq_false, reduceCtorEq, eq_self, if_true, if_false, Bool.not_true, Bool.not_false]; first | done | rfl))⟩)
def jk_edgeF (x y k : Int32) (M : jf_B) : Int32 × jf_B :=
  if jf_within x (nI 0) (nI 7) then
    (if jf_within y (nI 0) (nI 7) then
      (if x = y then (-2, M) else
        (if jf_within k (-1) (nI 3) then
          (if k < 0 then (nI (jk_cnt (jk_lay M x.toNatClampNeg y.toNatClampNeg k) 64), jk_lay M x.toNatClampNeg y.toNatClampNeg k) else if jk_edge M x.toNatClampNeg y.toNatClampNeg then (nI (jk_cnt (jk_lay M x.toNatClampNeg y.toNatClampNeg k) 64), jk_lay M x.toNatClampNeg y.toNatClampNeg k) else if jk_cnt M 64 = 12 then (-4, M) else (nI (jk_cnt (jk_lay M x.toNatClampNeg y.toNatClampNeg k) 64), jk_lay M x.toNatClampNeg y.toNatClampNeg k))
        else (-2, M)))
    else (-1, M))
  else (-1, M)
set_option maxHeartbeats 1000000 in
set_option maxRecDepth 100000 in
theorem jc_X3_edge (E : jp_E) (l : Launch) {h : jp_H} {M : jf_B} {L : jf_L} {x y k : Int32} : jc_M E l yX3_edge wsX3_edge ({ frames := 2, cells := 0, slots := 0, locals := 44 } : Room) [.ref (E.2.1 7 0), .int x, .int y, .int k] (jp_u h 7 M L) (jp_R (some (.int (jk_edgeF x y k M).1)) (jp_u h 7 (jk_edgeF x y k M).2 L)) := by
  refine jc_of (cc := cX3_edge) (maxL := 4) (ret := some .int) (own := RX3) (lv := [(0, _), (1, _), (2, _), (3, _)]) (by decide) rfl rfl (Nat.le_of_ble_eq_true rfl) rfl (fun X cx => ?_)
  refine jg_iload_n cx dX3_edge_0 rfl ?_
  refine jg_callSi cx (n := 1) (jc_X3_isNode E l) gX3_edge_X3_isNode rfl ⟨rfl, rfl⟩ ⟨(Nat.le_of_ble_eq_true rfl), (Nat.le_of_ble_eq_true rfl)⟩ (by decide +kernel) rfl rfl (Nat.le_of_ble_eq_true rfl) dX3_edge_1 ?_
  refine jg_ifb_eq cx (tgt := 14) dX3_edge_4 (by decide) (fun c4 => ?_) (fun c4 => ?_)
  · refine jg_iconst cx (v := (-1)) dX3_edge_14 (by decide) ?_
    exact jg_iret cx dX3_edge_15 (⟨(by first | with_reducible rfl | (simp only [jk_edgeF, c4, ↓reduceIte, Bool.false_eq_true, Bool.true_eq_false, reduceCtorEq, eq_self, if_true, if_false, Bool.not_true, Bool.not_false]; first | done | rfl)), (by first | with_reducible rfl | (simp only [jk_edgeF, c4, ↓reduceIte, Bool.false_eq_true, Bool.true_eq_false, reduceCtorEq, eq_self, if_true, if_false, Bool.not_true, Bool.not_false]; first | done | rfl))⟩)
  · obtain ⟨a, ha, rfl⟩ := jf_node_of c4
    have ea : (nI a).toNatClampNeg = a := nI_clamp (by omega)
    refine jg_iload_n cx dX3_edge_7 rfl ?_
    refine jg_callSi cx (n := 1) (jc_X3_isNode E l) gX3_edge_X3_isNode rfl ⟨rfl, rfl⟩ ⟨(Nat.le_of_ble_eq_true rfl), (Nat.le_of_ble_eq_true rfl)⟩ (by decide +kernel) rfl rfl (Nat.le_of_ble_eq_true rfl) dX3_edge_8 ?_
    refine jg_ifb_ne cx (tgt := 16) dX3_edge_11 (by decide) (fun c11 => ?_) (fun c11 => ?_)
    · obtain ⟨c, hc, rfl⟩ := jf_node_of c11
      have ec : (nI c).toNatClampNeg = c := nI_clamp (by omega)
      refine jg_iload_n cx dX3_edge_16 rfl ?_
      refine jg_iload_n cx dX3_edge_17 rfl ?_
      refine jg_icmp_eq cx (tgt := 30) dX3_edge_18 (by decide) (fun c18 => ?_) (fun c18 => ?_)
      · refine jg_bipush cx (v := (-2)) dX3_edge_30 (by decide) ?_
        exact jg_iret cx dX3_edge_32 (⟨(by first | with_reducible rfl | (simp only [jk_edgeF, c4, c11, if_pos c18, ↓reduceIte, Bool.false_eq_true, Bool.true_eq_false, reduceCtorEq, eq_self, if_true, if_false, Bool.not_true, Bool.not_false]; first | done | rfl)), (by first | with_reducible rfl | (simp only [jk_edgeF, c4, c11, if_pos c18, ↓reduceIte, Bool.false_eq_true, Bool.true_eq_false, reduceCtorEq, eq_self, if_true, if_false, Bool.not_true, Bool.not_false]; first | done | rfl))⟩)
      · refine jg_iload_n cx dX3_edge_21 rfl ?_
        refine jg_iconst cx (v := (-1)) dX3_edge_22 (by decide) ?_
        refine jg_iconst cx (v := nI 3) dX3_edge_23 (by decide) ?_
        refine jg_callSi cx (n := 3) (jc_X3_in E l) gX3_edge_X3_in rfl ⟨rfl, rfl⟩ ⟨(Nat.le_of_ble_eq_true rfl), (Nat.le_of_ble_eq_true rfl)⟩ (by decide +kernel) rfl rfl (Nat.le_of_ble_eq_true rfl) dX3_edge_24 ?_
        refine jg_ifb_ne cx (tgt := 33) dX3_edge_27 (by decide) (fun c27 => ?_) (fun c27 => ?_)
        · refine jg_iload_n cx dX3_edge_33 rfl ?_
          refine jg_if_lt cx (tgt := 58) dX3_edge_34 (by decide) (fun c34 => ?_) (fun c34 => ?_)
          · refine jg_aload_n cx dX3_edge_58 rfl ?_
            refine jg_iload_n cx dX3_edge_59 rfl ?_
            refine jg_iload_n cx dX3_edge_60 rfl ?_
            refine jg_iload_n cx dX3_edge_61 rfl ?_
            refine jg_callVv cx (n := 3) (jc_X3_lay E l (by omega) (by omega)) gX3_edge_X3_lay rfl ⟨rfl, rfl⟩ ⟨(Nat.le_of_ble_eq_true rfl), (Nat.le_of_ble_eq_true rfl)⟩ (by decide +kernel) jp_mo_o rfl rfl rfl (Nat.le_of_ble_eq_true rfl) dX3_edge_62 ?_
            refine jg_aload_n cx dX3_edge_65 rfl ?_
            refine jg_callVi cx (n := 0) (jc_X3_edges E l) gX3_edge_X3_edges rfl ⟨rfl, rfl⟩ ⟨(Nat.le_of_ble_eq_true rfl), (Nat.le_of_ble_eq_true rfl)⟩ (by decide +kernel) jp_mo_o rfl rfl rfl (Nat.le_of_ble_eq_true rfl) dX3_edge_66 ?_
            exact jg_iret cx dX3_edge_69 (⟨(by first | with_reducible rfl | (simp only [jk_edgeF, ea, ec, c4, c11, if_neg c18, c27, if_pos c34, ↓reduceIte, Bool.false_eq_true, Bool.true_eq_false, reduceCtorEq, eq_self, if_true, if_false, Bool.not_true, Bool.not_false]; first | done | rfl)), (by first | with_reducible rfl | (simp only [jk_edgeF, ea, ec, c4, c11, if_neg c18, c27, if_pos c34, ↓reduceIte, Bool.false_eq_true, Bool.true_eq_false, reduceCtorEq, eq_self, if_true, if_false, Bool.not_true, Bool.not_false]; first | done | rfl))⟩)
          · refine jg_aload_n cx dX3_edge_37 rfl ?_
            refine jg_iload_n cx dX3_edge_38 rfl ?_
            refine jg_iload_n cx dX3_edge_39 rfl ?_
            refine jg_callVi cx (n := 2) (jc_X3_isEdge E l (by omega) (by omega)) gX3_edge_X3_isEdge rfl ⟨rfl, rfl⟩ ⟨(Nat.le_of_ble_eq_true rfl), (Nat.le_of_ble_eq_true rfl)⟩ (by decide +kernel) jp_mo_o rfl rfl rfl (Nat.le_of_ble_eq_true rfl) dX3_edge_40 ?_
            refine jg_ifb_ne cx (tgt := 58) dX3_edge_43 (by decide) (fun c43 => ?_) (fun c43 => ?_)
            · refine jg_aload_n cx dX3_edge_58 rfl ?_
              refine jg_iload_n cx dX3_edge_59 rfl ?_
              refine jg_iload_n cx dX3_edge_60 rfl ?_
              refine jg_iload_n cx dX3_edge_61 rfl ?_
              refine jg_callVv cx (n := 3) (jc_X3_lay E l (by omega) (by omega)) gX3_edge_X3_lay rfl ⟨rfl, rfl⟩ ⟨(Nat.le_of_ble_eq_true rfl), (Nat.le_of_ble_eq_true rfl)⟩ (by decide +kernel) jp_mo_o rfl rfl rfl (Nat.le_of_ble_eq_true rfl) dX3_edge_62 ?_
              refine jg_aload_n cx dX3_edge_65 rfl ?_
              refine jg_callVi cx (n := 0) (jc_X3_edges E l) gX3_edge_X3_edges rfl ⟨rfl, rfl⟩ ⟨(Nat.le_of_ble_eq_true rfl), (Nat.le_of_ble_eq_true rfl)⟩ (by decide +kernel) jp_mo_o rfl rfl rfl (Nat.le_of_ble_eq_true rfl) dX3_edge_66 ?_
              exact jg_iret cx dX3_edge_69 (⟨(by first | with_reducible rfl | (simp only [jk_edgeF, ea, ec, c4, c11, if_neg c18, c27, if_neg c34, c43, ↓reduceIte, Bool.false_eq_true, Bool.true_eq_false, reduceCtorEq, eq_self, if_true, if_false, Bool.not_true, Bool.not_false]; first | done | rfl)), (by first | with_reducible rfl | (simp only [jk_edgeF, ea, ec, c4, c11, if_neg c18, c27, if_neg c34, c43, ↓reduceIte, Bool.false_eq_true, Bool.true_eq_false, reduceCtorEq, eq_self, if_true, if_false, Bool.not_true, Bool.not_false]; first | done | rfl))⟩)
            · refine jg_aload_n cx dX3_edge_46 rfl ?_
              refine jg_callVi cx (n := 0) (jc_X3_edges E l) gX3_edge_X3_edges rfl ⟨rfl, rfl⟩ ⟨(Nat.le_of_ble_eq_true rfl), (Nat.le_of_ble_eq_true rfl)⟩ (by decide +kernel) jp_mo_o rfl rfl rfl (Nat.le_of_ble_eq_true rfl) dX3_edge_47 ?_
              refine jg_bipush cx (v := nI 12) dX3_edge_50 (by decide) ?_
              refine jg_icmpN_ne cx (tgt := 58) dX3_edge_52 (by decide) (by have := jk_cnt_le M 64; omega) (by omega) (fun c52 => ?_) (fun c52 => ?_)
              · refine jg_aload_n cx dX3_edge_58 rfl ?_
                refine jg_iload_n cx dX3_edge_59 rfl ?_
                refine jg_iload_n cx dX3_edge_60 rfl ?_
                refine jg_iload_n cx dX3_edge_61 rfl ?_
                refine jg_callVv cx (n := 3) (jc_X3_lay E l (by omega) (by omega)) gX3_edge_X3_lay rfl ⟨rfl, rfl⟩ ⟨(Nat.le_of_ble_eq_true rfl), (Nat.le_of_ble_eq_true rfl)⟩ (by decide +kernel) jp_mo_o rfl rfl rfl (Nat.le_of_ble_eq_true rfl) dX3_edge_62 ?_
                refine jg_aload_n cx dX3_edge_65 rfl ?_
                refine jg_callVi cx (n := 0) (jc_X3_edges E l) gX3_edge_X3_edges rfl ⟨rfl, rfl⟩ ⟨(Nat.le_of_ble_eq_true rfl), (Nat.le_of_ble_eq_true rfl)⟩ (by decide +kernel) jp_mo_o rfl rfl rfl (Nat.le_of_ble_eq_true rfl) dX3_edge_66 ?_
                exact jg_iret cx dX3_edge_69 (⟨(by first | with_reducible rfl | (simp only [jk_edgeF, ea, ec, c4, c11, if_neg c18, c27, if_neg c34, c43, if_neg c52, ↓reduceIte, Bool.false_eq_true, Bool.true_eq_false, reduceCtorEq, eq_self, if_true, if_false, Bool.not_true, Bool.not_false]; first | done | rfl)), (by first | with_reducible rfl | (simp only [jk_edgeF, ea, ec, c4, c11, if_neg c18, c27, if_neg c34, c43, if_neg c52, ↓reduceIte, Bool.false_eq_true, Bool.true_eq_false, reduceCtorEq, eq_self, if_true, if_false, Bool.not_true, Bool.not_false]; first | done | rfl))⟩)
              · refine jg_bipush cx (v := (-4)) dX3_edge_55 (by decide) ?_
                exact jg_iret cx dX3_edge_57 (⟨(by first | with_reducible rfl | (simp only [jk_edgeF, ea, ec, c4, c11, if_neg c18, c27, if_neg c34, c43, if_pos c52, ↓reduceIte, Bool.false_eq_true, Bool.true_eq_false, reduceCtorEq, eq_self, if_true, if_false, Bool.not_true, Bool.not_false]; first | done | rfl)), (by first | with_reducible rfl | (simp only [jk_edgeF, ea, ec, c4, c11, if_neg c18, c27, if_neg c34, c43, if_pos c52, ↓reduceIte, Bool.false_eq_true, Bool.true_eq_false, reduceCtorEq, eq_self, if_true, if_false, Bool.not_true, Bool.not_false]; first | done | rfl))⟩)
        · refine jg_bipush cx (v := (-2)) dX3_edge_30 (by decide) ?_
          exact jg_iret cx dX3_edge_32 (⟨(by first | with_reducible rfl | (simp only [jk_edgeF, c4, c11, if_neg c18, c27, ↓reduceIte, Bool.false_eq_true, Bool.true_eq_false, reduceCtorEq, eq_self, if_true, if_false, Bool.not_true, Bool.not_false]; first | done | rfl)), (by first | with_reducible rfl | (simp only [jk_edgeF, c4, c11, if_neg c18, c27, ↓reduceIte, Bool.false_eq_true, Bool.true_eq_false, reduceCtorEq, eq_self, if_true, if_false, Bool.not_true, Bool.not_false]; first | done | rfl))⟩)
    · refine jg_iconst cx (v := (-1)) dX3_edge_14 (by decide) ?_
      exact jg_iret cx dX3_edge_15 (⟨(by first | with_reducible rfl | (simp only [jk_edgeF, c4, c11, ↓reduceIte, Bool.false_eq_true, Bool.true_eq_false, reduceCtorEq, eq_self, if_true, if_false, Bool.not_true, Bool.not_false]; first | done | rfl)), (by first | with_reducible rfl | (simp only [jk_edgeF, c4, c11, ↓reduceIte, Bool.false_eq_true, Bool.true_eq_false, reduceCtorEq, eq_self, if_true, if_false, Bool.not_true, Bool.not_false]; first | done | rfl))⟩)
def jk_say (sg : Int32) (n : Nat) (M : jf_B) : Int32 × jf_B :=
  if jf_within sg (nI 33) (nI 126) then
    (if n = 40 then (-4, M) else (jf_w (jf_w M 4 n sg) 0 4 (jf_w M 4 n sg 0 4 + nI 1) 0 4, jf_w (jf_w M 4 n sg) 0 4 (jf_w M 4 n sg 0 4 + nI 1)))
  else (-2, M)
set_option maxHeartbeats 1000000 in
set_option maxRecDepth 100000 in
theorem jc_X3_say (E : jp_E) (l : Launch) {h : jp_H} {M : jf_B} {L : jf_L} {sg : Int32} {n : Nat} (hn : M 0 4 = nI n) (h40 : n ≤ 40) : jc_M E l yX3_say wsX3_say ({ frames := 1, cells := 0, slots := 0, locals := 22 } : Room) [.ref (E.2.1 7 0), .int sg] (jp_u h 7 M L) (jp_R (some (.int (jk_say sg n M).1)) (jp_u h 7 (jk_say sg n M).2 L)) := by
  refine jc_of (cc := cX3_say) (maxL := 2) (ret := some .int) (own := RX3) (lv := [(0, _), (1, _)]) (by decide) rfl rfl (Nat.le_of_ble_eq_true rfl) rfl (fun X cx => ?_)
  have inX3 : ∀ w ∈ u_ws RX3 TX3 11, w ∈ wsX3_say := by decide +kernel
  have f20 : Cond.fieldLink RX3 20 "JobSpreadModel" "pad" "[I" ∈ wsX3_say := by decide +kernel
  have f60 : Cond.fieldLink RX3 60 "JobSpreadModel" "said" "I" ∈ wsX3_say := by decide +kernel
  refine jg_iload_n cx dX3_say_0 rfl ?_
  refine jg_bipush cx (v := nI 33) dX3_say_1 (by decide) ?_
  refine jg_bipush cx (v := nI 126) dX3_say_3 (by decide) ?_
  refine jg_callSi cx (n := 3) (jc_X3_in E l) gX3_say_X3_in rfl ⟨rfl, rfl⟩ ⟨(Nat.le_of_ble_eq_true rfl), (Nat.le_of_ble_eq_true rfl)⟩ (by decide +kernel) rfl rfl (Nat.le_of_ble_eq_true rfl) dX3_say_5 ?_
  refine jg_ifb_ne cx (tgt := 14) dX3_say_8 (by decide) (fun c8 => ?_) (fun c8 => ?_)
  · refine jg_aload_n cx dX3_say_14 rfl ?_
    refine jg_getU cx jp_mo_o rfl inX3 4 (by decide) f60 rfl dX3_say_15 ?_
    rw [hn]
    refine jg_bipush cx (v := nI 40) dX3_say_18 (by decide) ?_
    refine jg_icmpN_ne cx (tgt := 26) dX3_say_20 (by decide) (by omega) (by omega) (fun c20 => ?_) (fun c20 => ?_)
    · refine jg_aload_n cx dX3_say_26 rfl ?_
      refine jg_get cx jp_mo_o rfl inX3 3 (by decide) f20 rfl dX3_say_27 ?_
      refine jg_aload_n cx dX3_say_30 rfl ?_
      refine jg_getU cx jp_mo_o rfl inX3 4 (by decide) f60 rfl dX3_say_31 ?_
      rw [hn]
      refine jg_iload_n cx dX3_say_34 rfl ?_
      refine jg_iastU cx dX3_say_35 (jp_mo_4) rfl (by omega) ?_
      refine jg_aload_n cx dX3_say_36 rfl ?_
      refine jg_dup cx dX3_say_37 rfl ?_
      refine jg_getU cx jp_mo_o rfl inX3 4 (by decide) f60 rfl dX3_say_38 ?_
      refine jg_iconst cx (v := nI 1) dX3_say_41 (by decide) ?_
      refine jg_iadd cx dX3_say_42 ?_
      refine jg_putU cx jp_mo_o rfl inX3 tyX3 tyX3_ok nmX3 4 (by decide) f60 rfl (by decide +kernel) (Nat.le_of_ble_eq_true rfl) (jp_put3_4 _ _ _) dX3_say_43 ?_
      refine jg_aload_n cx dX3_say_46 rfl ?_
      refine jg_getU cx jp_mo_o rfl inX3 4 (by decide) f60 rfl dX3_say_47 ?_
      exact jg_iret cx dX3_say_50 (⟨(by first | with_reducible rfl | (simp only [jk_say, c8, if_neg c20, ↓reduceIte, Bool.false_eq_true, Bool.true_eq_false, reduceCtorEq, eq_self, if_true, if_false, Bool.not_true, Bool.not_false]; first | done | rfl)), (by first | with_reducible rfl | (simp only [jk_say, c8, if_neg c20, ↓reduceIte, Bool.false_eq_true, Bool.true_eq_false, reduceCtorEq, eq_self, if_true, if_false, Bool.not_true, Bool.not_false]; first | done | rfl))⟩)
    · refine jg_bipush cx (v := (-4)) dX3_say_23 (by decide) ?_
      exact jg_iret cx dX3_say_25 (⟨(by first | with_reducible rfl | (simp only [jk_say, c8, if_pos c20, ↓reduceIte, Bool.false_eq_true, Bool.true_eq_false, reduceCtorEq, eq_self, if_true, if_false, Bool.not_true, Bool.not_false]; first | done | rfl)), (by first | with_reducible rfl | (simp only [jk_say, c8, if_pos c20, ↓reduceIte, Bool.false_eq_true, Bool.true_eq_false, reduceCtorEq, eq_self, if_true, if_false, Bool.not_true, Bool.not_false]; first | done | rfl))⟩)
  · refine jg_bipush cx (v := (-2)) dX3_say_11 (by decide) ?_
    exact jg_iret cx dX3_say_13 (⟨(by first | with_reducible rfl | (simp only [jk_say, c8, ↓reduceIte, Bool.false_eq_true, Bool.true_eq_false, reduceCtorEq, eq_self, if_true, if_false, Bool.not_true, Bool.not_false]; first | done | rfl)), (by first | with_reducible rfl | (simp only [jk_say, c8, ↓reduceIte, Bool.false_eq_true, Bool.true_eq_false, reduceCtorEq, eq_self, if_true, if_false, Bool.not_true, Bool.not_false]; first | done | rfl))⟩)
set_option maxHeartbeats 1000000 in
set_option maxRecDepth 100000 in
theorem jc_X3_wipe (E : jp_E) (l : Launch) {h : jp_H} {M : jf_B} {L : jf_L}  : jc_M E l yX3_wipe wsX3_wipe ({ frames := 0, cells := 0, slots := 0, locals := 0 } : Room) [.ref (E.2.1 7 0)] (jp_u h 7 M L) (jp_R (some (.int (M 0 4))) (jp_u h 7 (jf_w M 0 4 (nI 0)) L)) := by
  refine jc_of (cc := cX3_wipe) (maxL := 2) (ret := some .int) (own := RX3) (lv := [(0, _)]) (by decide) rfl rfl (Nat.le_of_ble_eq_true rfl) rfl (fun X cx => ?_)
  have inX3 : ∀ w ∈ u_ws RX3 TX3 11, w ∈ wsX3_wipe := by decide +kernel
  have f60 : Cond.fieldLink RX3 60 "JobSpreadModel" "said" "I" ∈ wsX3_wipe := by decide +kernel
  refine jg_aload_n cx dX3_wipe_0 rfl ?_
  refine jg_getU cx jp_mo_o rfl inX3 4 (by decide) f60 rfl dX3_wipe_1 ?_
  refine jg_istore_n cx (lv' := [(0, _), (1, _)]) dX3_wipe_4 (by decide) rfl ?_
  refine jg_aload_n cx dX3_wipe_5 rfl ?_
  refine jg_iconst cx (v := nI 0) dX3_wipe_6 (by decide) ?_
  refine jg_putU cx jp_mo_o rfl inX3 tyX3 tyX3_ok nmX3 4 (by decide) f60 rfl (by decide +kernel) (Nat.le_of_ble_eq_true rfl) (jp_put3_4 _ _ _) dX3_wipe_7 ?_
  refine jg_iload_n cx dX3_wipe_10 rfl ?_
  exact jg_iret cx dX3_wipe_11 (⟨rfl, rfl⟩)
def jk_let (M : jf_B) (k : Nat) : Int32 := if jf_within (M 4 k) (nI 97) (nI 104) then M 4 k - nI 97 else -6
set_option maxHeartbeats 1000000 in
set_option maxRecDepth 100000 in
theorem jc_X3_letter (E : jp_E) (l : Launch) {h : jp_H} {M : jf_B} {L : jf_L} {k : Nat} (hk : k < 40) : jc_M E l yX3_letter wsX3_letter ({ frames := 1, cells := 0, slots := 0, locals := 22 } : Room) [.ref (E.2.1 7 0), .int (nI k)] (jp_u h 7 M L) (jp_R (some (.int (jk_let M k))) (jp_u h 7 (M) L)) := by
  refine jc_of (cc := cX3_letter) (maxL := 2) (ret := some .int) (own := RX3) (lv := [(0, _), (1, _)]) (by decide) rfl rfl (Nat.le_of_ble_eq_true rfl) rfl (fun X cx => ?_)
  have inX3 : ∀ w ∈ u_ws RX3 TX3 11, w ∈ wsX3_letter := by decide +kernel
  have f20 : Cond.fieldLink RX3 20 "JobSpreadModel" "pad" "[I" ∈ wsX3_letter := by decide +kernel
  refine jg_aload_n cx dX3_letter_0 rfl ?_
  refine jg_get cx jp_mo_o rfl inX3 3 (by decide) f20 rfl dX3_letter_1 ?_
  refine jg_iload_n cx dX3_letter_4 rfl ?_
  refine jg_ialdU cx dX3_letter_5 (jp_mo_4) rfl (by omega) ?_
  refine jg_bipush cx (v := nI 97) dX3_letter_6 (by decide) ?_
  refine jg_bipush cx (v := nI 104) dX3_letter_8 (by decide) ?_
  refine jg_callSi cx (n := 3) (jc_X3_in E l) gX3_letter_X3_in rfl ⟨rfl, rfl⟩ ⟨(Nat.le_of_ble_eq_true rfl), (Nat.le_of_ble_eq_true rfl)⟩ (by decide +kernel) rfl rfl (Nat.le_of_ble_eq_true rfl) dX3_letter_10 ?_
  refine jg_ifb_eq cx (tgt := 28) dX3_letter_13 (by decide) (fun c13 => ?_) (fun c13 => ?_)
  · refine jg_bipush cx (v := (-6)) dX3_letter_28 (by decide) ?_
    exact jg_iret cx dX3_letter_30 (⟨(by first | with_reducible rfl | (simp only [jk_let, c13, ↓reduceIte, Bool.false_eq_true, Bool.true_eq_false, reduceCtorEq, eq_self, if_true, if_false, Bool.not_true, Bool.not_false]; first | done | rfl)), rfl⟩)
  · refine jg_aload_n cx dX3_letter_16 rfl ?_
    refine jg_get cx jp_mo_o rfl inX3 3 (by decide) f20 rfl dX3_letter_17 ?_
    refine jg_iload_n cx dX3_letter_20 rfl ?_
    refine jg_ialdU cx dX3_letter_21 (jp_mo_4) rfl (by omega) ?_
    refine jg_bipush cx (v := nI 97) dX3_letter_22 (by decide) ?_
    refine jg_isub cx dX3_letter_24 ?_
    refine jg_goto cx (tgt := 30) dX3_letter_25 (by decide) ?_
    exact jg_iret cx dX3_letter_30 (⟨(by first | with_reducible rfl | (simp only [jk_let, c13, ↓reduceIte, Bool.false_eq_true, Bool.true_eq_false, reduceCtorEq, eq_self, if_true, if_false, Bool.not_true, Bool.not_false]; first | done | rfl)), rfl⟩)
def jk_nw (M : jf_B) (x : Int32) : Nat → Bool
  | 0 => true
  | i + 1 => if jk_nw M x i then (if jk_pairI (jk_let M (3 * i)) (jk_let M (3 * i + 1)) = x then false else true) else false
def jk_new (M : jf_B) (m : Nat) : Bool := if jk_let M (3 * m + 1) < 0 then false else if jk_let M (3 * m) = jk_let M (3 * m + 1) then false else jk_nw M (jk_pairI (jk_let M (3 * m)) (jk_let M (3 * m + 1))) m
set_option maxHeartbeats 1000000 in
set_option maxRecDepth 100000 in
theorem jc_X3_isNew (E : jp_E) (l : Launch) {h : jp_H} {M : jf_B} {L : jf_L} {m : Nat} (hm : 3 * m + 1 < 40) : jc_M E l yX3_isNew wsX3_isNew ({ frames := 2, cells := 0, slots := 0, locals := 43 } : Room) [.ref (E.2.1 7 0), .int (nI (3 * m + 1))] (jp_u h 7 M L) (jp_R (some (.int (jp_b (jk_new M m)))) (jp_u h 7 (M) L)) := by
  refine jc_of (cc := cX3_isNew) (maxL := 6) (ret := some .boolean) (own := RX3) (lv := [(0, _), (1, _)]) (by decide) rfl rfl (Nat.le_of_ble_eq_true rfl) rfl (fun X cx => ?_)
  refine jg_aload_n cx dX3_isNew_0 rfl ?_
  refine jg_iload_n cx dX3_isNew_1 rfl ?_
  refine jg_iconst cx (v := nI 1) dX3_isNew_2 (by decide) ?_
  refine jg_isubN cx dX3_isNew_3 (by omega) ?_
  refine jg_callVi cx (n := 1) (jc_X3_letter E l (by omega)) gX3_isNew_X3_letter rfl ⟨rfl, rfl⟩ ⟨(Nat.le_of_ble_eq_true rfl), (Nat.le_of_ble_eq_true rfl)⟩ (by decide +kernel) jp_mo_o rfl rfl rfl (Nat.le_of_ble_eq_true rfl) dX3_isNew_4 ?_
  rw [show 3 * m + 1 - 1 = 3 * m by omega]
  refine jg_istore_n cx (lv' := [(0, _), (1, _), (2, _)]) dX3_isNew_7 (by decide) rfl ?_
  refine jg_aload_n cx dX3_isNew_8 rfl ?_
  refine jg_iload_n cx dX3_isNew_9 rfl ?_
  refine jg_callVi cx (n := 1) (jc_X3_letter E l (by omega)) gX3_isNew_X3_letter rfl ⟨rfl, rfl⟩ ⟨(Nat.le_of_ble_eq_true rfl), (Nat.le_of_ble_eq_true rfl)⟩ (by decide +kernel) jp_mo_o rfl rfl rfl (Nat.le_of_ble_eq_true rfl) dX3_isNew_10 ?_
  refine jg_istore_n cx (lv' := [(0, _), (1, _), (2, _), (3, _)]) dX3_isNew_13 (by decide) rfl ?_
  refine jg_iload_n cx dX3_isNew_14 rfl ?_
  refine jg_if_lt cx (tgt := 23) dX3_isNew_15 (by decide) (fun c15 => ?_) (fun c15 => ?_)
  · refine jg_iconst cx (v := jp_b false) dX3_isNew_23 (by decide) ?_
    exact jg_bret cx dX3_isNew_24 (⟨(by first | with_reducible rfl | (simp only [jk_new, if_pos c15, ↓reduceIte, Bool.false_eq_true, Bool.true_eq_false, reduceCtorEq, eq_self, if_true, if_false, Bool.not_true, Bool.not_false]; first | done | rfl)), rfl⟩)
  · refine jg_iload_n cx dX3_isNew_18 rfl ?_
    refine jg_iload_n cx dX3_isNew_19 rfl ?_
    refine jg_icmp_ne cx (tgt := 25) dX3_isNew_20 (by decide) (fun c20 => ?_) (fun c20 => ?_)
    · refine jg_iconst cx (v := jp_b true) dX3_isNew_25 (by decide) ?_
      refine jg_istore cx (lv' := [(0, _), (1, _), (2, _), (3, _), (4, _)]) dX3_isNew_26 (by decide) rfl ?_
      refine jg_iconst cx (v := nI 1) dX3_isNew_28 (by decide) ?_
      refine jg_istore cx (lv' := [(0, _), (1, _), (2, _), (3, _), (4, _), (5, _)]) dX3_isNew_29 (by decide) rfl ?_
      have lp31 : ∀ (d31 i : Nat), i + d31 = m → X 31 [(0, .ref (E.2.1 7 0)), (1, .int (nI (3 * m + 1))), (2, .int (jk_let M (3 * m))), (3, .int (jk_let M (3 * m + 1))), (4, .int (jp_b (jk_nw M (jk_pairI (jk_let M (3 * m)) (jk_let M (3 * m + 1))) i))), (5, .int (nI (3 * i + 1)))] [] (jp_u h 7 M L) := by
        intro d31
        induction d31 with
        | zero =>
          intro i  hr31 
          refine jg_iload cx dX3_isNew_31 rfl ?_
          refine jg_iload_n cx dX3_isNew_33 rfl ?_
          refine jg_icmpN_ge cx (tgt := 80) dX3_isNew_34 (by decide) (by omega) (by omega) (fun c34 => ?_) (fun c34 => ?_)
          · refine jg_iload cx dX3_isNew_80 rfl ?_
            exact jg_bret cx dX3_isNew_82 (⟨by rw [show i = m by omega]; simp only [jk_new, if_neg c15, if_neg c20], rfl⟩)
          · exact absurd hr31 (by omega)
        | succ d31 ih31 =>
          intro i  hr31 
          refine jg_iload cx dX3_isNew_31 rfl ?_
          refine jg_iload_n cx dX3_isNew_33 rfl ?_
          refine jg_icmpN_ge cx (tgt := 80) dX3_isNew_34 (by decide) (by omega) (by omega) (fun c34 => ?_) (fun c34 => ?_)
          · exact absurd hr31 (by omega)
          · refine jg_iload cx dX3_isNew_37 rfl ?_
            refine jg_ifb_eq cx (tgt := 71) dX3_isNew_39 (by decide) (fun c39 => ?_) (fun c39 => ?_)
            · refine jg_iconst cx (v := jp_b false) dX3_isNew_71 (by decide) ?_
              refine jg_istore cx (lv' := [(0, _), (1, _), (2, _), (3, _), (4, _), (5, _)]) dX3_isNew_72 (by decide) rfl ?_
              refine jg_iincN cx (d := 3) (lv' := [(0, _), (1, _), (2, _), (3, _), (4, _), (5, _)]) dX3_isNew_74 rfl (by decide) (by decide) rfl ?_
              refine jg_goto cx (tgt := 31) dX3_isNew_77 (by decide) ?_
              exact jg_to (ih31 (i + 1)  (by omega) ) (by first | with_reducible rfl | (simp only [jk_nw, if_neg c15, if_neg c20, c39, ↓reduceIte, Bool.false_eq_true, Bool.true_eq_false, reduceCtorEq, eq_self, if_true, if_false, Bool.not_true, Bool.not_false]; first | done | rfl)) (by first | with_reducible rfl | (simp only [jk_nw, if_neg c15, if_neg c20, c39, ↓reduceIte, Bool.false_eq_true, Bool.true_eq_false, reduceCtorEq, eq_self, if_true, if_false, Bool.not_true, Bool.not_false]; first | done | rfl)) (by first | with_reducible rfl | (simp only [jk_nw, if_neg c15, if_neg c20, c39, ↓reduceIte, Bool.false_eq_true, Bool.true_eq_false, reduceCtorEq, eq_self, if_true, if_false, Bool.not_true, Bool.not_false]; first | done | rfl))
            · refine jg_aload_n cx dX3_isNew_42 rfl ?_
              refine jg_iload cx dX3_isNew_43 rfl ?_
              refine jg_iconst cx (v := nI 1) dX3_isNew_45 (by decide) ?_
              refine jg_isubN cx dX3_isNew_46 (by omega) ?_
              refine jg_callVi cx (n := 1) (jc_X3_letter E l (by omega)) gX3_isNew_X3_letter rfl ⟨rfl, rfl⟩ ⟨(Nat.le_of_ble_eq_true rfl), (Nat.le_of_ble_eq_true rfl)⟩ (by decide +kernel) jp_mo_o rfl rfl rfl (Nat.le_of_ble_eq_true rfl) dX3_isNew_47 ?_
              rw [show 3 * i + 1 - 1 = 3 * i by omega]
              refine jg_aload_n cx dX3_isNew_50 rfl ?_
              refine jg_iload cx dX3_isNew_51 rfl ?_
              refine jg_callVi cx (n := 1) (jc_X3_letter E l (by omega)) gX3_isNew_X3_letter rfl ⟨rfl, rfl⟩ ⟨(Nat.le_of_ble_eq_true rfl), (Nat.le_of_ble_eq_true rfl)⟩ (by decide +kernel) jp_mo_o rfl rfl rfl (Nat.le_of_ble_eq_true rfl) dX3_isNew_53 ?_
              refine jg_callSi cx (n := 2) (jc_X3_pair E l) gX3_isNew_X3_pair rfl ⟨rfl, rfl⟩ ⟨(Nat.le_of_ble_eq_true rfl), (Nat.le_of_ble_eq_true rfl)⟩ (by decide +kernel) rfl rfl (Nat.le_of_ble_eq_true rfl) dX3_isNew_56 ?_
              refine jg_iload_n cx dX3_isNew_59 rfl ?_
              refine jg_iload_n cx dX3_isNew_60 rfl ?_
              refine jg_callSi cx (n := 2) (jc_X3_pair E l) gX3_isNew_X3_pair rfl ⟨rfl, rfl⟩ ⟨(Nat.le_of_ble_eq_true rfl), (Nat.le_of_ble_eq_true rfl)⟩ (by decide +kernel) rfl rfl (Nat.le_of_ble_eq_true rfl) dX3_isNew_61 ?_
              refine jg_icmp_eq cx (tgt := 71) dX3_isNew_64 (by decide) (fun c64 => ?_) (fun c64 => ?_)
              · refine jg_iconst cx (v := jp_b false) dX3_isNew_71 (by decide) ?_
                refine jg_istore cx (lv' := [(0, _), (1, _), (2, _), (3, _), (4, _), (5, _)]) dX3_isNew_72 (by decide) rfl ?_
                refine jg_iincN cx (d := 3) (lv' := [(0, _), (1, _), (2, _), (3, _), (4, _), (5, _)]) dX3_isNew_74 rfl (by decide) (by decide) rfl ?_
                refine jg_goto cx (tgt := 31) dX3_isNew_77 (by decide) ?_
                exact jg_to (ih31 (i + 1)  (by omega) ) (by first | with_reducible rfl | (simp only [jk_nw, if_neg c15, if_neg c20, c39, if_pos c64, ↓reduceIte, Bool.false_eq_true, Bool.true_eq_false, reduceCtorEq, eq_self, if_true, if_false, Bool.not_true, Bool.not_false]; first | done | rfl)) (by first | with_reducible rfl | (simp only [jk_nw, if_neg c15, if_neg c20, c39, if_pos c64, ↓reduceIte, Bool.false_eq_true, Bool.true_eq_false, reduceCtorEq, eq_self, if_true, if_false, Bool.not_true, Bool.not_false]; first | done | rfl)) (by first | with_reducible rfl | (simp only [jk_nw, if_neg c15, if_neg c20, c39, if_pos c64, ↓reduceIte, Bool.false_eq_true, Bool.true_eq_false, reduceCtorEq, eq_self, if_true, if_false, Bool.not_true, Bool.not_false]; first | done | rfl))
              · refine jg_iconst cx (v := jp_b true) dX3_isNew_67 (by decide) ?_
                refine jg_goto cx (tgt := 72) dX3_isNew_68 (by decide) ?_
                refine jg_istore cx (lv' := [(0, _), (1, _), (2, _), (3, _), (4, _), (5, _)]) dX3_isNew_72 (by decide) rfl ?_
                refine jg_iincN cx (d := 3) (lv' := [(0, _), (1, _), (2, _), (3, _), (4, _), (5, _)]) dX3_isNew_74 rfl (by decide) (by decide) rfl ?_
                refine jg_goto cx (tgt := 31) dX3_isNew_77 (by decide) ?_
                exact jg_to (ih31 (i + 1)  (by omega) ) (by first | with_reducible rfl | (simp only [jk_nw, if_neg c15, if_neg c20, c39, if_neg c64, ↓reduceIte, Bool.false_eq_true, Bool.true_eq_false, reduceCtorEq, eq_self, if_true, if_false, Bool.not_true, Bool.not_false]; first | done | rfl)) (by first | with_reducible rfl | (simp only [jk_nw, if_neg c15, if_neg c20, c39, if_neg c64, ↓reduceIte, Bool.false_eq_true, Bool.true_eq_false, reduceCtorEq, eq_self, if_true, if_false, Bool.not_true, Bool.not_false]; first | done | rfl)) (by first | with_reducible rfl | (simp only [jk_nw, if_neg c15, if_neg c20, c39, if_neg c64, ↓reduceIte, Bool.false_eq_true, Bool.true_eq_false, reduceCtorEq, eq_self, if_true, if_false, Bool.not_true, Bool.not_false]; first | done | rfl))
      exact jg_to (lp31 m 0  (by omega) ) rfl rfl rfl
    · refine jg_iconst cx (v := jp_b false) dX3_isNew_23 (by decide) ?_
      exact jg_bret cx dX3_isNew_24 (⟨(by first | with_reducible rfl | (simp only [jk_new, if_neg c15, if_pos c20, ↓reduceIte, Bool.false_eq_true, Bool.true_eq_false, reduceCtorEq, eq_self, if_true, if_false, Bool.not_true, Bool.not_false]; first | done | rfl)), rfl⟩)
def jk_stand (M : jf_B) (k : Nat) : Bool := if k % 3 = 0 then (if jk_let M k < 0 then false else if 36 ≤ k then false else true) else if k % 3 = 1 then jk_new M (k / 3) else jf_within (M 4 k) (nI 48) (nI 51)
theorem jk_stand_0 {M : jf_B} {k : Nat} (q : k % 3 = 0) : jk_stand M k = if jk_let M k < 0 then false else if 36 ≤ k then false else true := by unfold jk_stand; rw [if_pos q]
theorem jk_stand_1 {M : jf_B} (m : Nat) : jk_stand M (3 * m + 1) = jk_new M m := by unfold jk_stand; rw [if_neg (by omega), if_pos (by omega), show (3 * m + 1) / 3 = m by omega]
theorem jk_stand_2 {M : jf_B} {k : Nat} (q : k % 3 = 2) : jk_stand M k = jf_within (M 4 k) (nI 48) (nI 51) := by unfold jk_stand; rw [if_neg (by omega), if_neg (by omega)]
set_option maxHeartbeats 1000000 in
set_option maxRecDepth 100000 in
theorem jc_X3_canStand (E : jp_E) (l : Launch) {h : jp_H} {M : jf_B} {L : jf_L} {k : Nat} (hk : k < 40) : jc_M E l yX3_canStand wsX3_canStand ({ frames := 3, cells := 0, slots := 0, locals := 68 } : Room) [.ref (E.2.1 7 0), .int (nI k)] (jp_u h 7 M L) (jp_R (some (.int (jp_b (jk_stand M k)))) (jp_u h 7 (M) L)) := by
  refine jc_of (cc := cX3_canStand) (maxL := 2) (ret := some .boolean) (own := RX3) (lv := [(0, _), (1, _)]) (by decide) rfl rfl (Nat.le_of_ble_eq_true rfl) rfl (fun X cx => ?_)
  have inX3 : ∀ w ∈ u_ws RX3 TX3 11, w ∈ wsX3_canStand := by decide +kernel
  have f20 : Cond.fieldLink RX3 20 "JobSpreadModel" "pad" "[I" ∈ wsX3_canStand := by decide +kernel
  refine jg_iload_n cx dX3_canStand_0 rfl ?_
  refine jg_iconst cx (v := nI 3) dX3_canStand_1 (by decide) ?_
  refine jg_iremN cx dX3_canStand_2 (by omega) (by omega) (by omega) ?_
  rcases (show k % 3 = 0 ∨ k % 3 = 1 ∨ k % 3 = 2 by omega) with q | q | q
  · rw [q]
    refine jg_lookup cx (off := 25) (tgt := 28) dX3_canStand_3 (by decide) (by decide) (by decide) ?_
    refine jg_aload_n cx dX3_canStand_28 rfl ?_
    refine jg_iload_n cx dX3_canStand_29 rfl ?_
    refine jg_callVi cx (n := 1) (jc_X3_letter E l (by omega)) gX3_canStand_X3_letter rfl ⟨rfl, rfl⟩ ⟨(Nat.le_of_ble_eq_true rfl), (Nat.le_of_ble_eq_true rfl)⟩ (by decide +kernel) jp_mo_o rfl rfl rfl (Nat.le_of_ble_eq_true rfl) dX3_canStand_30 ?_
    refine jg_if_lt cx (tgt := 46) dX3_canStand_33 (by decide) (fun c33 => ?_) (fun c33 => ?_)
    · refine jg_iconst cx (v := jp_b false) dX3_canStand_46 (by decide) ?_
      exact jg_bret cx dX3_canStand_47 (⟨by rw [jk_stand_0 q]; simp only [if_pos c33, ↓reduceIte], rfl⟩)
    · refine jg_iload_n cx dX3_canStand_36 rfl ?_
      refine jg_bipush cx (v := nI 36) dX3_canStand_37 (by decide) ?_
      refine jg_icmpN_ge cx (tgt := 46) dX3_canStand_39 (by decide) (by omega) (by omega) (fun c39 => ?_) (fun c39 => ?_)
      · refine jg_iconst cx (v := jp_b false) dX3_canStand_46 (by decide) ?_
        exact jg_bret cx dX3_canStand_47 (⟨by rw [jk_stand_0 q]; simp only [if_neg c33, if_pos c39, ↓reduceIte], rfl⟩)
      · have c39 : ¬ 36 ≤ k := by omega
        refine jg_iconst cx (v := jp_b true) dX3_canStand_42 (by decide) ?_
        refine jg_goto cx (tgt := 47) dX3_canStand_43 (by decide) ?_
        exact jg_bret cx dX3_canStand_47 (⟨by rw [jk_stand_0 q]; simp only [if_neg c33, if_neg c39, ↓reduceIte], rfl⟩)
  · obtain ⟨m, rfl⟩ : ∃ m, k = 3 * m + 1 := ⟨k / 3, by omega⟩
    rw [q]
    refine jg_lookup cx (off := 45) (tgt := 48) dX3_canStand_3 (by decide) (by decide) (by decide) ?_
    refine jg_aload_n cx dX3_canStand_48 rfl ?_
    refine jg_iload_n cx dX3_canStand_49 rfl ?_
    refine jg_callVi cx (n := 1) (jc_X3_isNew E l (m := m) (by omega)) gX3_canStand_X3_isNew rfl ⟨rfl, rfl⟩ ⟨(Nat.le_of_ble_eq_true rfl), (Nat.le_of_ble_eq_true rfl)⟩ (by decide +kernel) jp_mo_o rfl rfl rfl (Nat.le_of_ble_eq_true rfl) dX3_canStand_50 ?_
    exact jg_bret cx dX3_canStand_53 (⟨by rw [jk_stand_1 m], rfl⟩)
  · rw [q]
    refine jg_lookup cx (off := 51) (tgt := 54) dX3_canStand_3 (by decide) (by decide) (by decide) ?_
    refine jg_aload_n cx dX3_canStand_54 rfl ?_
    refine jg_get cx jp_mo_o rfl inX3 3 (by decide) f20 rfl dX3_canStand_55 ?_
    refine jg_iload_n cx dX3_canStand_58 rfl ?_
    refine jg_ialdU cx dX3_canStand_59 (jp_mo_4) rfl (by omega) ?_
    refine jg_bipush cx (v := nI 48) dX3_canStand_60 (by decide) ?_
    refine jg_bipush cx (v := nI 51) dX3_canStand_62 (by decide) ?_
    refine jg_callSi cx (n := 3) (jc_X3_in E l) gX3_canStand_X3_in rfl ⟨rfl, rfl⟩ ⟨(Nat.le_of_ble_eq_true rfl), (Nat.le_of_ble_eq_true rfl)⟩ (by decide +kernel) rfl rfl (Nat.le_of_ble_eq_true rfl) dX3_canStand_64 ?_
    exact jg_bret cx dX3_canStand_67 (⟨by rw [jk_stand_2 q], rfl⟩)
def jk_ffd (M : jf_B) (n : Nat) : Nat → Nat → Int32
  | 0, _ => if nI (n % 3) = 0 then -6 else nI n
  | d + 1, i => if jk_stand M i then jk_ffd M n d (i + 1) else nI i
def jk_ff (M : jf_B) (n : Nat) : Int32 := jk_ffd M n n 0
set_option maxHeartbeats 1000000 in
set_option maxRecDepth 100000 in
theorem jc_X3_fault (E : jp_E) (l : Launch) {h : jp_H} {M : jf_B} {L : jf_L} {n : Nat} (hn : M 0 4 = nI n) (h40 : n ≤ 40) : jc_M E l yX3_fault wsX3_fault ({ frames := 4, cells := 0, slots := 0, locals := 89 } : Room) [.ref (E.2.1 7 0)] (jp_u h 7 M L) (jp_R (some (.int (jk_ff M n))) (jp_u h 7 (M) L)) := by
  refine jc_of (cc := cX3_fault) (maxL := 2) (ret := some .int) (own := RX3) (lv := [(0, _)]) (by decide) rfl rfl (Nat.le_of_ble_eq_true rfl) rfl (fun X cx => ?_)
  have inX3 : ∀ w ∈ u_ws RX3 TX3 11, w ∈ wsX3_fault := by decide +kernel
  have f60 : Cond.fieldLink RX3 60 "JobSpreadModel" "said" "I" ∈ wsX3_fault := by decide +kernel
  refine jg_iconst cx (v := nI 0) dX3_fault_0 (by decide) ?_
  refine jg_istore_n cx (lv' := [(0, _), (1, _)]) dX3_fault_1 (by decide) rfl ?_
  have lp2 : ∀ (d2 i : Nat), i + d2 = n → (jk_ffd M n d2 i = jk_ff M n) → X 2 [(0, .ref (E.2.1 7 0)), (1, .int (nI i))] [] (jp_u h 7 M L) := by
    intro d2
    induction d2 with
    | zero =>
      intro i  hr2 hf
      refine jg_iload_n cx dX3_fault_2 rfl ?_
      refine jg_aload_n cx dX3_fault_3 rfl ?_
      refine jg_getU cx jp_mo_o rfl inX3 4 (by decide) f60 rfl dX3_fault_4 ?_
      rw [hn]
      refine jg_icmpN_ge cx (tgt := 26) dX3_fault_7 (by decide) (by omega) (by omega) (fun c7 => ?_) (fun c7 => ?_)
      · refine jg_aload_n cx dX3_fault_26 rfl ?_
        refine jg_getU cx jp_mo_o rfl inX3 4 (by decide) f60 rfl dX3_fault_27 ?_
        rw [hn]
        refine jg_iconst cx (v := nI 3) dX3_fault_30 (by decide) ?_
        refine jg_iremN cx dX3_fault_31 (by omega) (by omega) (by omega) ?_
        refine jg_if_ne cx (tgt := 40) dX3_fault_32 (by decide) (fun c32 => ?_) (fun c32 => ?_)
        · refine jg_aload_n cx dX3_fault_40 rfl ?_
          refine jg_getU cx jp_mo_o rfl inX3 4 (by decide) f60 rfl dX3_fault_41 ?_
          exact jg_iret cx dX3_fault_44 (⟨by rw [← hf]; simp only [jk_ffd, hn, if_neg c32, ↓reduceIte], rfl⟩)
        · refine jg_bipush cx (v := (-6)) dX3_fault_35 (by decide) ?_
          refine jg_goto cx (tgt := 44) dX3_fault_37 (by decide) ?_
          exact jg_iret cx dX3_fault_44 (⟨by rw [← hf]; simp only [jk_ffd, hn, if_pos c32, ↓reduceIte], rfl⟩)
      · exact absurd hr2 (by omega)
    | succ d2 ih2 =>
      intro i  hr2 hf
      refine jg_iload_n cx dX3_fault_2 rfl ?_
      refine jg_aload_n cx dX3_fault_3 rfl ?_
      refine jg_getU cx jp_mo_o rfl inX3 4 (by decide) f60 rfl dX3_fault_4 ?_
      rw [hn]
      refine jg_icmpN_ge cx (tgt := 26) dX3_fault_7 (by decide) (by omega) (by omega) (fun c7 => ?_) (fun c7 => ?_)
      · exact absurd hr2 (by omega)
      · refine jg_aload_n cx dX3_fault_10 rfl ?_
        refine jg_iload_n cx dX3_fault_11 rfl ?_
        refine jg_callVi cx (n := 1) (jc_X3_canStand E l (by omega)) gX3_fault_X3_canStand rfl ⟨rfl, rfl⟩ ⟨(Nat.le_of_ble_eq_true rfl), (Nat.le_of_ble_eq_true rfl)⟩ (by decide +kernel) jp_mo_o rfl rfl rfl (Nat.le_of_ble_eq_true rfl) dX3_fault_12 ?_
        refine jg_ifb_ne cx (tgt := 20) dX3_fault_15 (by decide) (fun c15 => ?_) (fun c15 => ?_)
        · refine jg_iincN cx (d := 1) (lv' := [(0, _), (1, _)]) dX3_fault_20 rfl (by decide) (by decide) rfl ?_
          refine jg_goto cx (tgt := 2) dX3_fault_23 (by decide) ?_
          exact jg_to (ih2 (i + 1)  (by omega) (by rw [← hf]; simp only [jk_ffd, c15, ↓reduceIte])) rfl rfl rfl
        · refine jg_iload_n cx dX3_fault_18 rfl ?_
          exact jg_iret cx dX3_fault_19 (⟨by rw [← hf]; simp only [jk_ffd, c15, ↓reduceIte, Bool.false_eq_true], rfl⟩)
  exact jg_to (lp2 n 0  (by omega) rfl) rfl rfl rfl
