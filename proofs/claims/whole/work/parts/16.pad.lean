/-! ===== the pad ===== -/
def jf_add (N : jf_B) (n : Nat) (sg : Int32) : jf_B := jf_w (jf_w N 1 n sg) 0 1 (jf_w N 1 n sg 0 1 + nI 1)
set_option maxHeartbeats 1000000 in
set_option maxRecDepth 100000 in
theorem jc_X1_add (E : jp_E) (l : Launch) {h : jp_H} {N : jf_B} {L : jf_L} {n : Nat} {sg : Int32} (hn : N 0 1 = nI n) (hn40 : n < 40) : jc_M E l yX1_add wsX1_add ({ frames := 0, cells := 0, slots := 0, locals := 0 } : Room) [.ref (E.2.1 1 0), .int sg] (jp_u h 1 N L) (jp_R none (jp_u h 1 (jf_add N n sg) L)) := by
  refine jc_of (cc := cX1_add) (maxL := 2) (ret := none) (own := RX1) (lv := [(0, _), (1, _)]) (by decide) rfl rfl (Nat.le_of_ble_eq_true rfl) rfl (fun X cx => ?_)
  have inX1 : ∀ w ∈ u_ws RX1 TX1 2, w ∈ wsX1_add := by decide +kernel
  have f9 : Cond.fieldLink RX1 9 "JobSpread$Pad" "signs" "[I" ∈ wsX1_add := by decide +kernel
  have f15 : Cond.fieldLink RX1 15 "JobSpread$Pad" "length" "I" ∈ wsX1_add := by decide +kernel
  refine jg_aload_n cx dX1_add_0 rfl ?_
  refine jg_getU cx jp_pad_o rfl inX1 1 (by decide) f15 rfl dX1_add_1 ?_
  rw [hn]
  refine jg_bipush cx (v := nI 40) dX1_add_4 (by decide) ?_
  refine jg_icmpN_ge cx (tgt := 29) dX1_add_6 (by decide) (by omega) (by omega) (fun c6 => ?_) (fun c6 => ?_)
  · exact absurd c6 (by omega)
  · refine jg_aload_n cx dX1_add_9 rfl ?_
    refine jg_get cx jp_pad_o rfl inX1 0 (by decide) f9 rfl dX1_add_10 ?_
    refine jg_aload_n cx dX1_add_13 rfl ?_
    refine jg_getU cx jp_pad_o rfl inX1 1 (by decide) f15 rfl dX1_add_14 ?_
    rw [hn]
    refine jg_iload_n cx dX1_add_17 rfl ?_
    refine jg_iastU cx dX1_add_18 (jp_pad_1) rfl (by omega) ?_
    refine jg_aload_n cx dX1_add_19 rfl ?_
    refine jg_dup cx dX1_add_20 rfl ?_
    refine jg_getU cx jp_pad_o rfl inX1 1 (by decide) f15 rfl dX1_add_21 ?_
    refine jg_iconst cx (v := nI 1) dX1_add_24 (by decide) ?_
    refine jg_iadd cx dX1_add_25 ?_
    refine jg_putU cx jp_pad_o rfl inX1 tyX1 tyX1_ok nmX1 1 (by decide) f15 rfl (by decide +kernel) (Nat.le_of_ble_eq_true rfl) (jp_put1_1 _ _ _) dX1_add_26 ?_
    exact jg_vret cx dX1_add_29 (⟨rfl, rfl⟩)
def jf_nd (N : jf_B) (k : Nat) : Int32 := N 1 k - nI 97
def jf_cl (N : jf_B) (k : Nat) : Int32 := N 1 k - nI 48
set_option maxHeartbeats 1000000 in
set_option maxRecDepth 100000 in
theorem jc_X1_nodeAt (E : jp_E) (l : Launch) {h : jp_H} {N : jf_B} {L : jf_L} {k : Nat} (hk : k < 40) : jc_M E l yX1_nodeAt wsX1_nodeAt ({ frames := 0, cells := 0, slots := 0, locals := 0 } : Room) [.ref (E.2.1 1 0), .int (nI k)] (jp_u h 1 N L) (jp_R (some (.int (jf_nd N k))) (jp_u h 1 N L)) := by
  refine jc_of (cc := cX1_nodeAt) (maxL := 2) (ret := some .int) (own := RX1) (lv := [(0, _), (1, _)]) (by decide) rfl rfl (Nat.le_of_ble_eq_true rfl) rfl (fun X cx => ?_)
  have inX1 : ∀ w ∈ u_ws RX1 TX1 2, w ∈ wsX1_nodeAt := by decide +kernel
  have f9 : Cond.fieldLink RX1 9 "JobSpread$Pad" "signs" "[I" ∈ wsX1_nodeAt := by decide +kernel
  refine jg_aload_n cx dX1_nodeAt_0 rfl ?_
  refine jg_get cx jp_pad_o rfl inX1 0 (by decide) f9 rfl dX1_nodeAt_1 ?_
  refine jg_iload_n cx dX1_nodeAt_4 rfl ?_
  refine jg_ialdU cx dX1_nodeAt_5 (jp_pad_1) rfl (by omega) ?_
  refine jg_bipush cx (v := nI 97) dX1_nodeAt_6 (by decide) ?_
  refine jg_isub cx dX1_nodeAt_8 ?_
  exact jg_iret cx dX1_nodeAt_9 (⟨rfl, rfl⟩)
set_option maxHeartbeats 1000000 in
set_option maxRecDepth 100000 in
theorem jc_X1_colourAt (E : jp_E) (l : Launch) {h : jp_H} {N : jf_B} {L : jf_L} {k : Nat} (hk : k < 40) : jc_M E l yX1_colourAt wsX1_colourAt ({ frames := 0, cells := 0, slots := 0, locals := 0 } : Room) [.ref (E.2.1 1 0), .int (nI k)] (jp_u h 1 N L) (jp_R (some (.int (jf_cl N k))) (jp_u h 1 N L)) := by
  refine jc_of (cc := cX1_colourAt) (maxL := 2) (ret := some .int) (own := RX1) (lv := [(0, _), (1, _)]) (by decide) rfl rfl (Nat.le_of_ble_eq_true rfl) rfl (fun X cx => ?_)
  have inX1 : ∀ w ∈ u_ws RX1 TX1 2, w ∈ wsX1_colourAt := by decide +kernel
  have f9 : Cond.fieldLink RX1 9 "JobSpread$Pad" "signs" "[I" ∈ wsX1_colourAt := by decide +kernel
  refine jg_aload_n cx dX1_colourAt_0 rfl ?_
  refine jg_get cx jp_pad_o rfl inX1 0 (by decide) f9 rfl dX1_colourAt_1 ?_
  refine jg_iload_n cx dX1_colourAt_4 rfl ?_
  refine jg_ialdU cx dX1_colourAt_5 (jp_pad_1) rfl (by omega) ?_
  refine jg_bipush cx (v := nI 48) dX1_colourAt_6 (by decide) ?_
  refine jg_isub cx dX1_colourAt_8 ?_
  exact jg_iret cx dX1_colourAt_9 (⟨rfl, rfl⟩)
def jf_tb (N : jf_B) (he : Int32) : Nat → Bool
  | 0 => false
  | i + 1 => if jf_spotI (jf_nd N (3 * i)) (jf_nd N (3 * i + 1)) = he then true else jf_tb N he i
theorem jf_tb_t {N : jf_B} {he : Int32} {i : Nat} (ht : jf_tb N he (i + 1) = true) : ∀ d, jf_tb N he (i + 1 + d) = true
  | 0 => ht
  | d + 1 => by
    show jf_tb N he ((i + 1 + d) + 1) = true
    unfold jf_tb
    rw [jf_tb_t ht d]
    simp
theorem jf_tb_m {N : jf_B} {he : Int32} {i m : Nat} (hi : i < m) (ht : jf_tb N he (i + 1) = true) : jf_tb N he m = true := by
  have := jf_tb_t ht (m - (i + 1))
  rwa [show i + 1 + (m - (i + 1)) = m by omega] at this
set_option maxHeartbeats 1000000 in
set_option maxRecDepth 100000 in
theorem jc_X1_isToldBefore (E : jp_E) (l : Launch) {h : jp_H} {N : jf_B} {L : jf_L} {m : Nat} (hm : 3 * m + 1 < 40) : jc_M E l yX1_isToldBefore wsX1_isToldBefore ({ frames := 1, cells := 0, slots := 0, locals := 21 } : Room) [.ref (E.2.1 1 0), .int (nI (3 * m))] (jp_u h 1 N L) (jp_R (some (.int (jp_b (jf_tb N (jf_spotI (jf_nd N (3 * m)) (jf_nd N (3 * m + 1))) m)))) (jp_u h 1 N L)) := by
  refine jc_of (cc := cX1_isToldBefore) (maxL := 4) (ret := some .boolean) (own := RX1) (lv := [(0, _), (1, _)]) (by decide) rfl rfl (Nat.le_of_ble_eq_true rfl) rfl (fun X cx => ?_)
  refine jg_aload_n cx dX1_isToldBefore_0 rfl ?_
  refine jg_iload_n cx dX1_isToldBefore_1 rfl ?_
  refine jg_callVi cx (n := 1) (jc_X1_nodeAt E l (by omega)) gX1_isToldBefore_X1_nodeAt rfl ⟨rfl, rfl⟩ ⟨(Nat.le_of_ble_eq_true rfl), (Nat.le_of_ble_eq_true rfl)⟩ (by decide +kernel) jp_pad_o rfl rfl rfl (Nat.le_of_ble_eq_true rfl) dX1_isToldBefore_2 ?_
  refine jg_aload_n cx dX1_isToldBefore_5 rfl ?_
  refine jg_iload_n cx dX1_isToldBefore_6 rfl ?_
  refine jg_iconst cx (v := nI 1) dX1_isToldBefore_7 (by decide) ?_
  refine jg_iaddN cx dX1_isToldBefore_8 ?_
  refine jg_callVi cx (n := 1) (jc_X1_nodeAt E l (by omega)) gX1_isToldBefore_X1_nodeAt rfl ⟨rfl, rfl⟩ ⟨(Nat.le_of_ble_eq_true rfl), (Nat.le_of_ble_eq_true rfl)⟩ (by decide +kernel) jp_pad_o rfl rfl rfl (Nat.le_of_ble_eq_true rfl) dX1_isToldBefore_9 ?_
  refine jg_callSNi cx (n := 2) (jc_X2_spot E l) gX1_isToldBefore_X2_spot_n40 (by decide +kernel) (by decide +kernel) (by decide +kernel) rfl ⟨rfl, rfl⟩ ⟨(Nat.le_of_ble_eq_true rfl), (Nat.le_of_ble_eq_true rfl)⟩ (by decide +kernel) rfl rfl (Nat.le_of_ble_eq_true rfl) dX1_isToldBefore_12 ?_
  refine jg_istore_n cx (lv' := [(0, _), (1, _), (2, _)]) dX1_isToldBefore_15 (by decide) rfl ?_
  refine jg_iconst cx (v := nI 0) dX1_isToldBefore_16 (by decide) ?_
  refine jg_istore_n cx (lv' := [(0, _), (1, _), (2, _), (3, _)]) dX1_isToldBefore_17 (by decide) rfl ?_
  have lp18 : ∀ (d18 i : Nat), i + d18 = m → (jf_tb N (jf_spotI (jf_nd N (3 * m)) (jf_nd N (3 * m + 1))) i = false) → X 18 [(0, .ref (E.2.1 1 0)), (1, .int (nI (3 * m))), (2, .int (jf_spotI (jf_nd N (3 * m)) (jf_nd N (3 * m + 1)))), (3, .int (nI (3 * i)))] [] (jp_u h 1 N L) := by
    intro d18
    induction d18 with
    | zero =>
      intro i  hr18 hf
      refine jg_iload_n cx dX1_isToldBefore_18 rfl ?_
      refine jg_iload_n cx dX1_isToldBefore_19 rfl ?_
      refine jg_icmpN_ge cx (tgt := 50) dX1_isToldBefore_20 (by decide) (by omega) (by omega) (fun c20 => ?_) (fun c20 => ?_)
      · refine jg_iconst cx (v := jp_b false) dX1_isToldBefore_50 (by decide) ?_
        exact jg_bret cx dX1_isToldBefore_51 (⟨by rw [show i = m by omega] at hf; rw [hf], rfl⟩)
      · exact absurd hr18 (by omega)
    | succ d18 ih18 =>
      intro i  hr18 hf
      refine jg_iload_n cx dX1_isToldBefore_18 rfl ?_
      refine jg_iload_n cx dX1_isToldBefore_19 rfl ?_
      refine jg_icmpN_ge cx (tgt := 50) dX1_isToldBefore_20 (by decide) (by omega) (by omega) (fun c20 => ?_) (fun c20 => ?_)
      · exact absurd hr18 (by omega)
      · refine jg_aload_n cx dX1_isToldBefore_23 rfl ?_
        refine jg_iload_n cx dX1_isToldBefore_24 rfl ?_
        refine jg_callVi cx (n := 1) (jc_X1_nodeAt E l (by omega)) gX1_isToldBefore_X1_nodeAt rfl ⟨rfl, rfl⟩ ⟨(Nat.le_of_ble_eq_true rfl), (Nat.le_of_ble_eq_true rfl)⟩ (by decide +kernel) jp_pad_o rfl rfl rfl (Nat.le_of_ble_eq_true rfl) dX1_isToldBefore_25 ?_
        refine jg_aload_n cx dX1_isToldBefore_28 rfl ?_
        refine jg_iload_n cx dX1_isToldBefore_29 rfl ?_
        refine jg_iconst cx (v := nI 1) dX1_isToldBefore_30 (by decide) ?_
        refine jg_iaddN cx dX1_isToldBefore_31 ?_
        refine jg_callVi cx (n := 1) (jc_X1_nodeAt E l (by omega)) gX1_isToldBefore_X1_nodeAt rfl ⟨rfl, rfl⟩ ⟨(Nat.le_of_ble_eq_true rfl), (Nat.le_of_ble_eq_true rfl)⟩ (by decide +kernel) jp_pad_o rfl rfl rfl (Nat.le_of_ble_eq_true rfl) dX1_isToldBefore_32 ?_
        refine jg_callSNi cx (n := 2) (jc_X2_spot E l) gX1_isToldBefore_X2_spot_n40 (by decide +kernel) (by decide +kernel) (by decide +kernel) rfl ⟨rfl, rfl⟩ ⟨(Nat.le_of_ble_eq_true rfl), (Nat.le_of_ble_eq_true rfl)⟩ (by decide +kernel) rfl rfl (Nat.le_of_ble_eq_true rfl) dX1_isToldBefore_35 ?_
        refine jg_iload_n cx dX1_isToldBefore_38 rfl ?_
        refine jg_icmp_ne cx (tgt := 44) dX1_isToldBefore_39 (by decide) (fun c39 => ?_) (fun c39 => ?_)
        · refine jg_iincN cx (d := 3) (lv' := [(0, _), (1, _), (2, _), (3, _)]) dX1_isToldBefore_44 rfl (by decide) (by decide) rfl ?_
          refine jg_goto cx (tgt := 18) dX1_isToldBefore_47 (by decide) ?_
          exact jg_to (ih18 (i + 1)  (by omega) (by first | with_reducible rfl | (simp only [jf_tb, hf, if_neg c39, ↓reduceIte, Bool.false_eq_true, Bool.true_eq_false, reduceCtorEq, eq_self, if_true, if_false, Bool.not_true, Bool.not_false]; first | done | rfl))) rfl rfl rfl
        · refine jg_iconst cx (v := jp_b true) dX1_isToldBefore_42 (by decide) ?_
          exact jg_bret cx dX1_isToldBefore_43 (⟨by rw [jf_tb_m (i := i) (by omega) (by first | with_reducible rfl | (simp only [jf_tb, if_pos c39, ↓reduceIte, Bool.false_eq_true, Bool.true_eq_false, reduceCtorEq, eq_self, if_true, if_false, Bool.not_true, Bool.not_false]; first | done | rfl))], rfl⟩)
  exact jg_to (lp18 m 0  (by omega) rfl) rfl rfl rfl
def jf_st1 (N : jf_B) (m : Nat) : Bool := if jf_within (jf_nd N (3 * m + 1)) (nI 0) (nI 7) then (if N 1 (3 * m + 1) = N 1 (3 * m) then false else if jf_tb N (jf_spotI (jf_nd N (3 * m)) (jf_nd N (3 * m + 1))) m then false else true) else false
def jf_stand (N : jf_B) (k : Nat) : Bool := if k < 36 then (if k % 3 = 0 then jf_within (jf_nd N k) (nI 0) (nI 7) else if k % 3 = 1 then jf_st1 N (k / 3) else jf_within (jf_cl N k) (nI 0) (nI 3)) else false
theorem jf_stand_0 {N : jf_B} {k : Nat} (hk : k < 36) (q : k % 3 = 0) : jf_stand N k = jf_within (jf_nd N k) (nI 0) (nI 7) := by unfold jf_stand; rw [if_pos hk, if_pos q]
theorem jf_stand_1 {N : jf_B} {m : Nat} (hk : 3 * m + 1 < 36) : jf_stand N (3 * m + 1) = jf_st1 N m := by unfold jf_stand; rw [if_pos hk, if_neg (by omega), if_pos (by omega), show (3 * m + 1) / 3 = m by omega]
theorem jf_stand_2 {N : jf_B} {k : Nat} (hk : k < 36) (q : k % 3 = 2) : jf_stand N k = jf_within (jf_cl N k) (nI 0) (nI 3) := by unfold jf_stand; rw [if_pos hk, if_neg (by omega), if_neg (by omega)]
theorem jf_stand_3 {N : jf_B} {k : Nat} (hk : 36 ≤ k) : jf_stand N k = false := by unfold jf_stand; rw [if_neg (by omega)]
set_option maxHeartbeats 1000000 in
set_option maxRecDepth 100000 in
theorem jc_X1_canStand (E : jp_E) (l : Launch) {h : jp_H} {N : jf_B} {L : jf_L} {k : Nat} (hk : k < 40) : jc_M E l yX1_canStand wsX1_canStand ({ frames := 2, cells := 0, slots := 0, locals := 44 } : Room) [.ref (E.2.1 1 0), .int (nI k)] (jp_u h 1 N L) (jp_R (some (.int (jp_b (jf_stand N k)))) (jp_u h 1 N L)) := by
  refine jc_of (cc := cX1_canStand) (maxL := 2) (ret := some .boolean) (own := RX1) (lv := [(0, _), (1, _)]) (by decide) rfl rfl (Nat.le_of_ble_eq_true rfl) rfl (fun X cx => ?_)
  have inX1 : ∀ w ∈ u_ws RX1 TX1 2, w ∈ wsX1_canStand := by decide +kernel
  have f9 : Cond.fieldLink RX1 9 "JobSpread$Pad" "signs" "[I" ∈ wsX1_canStand := by decide +kernel
  refine jg_iload_n cx dX1_canStand_0 rfl ?_
  refine jg_bipush cx (v := nI 36) dX1_canStand_1 (by decide) ?_
  refine jg_icmpN_lt cx (tgt := 8) dX1_canStand_3 (by decide) (by omega) (by omega) (fun c3 => ?_) (fun c3 => ?_)
  · refine jg_iload_n cx dX1_canStand_8 rfl ?_
    refine jg_iconst cx (v := nI 3) dX1_canStand_9 (by decide) ?_
    refine jg_iremN cx dX1_canStand_10 (by omega) (by omega) (by omega) ?_
    rcases (show k % 3 = 0 ∨ k % 3 = 1 ∨ k % 3 = 2 by omega) with q | q | q
    · rw [q]
      refine jg_lookup cx (off := 25) (tgt := 36) dX1_canStand_11 (by decide) (by decide) (by decide) ?_
      refine jg_aload_n cx dX1_canStand_36 rfl ?_
      refine jg_iload_n cx dX1_canStand_37 rfl ?_
      refine jg_callVi cx (n := 1) (jc_X1_nodeAt E l (by omega)) gX1_canStand_X1_nodeAt rfl ⟨rfl, rfl⟩ ⟨(Nat.le_of_ble_eq_true rfl), (Nat.le_of_ble_eq_true rfl)⟩ (by decide +kernel) jp_pad_o rfl rfl rfl (Nat.le_of_ble_eq_true rfl) dX1_canStand_38 ?_
      refine jg_callSNi cx (n := 1) (jc_X2_isNode E l) gX1_canStand_X2_isNode_n27 (by decide +kernel) (by decide +kernel) (by decide +kernel) rfl ⟨rfl, rfl⟩ ⟨(Nat.le_of_ble_eq_true rfl), (Nat.le_of_ble_eq_true rfl)⟩ (by decide +kernel) rfl rfl (Nat.le_of_ble_eq_true rfl) dX1_canStand_41 ?_
      exact jg_bret cx dX1_canStand_44 (⟨by rw [jf_stand_0 c3 q], rfl⟩)
    · obtain ⟨m, rfl⟩ : ∃ m, k = 3 * m + 1 := ⟨k / 3, by omega⟩
      rw [q]
      refine jg_lookup cx (off := 34) (tgt := 45) dX1_canStand_11 (by decide) (by decide) (by decide) ?_
      refine jg_aload_n cx dX1_canStand_45 rfl ?_
      refine jg_iload_n cx dX1_canStand_46 rfl ?_
      refine jg_callVi cx (n := 1) (jc_X1_nodeAt E l (by omega)) gX1_canStand_X1_nodeAt rfl ⟨rfl, rfl⟩ ⟨(Nat.le_of_ble_eq_true rfl), (Nat.le_of_ble_eq_true rfl)⟩ (by decide +kernel) jp_pad_o rfl rfl rfl (Nat.le_of_ble_eq_true rfl) dX1_canStand_47 ?_
      refine jg_callSNi cx (n := 1) (jc_X2_isNode E l) gX1_canStand_X2_isNode_n27 (by decide +kernel) (by decide +kernel) (by decide +kernel) rfl ⟨rfl, rfl⟩ ⟨(Nat.le_of_ble_eq_true rfl), (Nat.le_of_ble_eq_true rfl)⟩ (by decide +kernel) rfl rfl (Nat.le_of_ble_eq_true rfl) dX1_canStand_50 ?_
      refine jg_ifb_eq cx (tgt := 87) dX1_canStand_53 (by decide) (fun c53 => ?_) (fun c53 => ?_)
      · refine jg_iconst cx (v := jp_b false) dX1_canStand_87 (by decide) ?_
        exact jg_bret cx dX1_canStand_88 (⟨by rw [jf_stand_1 c3]; simp only [jf_st1, c53, ↓reduceIte, Bool.false_eq_true], rfl⟩)
      · refine jg_aload_n cx dX1_canStand_56 rfl ?_
        refine jg_get cx jp_pad_o rfl inX1 0 (by decide) f9 rfl dX1_canStand_57 ?_
        refine jg_iload_n cx dX1_canStand_60 rfl ?_
        refine jg_ialdU cx dX1_canStand_61 (jp_pad_1) rfl (by omega) ?_
        refine jg_aload_n cx dX1_canStand_62 rfl ?_
        refine jg_get cx jp_pad_o rfl inX1 0 (by decide) f9 rfl dX1_canStand_63 ?_
        refine jg_iload_n cx dX1_canStand_66 rfl ?_
        refine jg_iconst cx (v := nI 1) dX1_canStand_67 (by decide) ?_
        refine jg_isubN cx dX1_canStand_68 (by omega) ?_
        refine jg_ialdU cx dX1_canStand_69 (jp_pad_1) rfl (by omega) ?_
        refine jg_icmp_eq cx (tgt := 87) dX1_canStand_70 (by decide) (fun c70 => ?_) (fun c70 => ?_)
        · rw [show 3 * m + 1 - 1 = 3 * m by omega] at c70
          refine jg_iconst cx (v := jp_b false) dX1_canStand_87 (by decide) ?_
          exact jg_bret cx dX1_canStand_88 (⟨by rw [jf_stand_1 c3]; simp only [jf_st1, c53, if_pos c70, ↓reduceIte, Bool.false_eq_true], rfl⟩)
        · rw [show 3 * m + 1 - 1 = 3 * m by omega] at c70
          refine jg_aload_n cx dX1_canStand_73 rfl ?_
          refine jg_iload_n cx dX1_canStand_74 rfl ?_
          refine jg_iconst cx (v := nI 1) dX1_canStand_75 (by decide) ?_
          refine jg_isubN cx dX1_canStand_76 (by omega) ?_
          refine jg_callVi cx (n := 1) (jc_X1_isToldBefore E l (m := m) (by omega)) gX1_canStand_X1_isToldBefore rfl ⟨rfl, rfl⟩ ⟨(Nat.le_of_ble_eq_true rfl), (Nat.le_of_ble_eq_true rfl)⟩ (by decide +kernel) jp_pad_o rfl rfl rfl (Nat.le_of_ble_eq_true rfl) dX1_canStand_77 ?_
          refine jg_ifb_ne cx (tgt := 87) dX1_canStand_80 (by decide) (fun c80 => ?_) (fun c80 => ?_)
          · refine jg_iconst cx (v := jp_b false) dX1_canStand_87 (by decide) ?_
            exact jg_bret cx dX1_canStand_88 (⟨by rw [jf_stand_1 c3]; simp only [jf_st1, c53, if_neg c70, c80, ↓reduceIte, Bool.false_eq_true], rfl⟩)
          · refine jg_iconst cx (v := jp_b true) dX1_canStand_83 (by decide) ?_
            refine jg_goto cx (tgt := 88) dX1_canStand_84 (by decide) ?_
            exact jg_bret cx dX1_canStand_88 (⟨by rw [jf_stand_1 c3]; simp only [jf_st1, c53, if_neg c70, c80, ↓reduceIte, Bool.false_eq_true], rfl⟩)
    · rw [q]
      refine jg_lookup cx (off := 78) (tgt := 89) dX1_canStand_11 (by decide) (by decide) (by decide) ?_
      refine jg_aload_n cx dX1_canStand_89 rfl ?_
      refine jg_iload_n cx dX1_canStand_90 rfl ?_
      refine jg_callVi cx (n := 1) (jc_X1_colourAt E l (by omega)) gX1_canStand_X1_colourAt rfl ⟨rfl, rfl⟩ ⟨(Nat.le_of_ble_eq_true rfl), (Nat.le_of_ble_eq_true rfl)⟩ (by decide +kernel) jp_pad_o rfl rfl rfl (Nat.le_of_ble_eq_true rfl) dX1_canStand_91 ?_
      refine jg_iconst cx (v := nI 0) dX1_canStand_94 (by decide) ?_
      refine jg_iconst cx (v := nI 3) dX1_canStand_95 (by decide) ?_
      refine jg_callSNi cx (n := 3) (jc_X2_isWithin E l) gX1_canStand_X2_isWithin_n36 (by decide +kernel) (by decide +kernel) (by decide +kernel) rfl ⟨rfl, rfl⟩ ⟨(Nat.le_of_ble_eq_true rfl), (Nat.le_of_ble_eq_true rfl)⟩ (by decide +kernel) rfl rfl (Nat.le_of_ble_eq_true rfl) dX1_canStand_96 ?_
      exact jg_bret cx dX1_canStand_99 (⟨by rw [jf_stand_2 c3 q], rfl⟩)
  · refine jg_iconst cx (v := jp_b false) dX1_canStand_6 (by decide) ?_
    exact jg_bret cx dX1_canStand_7 (⟨by rw [jf_stand_3 (by omega)], rfl⟩)
def jf_ffd (N : jf_B) (n : Nat) : Nat → Nat → Int32
  | 0, _ => if nI (n % 3) = 0 then -6 else nI n
  | d + 1, i => if jf_stand N i then jf_ffd N n d (i + 1) else nI i
def jf_ff (N : jf_B) (n : Nat) : Int32 := jf_ffd N n n 0
set_option maxHeartbeats 1000000 in
set_option maxRecDepth 100000 in
theorem jc_X1_firstFault (E : jp_E) (l : Launch) {h : jp_H} {N : jf_B} {L : jf_L} {n : Nat} (hn : N 0 1 = nI n) (hn40 : n ≤ 40) : jc_M E l yX1_firstFault wsX1_firstFault ({ frames := 3, cells := 0, slots := 0, locals := 65 } : Room) [.ref (E.2.1 1 0)] (jp_u h 1 N L) (jp_R (some (.int (jf_ff N n))) (jp_u h 1 N L)) := by
  refine jc_of (cc := cX1_firstFault) (maxL := 2) (ret := some .int) (own := RX1) (lv := [(0, _)]) (by decide) rfl rfl (Nat.le_of_ble_eq_true rfl) rfl (fun X cx => ?_)
  have inX1 : ∀ w ∈ u_ws RX1 TX1 2, w ∈ wsX1_firstFault := by decide +kernel
  have f15 : Cond.fieldLink RX1 15 "JobSpread$Pad" "length" "I" ∈ wsX1_firstFault := by decide +kernel
  refine jg_iconst cx (v := nI 0) dX1_firstFault_0 (by decide) ?_
  refine jg_istore_n cx (lv' := [(0, _), (1, _)]) dX1_firstFault_1 (by decide) rfl ?_
  have lp2 : ∀ (d2 i : Nat), i + d2 = n → (jf_ffd N n d2 i = jf_ff N n) → X 2 [(0, .ref (E.2.1 1 0)), (1, .int (nI i))] [] (jp_u h 1 N L) := by
    intro d2
    induction d2 with
    | zero =>
      intro i  hr2 hf
      refine jg_iload_n cx dX1_firstFault_2 rfl ?_
      refine jg_aload_n cx dX1_firstFault_3 rfl ?_
      refine jg_getU cx jp_pad_o rfl inX1 1 (by decide) f15 rfl dX1_firstFault_4 ?_
      rw [hn]
      refine jg_icmpN_ge cx (tgt := 26) dX1_firstFault_7 (by decide) (by omega) (by omega) (fun c7 => ?_) (fun c7 => ?_)
      · refine jg_aload_n cx dX1_firstFault_26 rfl ?_
        refine jg_getU cx jp_pad_o rfl inX1 1 (by decide) f15 rfl dX1_firstFault_27 ?_
        rw [hn]
        refine jg_iconst cx (v := nI 3) dX1_firstFault_30 (by decide) ?_
        refine jg_iremN cx dX1_firstFault_31 (by omega) (by omega) (by omega) ?_
        refine jg_if_ne cx (tgt := 40) dX1_firstFault_32 (by decide) (fun c32 => ?_) (fun c32 => ?_)
        · refine jg_aload_n cx dX1_firstFault_40 rfl ?_
          refine jg_getU cx jp_pad_o rfl inX1 1 (by decide) f15 rfl dX1_firstFault_41 ?_
          exact jg_iret cx dX1_firstFault_44 (⟨by rw [← hf]; simp only [jf_ffd, hn, if_neg c32, ↓reduceIte], rfl⟩)
        · refine jg_bipush cx (v := (-6)) dX1_firstFault_35 (by decide) ?_
          refine jg_goto cx (tgt := 44) dX1_firstFault_37 (by decide) ?_
          exact jg_iret cx dX1_firstFault_44 (⟨by rw [← hf]; simp only [jf_ffd, hn, if_pos c32, ↓reduceIte], rfl⟩)
      · exact absurd hr2 (by omega)
    | succ d2 ih2 =>
      intro i  hr2 hf
      refine jg_iload_n cx dX1_firstFault_2 rfl ?_
      refine jg_aload_n cx dX1_firstFault_3 rfl ?_
      refine jg_getU cx jp_pad_o rfl inX1 1 (by decide) f15 rfl dX1_firstFault_4 ?_
      rw [hn]
      refine jg_icmpN_ge cx (tgt := 26) dX1_firstFault_7 (by decide) (by omega) (by omega) (fun c7 => ?_) (fun c7 => ?_)
      · exact absurd hr2 (by omega)
      · refine jg_aload_n cx dX1_firstFault_10 rfl ?_
        refine jg_iload_n cx dX1_firstFault_11 rfl ?_
        refine jg_callVi cx (n := 1) (jc_X1_canStand E l (by omega)) gX1_firstFault_X1_canStand rfl ⟨rfl, rfl⟩ ⟨(Nat.le_of_ble_eq_true rfl), (Nat.le_of_ble_eq_true rfl)⟩ (by decide +kernel) jp_pad_o rfl rfl rfl (Nat.le_of_ble_eq_true rfl) dX1_firstFault_12 ?_
        refine jg_ifb_ne cx (tgt := 20) dX1_firstFault_15 (by decide) (fun c15 => ?_) (fun c15 => ?_)
        · refine jg_iincN cx (d := 1) (lv' := [(0, _), (1, _)]) dX1_firstFault_20 rfl (by decide) (by decide) rfl ?_
          refine jg_goto cx (tgt := 2) dX1_firstFault_23 (by decide) ?_
          exact jg_to (ih2 (i + 1)  (by omega) (by rw [← hf]; simp only [jf_ffd, c15, ↓reduceIte])) rfl rfl rfl
        · refine jg_iload_n cx dX1_firstFault_18 rfl ?_
          exact jg_iret cx dX1_firstFault_19 (⟨by rw [← hf]; simp only [jf_ffd, c15, ↓reduceIte, Bool.false_eq_true], rfl⟩)
  exact jg_to (lp2 n 0  (by omega) rfl) rfl rfl rfl
