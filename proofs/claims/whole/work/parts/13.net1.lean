/-! ===== small static methods; the net ===== -/
def jf_it {σ : Type} (f : Nat → σ → σ) (s : σ) : Nat → σ
  | 0 => s
  | n + 1 => f n (jf_it f s n)
def jf_fr {σ : Type} (f : Nat → σ → σ) (s : σ) (k : Nat) : Nat → σ
  | 0 => s
  | n + 1 => f (k + n) (jf_fr f s k n)
def jf_spotI (x y : Int32) : Int32 := if y ≤ x then y * nI 8 + x else x * nI 8 + y
def jf_spot (a c : Nat) : Nat := if a < c then a * 8 + c else c * 8 + a
theorem jf_spotI_n {a c : Nat} (ha : a < 2 ^ 31) (hc : c < 2 ^ 31) : jf_spotI (nI a) (nI c) = nI (jf_spot a c) := by
  unfold jf_spotI jf_spot
  simp only [nI_leI hc ha, pk_mul, nI_add]
  by_cases q : c ≤ a
  · rw [if_pos q, if_neg (by omega)]
  · rw [if_neg q, if_pos (by omega)]
theorem jf_spot_lt {a c : Nat} (ha : a < 8) (hc : c < 8) : jf_spot a c < 64 := by
  unfold jf_spot
  split <;> omega
def jf_within (x lo hi : Int32) : Bool := if x < lo then false else if hi < x then false else true
set_option maxHeartbeats 1000000 in
set_option maxRecDepth 100000 in
theorem jc_X2_spot (E : jp_E) (l : Launch) {h : jp_H} {x y : Int32} : jc_M E l yX2_spot wsX2_spot ({ frames := 0, cells := 0, slots := 0, locals := 0 } : Room) [.int x, .int y] h (jp_R (some (.int (jf_spotI x y))) h) := by
  refine jc_of (cc := cX2_spot) (maxL := 2) (ret := some .int) (own := RX2) (lv := [(0, _), (1, _)]) (by decide) rfl rfl (Nat.le_of_ble_eq_true rfl) rfl (fun X cx => ?_)
  refine jg_iload_n cx dX2_spot_0 rfl ?_
  refine jg_iload_n cx dX2_spot_1 rfl ?_
  refine jg_icmp_ge cx (tgt := 14) dX2_spot_2 (by decide) (fun c2 => ?_) (fun c2 => ?_)
  · refine jg_iload_n cx dX2_spot_14 rfl ?_
    refine jg_bipush cx (v := nI 8) dX2_spot_15 (by decide) ?_
    refine jg_imul cx dX2_spot_17 ?_
    refine jg_iload_n cx dX2_spot_18 rfl ?_
    refine jg_iadd cx dX2_spot_19 ?_
    exact jg_iret cx dX2_spot_20 (⟨(by first | with_reducible rfl | (simp only [jf_spotI, if_pos c2, ↓reduceIte, Bool.false_eq_true, Bool.true_eq_false, reduceCtorEq, eq_self, if_true, if_false, Bool.not_true, Bool.not_false]; first | done | rfl)), rfl⟩)
  · refine jg_iload_n cx dX2_spot_5 rfl ?_
    refine jg_bipush cx (v := nI 8) dX2_spot_6 (by decide) ?_
    refine jg_imul cx dX2_spot_8 ?_
    refine jg_iload_n cx dX2_spot_9 rfl ?_
    refine jg_iadd cx dX2_spot_10 ?_
    refine jg_goto cx (tgt := 20) dX2_spot_11 (by decide) ?_
    exact jg_iret cx dX2_spot_20 (⟨(by first | with_reducible rfl | (simp only [jf_spotI, if_neg c2, ↓reduceIte, Bool.false_eq_true, Bool.true_eq_false, reduceCtorEq, eq_self, if_true, if_false, Bool.not_true, Bool.not_false]; first | done | rfl)), rfl⟩)
theorem jc_X2_spotN (E : jp_E) (l : Launch) {h : jp_H} {a c : Nat} (ha : a < 8) (hc : c < 8) : jc_M E l yX2_spot wsX2_spot ({ frames := 0, cells := 0, slots := 0, locals := 0 } : Room) [.int (nI a), .int (nI c)] h (jp_R (some (.int (nI (jf_spot a c)))) h) := by
  rw [← jf_spotI_n (by omega) (by omega)]
  exact jc_X2_spot E l
set_option maxHeartbeats 1000000 in
set_option maxRecDepth 100000 in
theorem jc_X2_isWithin (E : jp_E) (l : Launch) {h : jp_H} {x lo hi : Int32} : jc_M E l yX2_isWithin wsX2_isWithin ({ frames := 0, cells := 0, slots := 0, locals := 0 } : Room) [.int x, .int lo, .int hi] h (jp_R (some (.int (jp_b (jf_within x lo hi)))) h) := by
  refine jc_of (cc := cX2_isWithin) (maxL := 3) (ret := some .boolean) (own := RX2) (lv := [(0, _), (1, _), (2, _)]) (by decide) rfl rfl (Nat.le_of_ble_eq_true rfl) rfl (fun X cx => ?_)
  refine jg_iload_n cx dX2_isWithin_0 rfl ?_
  refine jg_iload_n cx dX2_isWithin_1 rfl ?_
  refine jg_icmp_lt cx (tgt := 14) dX2_isWithin_2 (by decide) (fun c2 => ?_) (fun c2 => ?_)
  · refine jg_iconst cx (v := jp_b false) dX2_isWithin_14 (by decide) ?_
    exact jg_bret cx dX2_isWithin_15 (⟨(by first | with_reducible rfl | (simp only [jf_within, if_pos c2, ↓reduceIte, Bool.false_eq_true, Bool.true_eq_false, reduceCtorEq, eq_self, if_true, if_false, Bool.not_true, Bool.not_false]; first | done | rfl)), rfl⟩)
  · refine jg_iload_n cx dX2_isWithin_5 rfl ?_
    refine jg_iload_n cx dX2_isWithin_6 rfl ?_
    refine jg_icmp_gt cx (tgt := 14) dX2_isWithin_7 (by decide) (fun c7 => ?_) (fun c7 => ?_)
    · refine jg_iconst cx (v := jp_b false) dX2_isWithin_14 (by decide) ?_
      exact jg_bret cx dX2_isWithin_15 (⟨(by first | with_reducible rfl | (simp only [jf_within, if_neg c2, if_pos c7, ↓reduceIte, Bool.false_eq_true, Bool.true_eq_false, reduceCtorEq, eq_self, if_true, if_false, Bool.not_true, Bool.not_false]; first | done | rfl)), rfl⟩)
    · refine jg_iconst cx (v := jp_b true) dX2_isWithin_10 (by decide) ?_
      refine jg_goto cx (tgt := 15) dX2_isWithin_11 (by decide) ?_
      exact jg_bret cx dX2_isWithin_15 (⟨(by first | with_reducible rfl | (simp only [jf_within, if_neg c2, if_neg c7, ↓reduceIte, Bool.false_eq_true, Bool.true_eq_false, reduceCtorEq, eq_self, if_true, if_false, Bool.not_true, Bool.not_false]; first | done | rfl)), rfl⟩)
set_option maxHeartbeats 1000000 in
set_option maxRecDepth 100000 in
theorem jc_X2_isNode (E : jp_E) (l : Launch) {h : jp_H} {x : Int32} : jc_M E l yX2_isNode wsX2_isNode ({ frames := 1, cells := 0, slots := 0, locals := 22 } : Room) [.int x] h (jp_R (some (.int (jp_b (jf_within x (nI 0) (nI 7))))) h) := by
  refine jc_of (cc := cX2_isNode) (maxL := 1) (ret := some .boolean) (own := RX2) (lv := [(0, _)]) (by decide) rfl rfl (Nat.le_of_ble_eq_true rfl) rfl (fun X cx => ?_)
  refine jg_iload_n cx dX2_isNode_0 rfl ?_
  refine jg_iconst cx (v := nI 0) dX2_isNode_1 (by decide) ?_
  refine jg_bipush cx (v := nI 7) dX2_isNode_2 (by decide) ?_
  refine jg_callSi cx (n := 3) (jc_X2_isWithin E l) gX2_isNode_X2_isWithin rfl ⟨rfl, rfl⟩ ⟨(Nat.le_of_ble_eq_true rfl), (Nat.le_of_ble_eq_true rfl)⟩ (by decide +kernel) rfl rfl (Nat.le_of_ble_eq_true rfl) dX2_isNode_4 ?_
  exact jg_bret cx dX2_isNode_7 (⟨rfl, rfl⟩)
set_option maxHeartbeats 1000000 in
set_option maxRecDepth 100000 in
theorem jc_X2_isRule (E : jp_E) (l : Launch) {h : jp_H} {x : Int32} : jc_M E l yX2_isRule wsX2_isRule ({ frames := 1, cells := 0, slots := 0, locals := 22 } : Room) [.int x] h (jp_R (some (.int (jp_b (jf_within x (nI 0) (nI 2))))) h) := by
  refine jc_of (cc := cX2_isRule) (maxL := 1) (ret := some .boolean) (own := RX2) (lv := [(0, _)]) (by decide) rfl rfl (Nat.le_of_ble_eq_true rfl) rfl (fun X cx => ?_)
  refine jg_iload_n cx dX2_isRule_0 rfl ?_
  refine jg_iconst cx (v := nI 0) dX2_isRule_1 (by decide) ?_
  refine jg_iconst cx (v := nI 2) dX2_isRule_2 (by decide) ?_
  refine jg_callSi cx (n := 3) (jc_X2_isWithin E l) gX2_isRule_X2_isWithin rfl ⟨rfl, rfl⟩ ⟨(Nat.le_of_ble_eq_true rfl), (Nat.le_of_ble_eq_true rfl)⟩ (by decide +kernel) rfl rfl (Nat.le_of_ble_eq_true rfl) dX2_isRule_3 ?_
  exact jg_bret cx dX2_isRule_6 (⟨rfl, rfl⟩)
set_option maxHeartbeats 1000000 in
set_option maxRecDepth 100000 in
theorem jc_X2_isPart (E : jp_E) (l : Launch) {h : jp_H} {x : Int32} : jc_M E l yX2_isPart wsX2_isPart ({ frames := 1, cells := 0, slots := 0, locals := 22 } : Room) [.int x] h (jp_R (some (.int (jp_b (jf_within x (nI 0) (nI 1))))) h) := by
  refine jc_of (cc := cX2_isPart) (maxL := 1) (ret := some .boolean) (own := RX2) (lv := [(0, _)]) (by decide) rfl rfl (Nat.le_of_ble_eq_true rfl) rfl (fun X cx => ?_)
  refine jg_iload_n cx dX2_isPart_0 rfl ?_
  refine jg_iconst cx (v := nI 0) dX2_isPart_1 (by decide) ?_
  refine jg_iconst cx (v := nI 1) dX2_isPart_2 (by decide) ?_
  refine jg_callSi cx (n := 3) (jc_X2_isWithin E l) gX2_isPart_X2_isWithin rfl ⟨rfl, rfl⟩ ⟨(Nat.le_of_ble_eq_true rfl), (Nat.le_of_ble_eq_true rfl)⟩ (by decide +kernel) rfl rfl (Nat.le_of_ble_eq_true rfl) dX2_isPart_3 ?_
  exact jg_bret cx dX2_isPart_6 (⟨rfl, rfl⟩)
def jf_fdiv (x y : Int32) : Int32 := if 0 ≤ x ^^^ y then x / y else if x / y * y = x then x / y else x / y - nI 1
set_option maxHeartbeats 1000000 in
set_option maxRecDepth 100000 in
theorem jc_J9_floorDiv_7cf53 (E : jp_E) (l : Launch) {h : jp_H} {x y : Int32} (hy : ¬ y = 0) : jc_M E l yJ9_floorDiv_7cf53 wsJ9_floorDiv_7cf53 ({ frames := 0, cells := 0, slots := 0, locals := 0 } : Room) [.int x, .int y] h (jp_R (some (.int (jf_fdiv x y))) h) := by
  refine jc_ofF (cc := cJ9_floorDiv_7cf53) (maxL := 3) (ret := some .int) (own := RJ9) (lv := [(0, _), (1, _)]) (by decide +kernel) rfl rfl (Nat.le_of_ble_eq_true rfl) rfl (fun X cx => ?_)
  refine jg_iload_n cx dJ9_floorDiv_7cf53_0 rfl ?_
  refine jg_iload_n cx dJ9_floorDiv_7cf53_1 rfl ?_
  refine jg_idiv cx dJ9_floorDiv_7cf53_2 (by assumption) ?_
  refine jg_istore_n cx (lv' := [(0, _), (1, _), (2, _)]) dJ9_floorDiv_7cf53_3 (by decide) rfl ?_
  refine jg_iload_n cx dJ9_floorDiv_7cf53_4 rfl ?_
  refine jg_iload_n cx dJ9_floorDiv_7cf53_5 rfl ?_
  refine jg_ixor cx dJ9_floorDiv_7cf53_6 ?_
  refine jg_if_ge cx (tgt := 21) dJ9_floorDiv_7cf53_7 (by decide) (fun c7 => ?_) (fun c7 => ?_)
  · refine jg_iload_n cx dJ9_floorDiv_7cf53_21 rfl ?_
    exact jg_iret cx dJ9_floorDiv_7cf53_22 (⟨(by first | with_reducible rfl | (simp only [jf_fdiv, if_pos c7, ↓reduceIte, Bool.false_eq_true, Bool.true_eq_false, reduceCtorEq, eq_self, if_true, if_false, Bool.not_true, Bool.not_false]; first | done | rfl)), rfl⟩)
  · refine jg_iload_n cx dJ9_floorDiv_7cf53_10 rfl ?_
    refine jg_iload_n cx dJ9_floorDiv_7cf53_11 rfl ?_
    refine jg_imul cx dJ9_floorDiv_7cf53_12 ?_
    refine jg_iload_n cx dJ9_floorDiv_7cf53_13 rfl ?_
    refine jg_icmp_eq cx (tgt := 21) dJ9_floorDiv_7cf53_14 (by decide) (fun c14 => ?_) (fun c14 => ?_)
    · refine jg_iload_n cx dJ9_floorDiv_7cf53_21 rfl ?_
      exact jg_iret cx dJ9_floorDiv_7cf53_22 (⟨(by first | with_reducible rfl | (simp only [jf_fdiv, if_neg c7, if_pos c14, ↓reduceIte, Bool.false_eq_true, Bool.true_eq_false, reduceCtorEq, eq_self, if_true, if_false, Bool.not_true, Bool.not_false]; first | done | rfl)), rfl⟩)
    · refine jg_iload_n cx dJ9_floorDiv_7cf53_17 rfl ?_
      refine jg_iconst cx (v := nI 1) dJ9_floorDiv_7cf53_18 (by decide) ?_
      refine jg_isub cx dJ9_floorDiv_7cf53_19 ?_
      exact jg_iret cx dJ9_floorDiv_7cf53_20 (⟨(by first | with_reducible rfl | (simp only [jf_fdiv, if_neg c7, if_neg c14, ↓reduceIte, Bool.false_eq_true, Bool.true_eq_false, reduceCtorEq, eq_self, if_true, if_false, Bool.not_true, Bool.not_false]; first | done | rfl)), rfl⟩)
def jf_joins (N : jf_B) (a c : Nat) : Bool := if N 5 (jf_spot a c) = -1 then false else true
set_option maxHeartbeats 1000000 in
set_option maxRecDepth 100000 in
theorem jc_X0_joins (E : jp_E) (l : Launch) {b : Nat} {h : jp_H} {N : jf_B} {L : jf_L} (hb : jp_net b) {a c : Nat} (ha : a < 8) (hc : c < 8) : jc_M E l yX0_joins wsX0_joins ({ frames := 1, cells := 0, slots := 0, locals := 21 } : Room) [.ref (E.2.1 b 0), .int (nI a), .int (nI c)] (jp_u h b N L) (jp_R (some (.int (jp_b (jf_joins N a c)))) (jp_u h b N L)) := by
  refine jc_of (cc := cX0_joins) (maxL := 3) (ret := some .boolean) (own := RX0) (lv := [(0, _), (1, _), (2, _)]) (by decide) rfl rfl (Nat.le_of_ble_eq_true rfl) rfl (fun X cx => ?_)
  have inX0 : ∀ w ∈ u_ws RX0 TX0 9, w ∈ wsX0_joins := by decide +kernel
  have f24 : Cond.fieldLink RX0 24 "JobSpread$Net" "colour" "[I" ∈ wsX0_joins := by decide +kernel
  refine jg_aload_n cx dX0_joins_0 rfl ?_
  refine jg_get cx (jp_net_o hb) rfl inX0 4 (by decide) f24 rfl dX0_joins_1 ?_
  refine jg_iload_n cx dX0_joins_4 rfl ?_
  refine jg_iload_n cx dX0_joins_5 rfl ?_
  refine jg_callSNi cx (n := 2) (jc_X2_spotN E l (by omega) (by omega)) gX0_joins_X2_spot_n46 (by decide +kernel) (by decide +kernel) (by decide +kernel) rfl ⟨rfl, rfl⟩ ⟨(Nat.le_of_ble_eq_true rfl), (Nat.le_of_ble_eq_true rfl)⟩ (by decide +kernel) rfl rfl (Nat.le_of_ble_eq_true rfl) dX0_joins_6 ?_
  refine jg_ialdU cx dX0_joins_9 ((jp_net_5 hb)) rfl (jf_spot_lt (by omega) (by omega)) ?_
  refine jg_iconst cx (v := (-1)) dX0_joins_10 (by decide) ?_
  refine jg_icmp_eq cx (tgt := 18) dX0_joins_11 (by decide) (fun c11 => ?_) (fun c11 => ?_)
  · refine jg_iconst cx (v := jp_b false) dX0_joins_18 (by decide) ?_
    exact jg_bret cx dX0_joins_19 (⟨(by first | with_reducible rfl | (simp only [jf_joins, if_pos c11, ↓reduceIte, Bool.false_eq_true, Bool.true_eq_false, reduceCtorEq, eq_self, if_true, if_false, Bool.not_true, Bool.not_false]; first | done | rfl)), rfl⟩)
  · refine jg_iconst cx (v := jp_b true) dX0_joins_14 (by decide) ?_
    refine jg_goto cx (tgt := 19) dX0_joins_15 (by decide) ?_
    exact jg_bret cx dX0_joins_19 (⟨(by first | with_reducible rfl | (simp only [jf_joins, if_neg c11, ↓reduceIte, Bool.false_eq_true, Bool.true_eq_false, reduceCtorEq, eq_self, if_true, if_false, Bool.not_true, Bool.not_false]; first | done | rfl)), rfl⟩)
def jf_lift (N : jf_B) (a c : Nat) : jf_B :=
  if jf_joins N a c then
    let N1 := jf_w N 5 (jf_spot a c) (-1)
    let N2 := jf_w N1 6 (jf_spot a c) (nI 0)
    let N3 := jf_w N2 4 a (N2 4 a - nI 1)
    let N4 := jf_w N3 4 c (N3 4 c - nI 1)
    jf_w N4 0 7 (N4 0 7 - nI 1)
  else N
set_option maxHeartbeats 1000000 in
set_option maxRecDepth 100000 in
theorem jc_X0_lift (E : jp_E) (l : Launch) {b : Nat} {h : jp_H} {N : jf_B} {L : jf_L} (hb : jp_net b) {a c : Nat} (ha : a < 8) (hc : c < 8) : jc_M E l yX0_lift wsX0_lift ({ frames := 2, cells := 0, slots := 0, locals := 43 } : Room) [.ref (E.2.1 b 0), .int (nI a), .int (nI c)] (jp_u h b N L) (jp_R none (jp_u h b (jf_lift N a c) L)) := by
  refine jc_of (cc := cX0_lift) (maxL := 3) (ret := none) (own := RX0) (lv := [(0, _), (1, _), (2, _)]) (by decide) rfl rfl (Nat.le_of_ble_eq_true rfl) rfl (fun X cx => ?_)
  have inX0 : ∀ w ∈ u_ws RX0 TX0 9, w ∈ wsX0_lift := by decide +kernel
  have f21 : Cond.fieldLink RX0 21 "JobSpread$Net" "degree" "[I" ∈ wsX0_lift := by decide +kernel
  have f24 : Cond.fieldLink RX0 24 "JobSpread$Net" "colour" "[I" ∈ wsX0_lift := by decide +kernel
  have f27 : Cond.fieldLink RX0 27 "JobSpread$Net" "carry" "[I" ∈ wsX0_lift := by decide +kernel
  have f33 : Cond.fieldLink RX0 33 "JobSpread$Net" "edges" "I" ∈ wsX0_lift := by decide +kernel
  refine jg_aload_n cx dX0_lift_0 rfl ?_
  refine jg_iload_n cx dX0_lift_1 rfl ?_
  refine jg_iload_n cx dX0_lift_2 rfl ?_
  refine jg_callVi cx (n := 2) (jc_X0_joins E l hb (by omega) (by omega)) gX0_lift_X0_joins rfl ⟨rfl, rfl⟩ ⟨(Nat.le_of_ble_eq_true rfl), (Nat.le_of_ble_eq_true rfl)⟩ (by decide +kernel) (jp_net_o hb) rfl rfl rfl (Nat.le_of_ble_eq_true rfl) dX0_lift_3 ?_
  refine jg_ifb_ne cx (tgt := 10) dX0_lift_6 (by decide) (fun c6 => ?_) (fun c6 => ?_)
  · refine jg_aload_n cx dX0_lift_10 rfl ?_
    refine jg_get cx (jp_net_o hb) rfl inX0 4 (by decide) f24 rfl dX0_lift_11 ?_
    refine jg_iload_n cx dX0_lift_14 rfl ?_
    refine jg_iload_n cx dX0_lift_15 rfl ?_
    refine jg_callSNi cx (n := 2) (jc_X2_spotN E l (by omega) (by omega)) gX0_lift_X2_spot_n46 (by decide +kernel) (by decide +kernel) (by decide +kernel) rfl ⟨rfl, rfl⟩ ⟨(Nat.le_of_ble_eq_true rfl), (Nat.le_of_ble_eq_true rfl)⟩ (by decide +kernel) rfl rfl (Nat.le_of_ble_eq_true rfl) dX0_lift_16 ?_
    refine jg_iconst cx (v := (-1)) dX0_lift_19 (by decide) ?_
    refine jg_iastU cx dX0_lift_20 ((jp_net_5 hb)) rfl (jf_spot_lt (by omega) (by omega)) ?_
    refine jg_aload_n cx dX0_lift_21 rfl ?_
    refine jg_get cx (jp_net_o hb) rfl inX0 5 (by decide) f27 rfl dX0_lift_22 ?_
    refine jg_iload_n cx dX0_lift_25 rfl ?_
    refine jg_iload_n cx dX0_lift_26 rfl ?_
    refine jg_callSNi cx (n := 2) (jc_X2_spotN E l (by omega) (by omega)) gX0_lift_X2_spot_n46 (by decide +kernel) (by decide +kernel) (by decide +kernel) rfl ⟨rfl, rfl⟩ ⟨(Nat.le_of_ble_eq_true rfl), (Nat.le_of_ble_eq_true rfl)⟩ (by decide +kernel) rfl rfl (Nat.le_of_ble_eq_true rfl) dX0_lift_27 ?_
    refine jg_iconst cx (v := nI 0) dX0_lift_30 (by decide) ?_
    refine jg_iastU cx dX0_lift_31 ((jp_net_6 hb)) rfl (jf_spot_lt (by omega) (by omega)) ?_
    refine jg_aload_n cx dX0_lift_32 rfl ?_
    refine jg_get cx (jp_net_o hb) rfl inX0 3 (by decide) f21 rfl dX0_lift_33 ?_
    refine jg_iload_n cx dX0_lift_36 rfl ?_
    refine jg_dup2 cx dX0_lift_37 rfl rfl ?_
    refine jg_ialdU cx dX0_lift_38 ((jp_net_4 hb)) rfl (by omega) ?_
    refine jg_iconst cx (v := nI 1) dX0_lift_39 (by decide) ?_
    refine jg_isub cx dX0_lift_40 ?_
    refine jg_iastU cx dX0_lift_41 ((jp_net_4 hb)) rfl (by omega) ?_
    refine jg_aload_n cx dX0_lift_42 rfl ?_
    refine jg_get cx (jp_net_o hb) rfl inX0 3 (by decide) f21 rfl dX0_lift_43 ?_
    refine jg_iload_n cx dX0_lift_46 rfl ?_
    refine jg_dup2 cx dX0_lift_47 rfl rfl ?_
    refine jg_ialdU cx dX0_lift_48 ((jp_net_4 hb)) rfl (by omega) ?_
    refine jg_iconst cx (v := nI 1) dX0_lift_49 (by decide) ?_
    refine jg_isub cx dX0_lift_50 ?_
    refine jg_iastU cx dX0_lift_51 ((jp_net_4 hb)) rfl (by omega) ?_
    refine jg_aload_n cx dX0_lift_52 rfl ?_
    refine jg_dup cx dX0_lift_53 rfl ?_
    refine jg_getU cx (jp_net_o hb) rfl inX0 7 (by decide) f33 rfl dX0_lift_54 ?_
    refine jg_iconst cx (v := nI 1) dX0_lift_57 (by decide) ?_
    refine jg_isub cx dX0_lift_58 ?_
    refine jg_putU cx (jp_net_o hb) rfl inX0 tyX0 tyX0_ok nmX0 7 (by decide) f33 rfl (by decide +kernel) (Nat.le_of_ble_eq_true rfl) (jp_put0_7 _ _ _ _) dX0_lift_59 ?_
    exact jg_vret cx dX0_lift_62 (⟨rfl, (by first | with_reducible rfl | (simp only [jf_lift, c6, ↓reduceIte, Bool.false_eq_true, Bool.true_eq_false, reduceCtorEq, eq_self, if_true, if_false, Bool.not_true, Bool.not_false]; first | done | rfl))⟩)
  · exact jg_vret cx dX0_lift_9 (⟨rfl, (by first | with_reducible rfl | (simp only [jf_lift, c6, ↓reduceIte, Bool.false_eq_true, Bool.true_eq_false, reduceCtorEq, eq_self, if_true, if_false, Bool.not_true, Bool.not_false]; first | done | rfl))⟩)
def jf_lay (N : jf_B) (a c : Nat) (k : Int32) : jf_B :=
  let N1 := jf_w (jf_lift N a c) 5 (jf_spot a c) k
  let N2 := jf_w N1 4 a (N1 4 a + nI 1)
  let N3 := jf_w N2 4 c (N2 4 c + nI 1)
  jf_w N3 0 7 (N3 0 7 + nI 1)
set_option maxHeartbeats 1000000 in
set_option maxRecDepth 100000 in
theorem jc_X0_lay (E : jp_E) (l : Launch) {b : Nat} {h : jp_H} {N : jf_B} {L : jf_L} (hb : jp_net b) {a c : Nat} {k : Int32} (ha : a < 8) (hc : c < 8) : jc_M E l yX0_lay wsX0_lay ({ frames := 3, cells := 0, slots := 0, locals := 65 } : Room) [.ref (E.2.1 b 0), .int (nI a), .int (nI c), .int k] (jp_u h b N L) (jp_R none (jp_u h b (jf_lay N a c k) L)) := by
  refine jc_of (cc := cX0_lay) (maxL := 4) (ret := none) (own := RX0) (lv := [(0, _), (1, _), (2, _), (3, _)]) (by decide) rfl rfl (Nat.le_of_ble_eq_true rfl) rfl (fun X cx => ?_)
  have inX0 : ∀ w ∈ u_ws RX0 TX0 9, w ∈ wsX0_lay := by decide +kernel
  have f21 : Cond.fieldLink RX0 21 "JobSpread$Net" "degree" "[I" ∈ wsX0_lay := by decide +kernel
  have f24 : Cond.fieldLink RX0 24 "JobSpread$Net" "colour" "[I" ∈ wsX0_lay := by decide +kernel
  have f33 : Cond.fieldLink RX0 33 "JobSpread$Net" "edges" "I" ∈ wsX0_lay := by decide +kernel
  refine jg_aload_n cx dX0_lay_0 rfl ?_
  refine jg_iload_n cx dX0_lay_1 rfl ?_
  refine jg_iload_n cx dX0_lay_2 rfl ?_
  refine jg_callVv cx (n := 2) (jc_X0_lift E l hb (by omega) (by omega)) gX0_lay_X0_lift rfl ⟨rfl, rfl⟩ ⟨(Nat.le_of_ble_eq_true rfl), (Nat.le_of_ble_eq_true rfl)⟩ (by decide +kernel) (jp_net_o hb) rfl rfl rfl (Nat.le_of_ble_eq_true rfl) dX0_lay_3 ?_
  refine jg_aload_n cx dX0_lay_6 rfl ?_
  refine jg_get cx (jp_net_o hb) rfl inX0 4 (by decide) f24 rfl dX0_lay_7 ?_
  refine jg_iload_n cx dX0_lay_10 rfl ?_
  refine jg_iload_n cx dX0_lay_11 rfl ?_
  refine jg_callSNi cx (n := 2) (jc_X2_spotN E l (by omega) (by omega)) gX0_lay_X2_spot_n46 (by decide +kernel) (by decide +kernel) (by decide +kernel) rfl ⟨rfl, rfl⟩ ⟨(Nat.le_of_ble_eq_true rfl), (Nat.le_of_ble_eq_true rfl)⟩ (by decide +kernel) rfl rfl (Nat.le_of_ble_eq_true rfl) dX0_lay_12 ?_
  refine jg_iload_n cx dX0_lay_15 rfl ?_
  refine jg_iastU cx dX0_lay_16 ((jp_net_5 hb)) rfl (jf_spot_lt (by omega) (by omega)) ?_
  refine jg_aload_n cx dX0_lay_17 rfl ?_
  refine jg_get cx (jp_net_o hb) rfl inX0 3 (by decide) f21 rfl dX0_lay_18 ?_
  refine jg_iload_n cx dX0_lay_21 rfl ?_
  refine jg_dup2 cx dX0_lay_22 rfl rfl ?_
  refine jg_ialdU cx dX0_lay_23 ((jp_net_4 hb)) rfl (by omega) ?_
  refine jg_iconst cx (v := nI 1) dX0_lay_24 (by decide) ?_
  refine jg_iadd cx dX0_lay_25 ?_
  refine jg_iastU cx dX0_lay_26 ((jp_net_4 hb)) rfl (by omega) ?_
  refine jg_aload_n cx dX0_lay_27 rfl ?_
  refine jg_get cx (jp_net_o hb) rfl inX0 3 (by decide) f21 rfl dX0_lay_28 ?_
  refine jg_iload_n cx dX0_lay_31 rfl ?_
  refine jg_dup2 cx dX0_lay_32 rfl rfl ?_
  refine jg_ialdU cx dX0_lay_33 ((jp_net_4 hb)) rfl (by omega) ?_
  refine jg_iconst cx (v := nI 1) dX0_lay_34 (by decide) ?_
  refine jg_iadd cx dX0_lay_35 ?_
  refine jg_iastU cx dX0_lay_36 ((jp_net_4 hb)) rfl (by omega) ?_
  refine jg_aload_n cx dX0_lay_37 rfl ?_
  refine jg_dup cx dX0_lay_38 rfl ?_
  refine jg_getU cx (jp_net_o hb) rfl inX0 7 (by decide) f33 rfl dX0_lay_39 ?_
  refine jg_iconst cx (v := nI 1) dX0_lay_42 (by decide) ?_
  refine jg_iadd cx dX0_lay_43 ?_
  refine jg_putU cx (jp_net_o hb) rfl inX0 tyX0 tyX0_ok nmX0 7 (by decide) f33 rfl (by decide +kernel) (Nat.le_of_ble_eq_true rfl) (jp_put0_7 _ _ _ _) dX0_lay_44 ?_
  exact jg_vret cx dX0_lay_47 (⟨rfl, rfl⟩)
def jf_liftR (a : Nat) (N : jf_B) : jf_B := jf_fr (fun c M => jf_lift M a c) N (a + 1) (8 - (a + 1))
def jf_liftAll (N : jf_B) : jf_B := jf_it jf_liftR N 8
set_option maxHeartbeats 1000000 in
set_option maxRecDepth 100000 in
theorem jc_X0_liftAll (E : jp_E) (l : Launch) {b : Nat} {h : jp_H} {N : jf_B} {L : jf_L} (hb : jp_net b)  : jc_M E l yX0_liftAll wsX0_liftAll ({ frames := 3, cells := 0, slots := 0, locals := 65 } : Room) [.ref (E.2.1 b 0)] (jp_u h b N L) (jp_R none (jp_u h b (jf_liftAll N) L)) := by
  refine jc_of (cc := cX0_liftAll) (maxL := 3) (ret := none) (own := RX0) (lv := [(0, _)]) (by decide) rfl rfl (Nat.le_of_ble_eq_true rfl) rfl (fun X cx => ?_)
  refine jg_iconst cx (v := nI 0) dX0_liftAll_0 (by decide) ?_
  refine jg_istore_n cx (lv' := [(0, _), (1, _)]) dX0_liftAll_1 (by decide) rfl ?_
  have lp2 : ∀ (d2 a : Nat), a + d2 = 8 → X 2 [(0, .ref (E.2.1 b 0)), (1, .int (nI a))] [] (jp_u h b (jf_it jf_liftR N a) L) := by
    intro d2
    induction d2 with
    | zero =>
      intro a  hr2 
      obtain rfl : a = 8 := by omega
      refine jg_iload_n cx dX0_liftAll_2 rfl ?_
      refine jg_bipush cx (v := nI 8) dX0_liftAll_3 (by decide) ?_
      refine jg_icmpN_ge cx (tgt := 36) dX0_liftAll_5 (by decide) (by omega) (by omega) (fun c5 => ?_) (fun c5 => ?_)
      · exact jg_vret cx dX0_liftAll_36 (⟨rfl, rfl⟩)
      · exact absurd hr2 (by omega)
    | succ d2 ih2 =>
      intro a  hr2 
      refine jg_iload_n cx dX0_liftAll_2 rfl ?_
      refine jg_bipush cx (v := nI 8) dX0_liftAll_3 (by decide) ?_
      refine jg_icmpN_ge cx (tgt := 36) dX0_liftAll_5 (by decide) (by omega) (by omega) (fun c5 => ?_) (fun c5 => ?_)
      · exact absurd hr2 (by omega)
      · refine jg_iload_n cx dX0_liftAll_8 rfl ?_
        refine jg_iconst cx (v := nI 1) dX0_liftAll_9 (by decide) ?_
        refine jg_iaddN cx dX0_liftAll_10 ?_
        refine jg_istore_n cx (lv' := [(0, _), (1, _), (2, _)]) dX0_liftAll_11 (by decide) rfl ?_
        have lp12 : ∀ (d12 n : Nat), a + 1 + n + d12 = 8 → X 12 [(0, .ref (E.2.1 b 0)), (1, .int (nI a)), (2, .int (nI (a + 1 + n)))] [] (jp_u h b (jf_fr (fun c M => jf_lift M a c) (jf_it jf_liftR N a) (a + 1) n) L) := by
          intro d12
          induction d12 with
          | zero =>
            intro n  hr12 
            obtain rfl : n = 8 - (a + 1) := by omega
            refine jg_iload_n cx dX0_liftAll_12 rfl ?_
            refine jg_bipush cx (v := nI 8) dX0_liftAll_13 (by decide) ?_
            refine jg_icmpN_ge cx (tgt := 30) dX0_liftAll_15 (by decide) (by omega) (by omega) (fun c15 => ?_) (fun c15 => ?_)
            · refine jg_iincN cx (d := 1) (lv' := [(0, _), (1, _), (2, _)]) dX0_liftAll_30 rfl (by decide) (by decide) rfl ?_
              refine jg_goto cx (tgt := 2) dX0_liftAll_33 (by decide) ?_
              refine jg_sub cx (lv' := [(0, _), (1, _)]) [0, 1] rfl ?_
              exact jg_to (ih2 (a + 1)  (by omega) ) rfl rfl rfl
            · exact absurd hr12 (by omega)
          | succ d12 ih12 =>
            intro n  hr12 
            refine jg_iload_n cx dX0_liftAll_12 rfl ?_
            refine jg_bipush cx (v := nI 8) dX0_liftAll_13 (by decide) ?_
            refine jg_icmpN_ge cx (tgt := 30) dX0_liftAll_15 (by decide) (by omega) (by omega) (fun c15 => ?_) (fun c15 => ?_)
            · exact absurd hr12 (by omega)
            · refine jg_aload_n cx dX0_liftAll_18 rfl ?_
              refine jg_iload_n cx dX0_liftAll_19 rfl ?_
              refine jg_iload_n cx dX0_liftAll_20 rfl ?_
              refine jg_callVv cx (n := 2) (jc_X0_lift E l hb (by omega) (by omega)) gX0_liftAll_X0_lift rfl ⟨rfl, rfl⟩ ⟨(Nat.le_of_ble_eq_true rfl), (Nat.le_of_ble_eq_true rfl)⟩ (by decide +kernel) (jp_net_o hb) rfl rfl rfl (Nat.le_of_ble_eq_true rfl) dX0_liftAll_21 ?_
              refine jg_iincN cx (d := 1) (lv' := [(0, _), (1, _), (2, _)]) dX0_liftAll_24 rfl (by decide) (by decide) rfl ?_
              refine jg_goto cx (tgt := 12) dX0_liftAll_27 (by decide) ?_
              exact jg_to (ih12 (n + 1)  (by omega) ) rfl rfl rfl
        exact jg_to (lp12 (8 - (a + 1)) 0  (by omega) ) rfl rfl rfl
  exact jg_to (lp2 8 0  (by omega) ) rfl rfl rfl
