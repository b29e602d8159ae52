/-! ===== the net, what it tells ===== -/
abbrev jf_rem (x y : Int32) : Int32 := x - x / y * y
def jf_slots (N : jf_B) (i : Nat) : Int32 := if N 4 i ≤ 0 then nI 1 else N 4 i + nI 1
theorem jf_slots_ne (N : jf_B) (i : Nat) : ¬ jf_slots N i = 0 := by
  unfold jf_slots
  split
  · decide
  · next q =>
    intro e
    apply q
    have e2 : N 4 i = -1 := by
      have := congrArg (· - nI 1) e
      simp only [Int32.add_sub_cancel] at this
      rw [this]
      decide
    rw [e2]
    decide
set_option maxHeartbeats 1000000 in
set_option maxRecDepth 100000 in
theorem jc_X0_slots (E : jp_E) (l : Launch) {b : Nat} {h : jp_H} {N : jf_B} {L : jf_L} (hb : jp_net b) {i : Nat} (hi : i < 8) : jc_M E l yX0_slots wsX0_slots ({ frames := 0, cells := 0, slots := 0, locals := 0 } : Room) [.ref (E.2.1 b 0), .int (nI i)] (jp_u h b N L) (jp_R (some (.int (jf_slots N i))) (jp_u h b N L)) := by
  refine jc_of (cc := cX0_slots) (maxL := 2) (ret := some .int) (own := RX0) (lv := [(0, _), (1, _)]) (by decide) rfl rfl (Nat.le_of_ble_eq_true rfl) rfl (fun X cx => ?_)
  have inX0 : ∀ w ∈ u_ws RX0 TX0 9, w ∈ wsX0_slots := by decide +kernel
  have f21 : Cond.fieldLink RX0 21 "JobSpread$Net" "degree" "[I" ∈ wsX0_slots := by decide +kernel
  refine jg_aload_n cx dX0_slots_0 rfl ?_
  refine jg_get cx (jp_net_o hb) rfl inX0 3 (by decide) f21 rfl dX0_slots_1 ?_
  refine jg_iload_n cx dX0_slots_4 rfl ?_
  refine jg_ialdU cx dX0_slots_5 ((jp_net_4 hb)) rfl (by omega) ?_
  refine jg_if_le cx (tgt := 20) dX0_slots_6 (by decide) (fun c6 => ?_) (fun c6 => ?_)
  · refine jg_iconst cx (v := nI 1) dX0_slots_20 (by decide) ?_
    exact jg_iret cx dX0_slots_21 (⟨(by first | with_reducible rfl | (simp only [jf_slots, if_pos c6, ↓reduceIte, Bool.false_eq_true, Bool.true_eq_false, reduceCtorEq, eq_self, if_true, if_false, Bool.not_true, Bool.not_false]; first | done | rfl)), rfl⟩)
  · refine jg_aload_n cx dX0_slots_9 rfl ?_
    refine jg_get cx (jp_net_o hb) rfl inX0 3 (by decide) f21 rfl dX0_slots_10 ?_
    refine jg_iload_n cx dX0_slots_13 rfl ?_
    refine jg_ialdU cx dX0_slots_14 ((jp_net_4 hb)) rfl (by omega) ?_
    refine jg_iconst cx (v := nI 1) dX0_slots_15 (by decide) ?_
    refine jg_iadd cx dX0_slots_16 ?_
    refine jg_goto cx (tgt := 21) dX0_slots_17 (by decide) ?_
    exact jg_iret cx dX0_slots_21 (⟨(by first | with_reducible rfl | (simp only [jf_slots, if_neg c6, ↓reduceIte, Bool.false_eq_true, Bool.true_eq_false, reduceCtorEq, eq_self, if_true, if_false, Bool.not_true, Bool.not_false]; first | done | rfl)), rfl⟩)
def jf_rlo (N : jf_B) (i : Nat) : Int32 := jf_rem (N 3 i) (jf_slots N i)
set_option maxHeartbeats 1000000 in
set_option maxRecDepth 100000 in
theorem jc_X0_rotorLeftOver (E : jp_E) (l : Launch) {b : Nat} {h : jp_H} {N : jf_B} {L : jf_L} (hb : jp_net b) {i : Nat} (hi : i < 8) : jc_M E l yX0_rotorLeftOver wsX0_rotorLeftOver ({ frames := 1, cells := 0, slots := 0, locals := 21 } : Room) [.ref (E.2.1 b 0), .int (nI i)] (jp_u h b N L) (jp_R (some (.int (jf_rlo N i))) (jp_u h b N L)) := by
  refine jc_of (cc := cX0_rotorLeftOver) (maxL := 2) (ret := some .int) (own := RX0) (lv := [(0, _), (1, _)]) (by decide) rfl rfl (Nat.le_of_ble_eq_true rfl) rfl (fun X cx => ?_)
  have inX0 : ∀ w ∈ u_ws RX0 TX0 9, w ∈ wsX0_rotorLeftOver := by decide +kernel
  have f18 : Cond.fieldLink RX0 18 "JobSpread$Net" "rotor" "[I" ∈ wsX0_rotorLeftOver := by decide +kernel
  refine jg_aload_n cx dX0_rotorLeftOver_0 rfl ?_
  refine jg_get cx (jp_net_o hb) rfl inX0 2 (by decide) f18 rfl dX0_rotorLeftOver_1 ?_
  refine jg_iload_n cx dX0_rotorLeftOver_4 rfl ?_
  refine jg_ialdU cx dX0_rotorLeftOver_5 ((jp_net_3 hb)) rfl (by omega) ?_
  refine jg_aload_n cx dX0_rotorLeftOver_6 rfl ?_
  refine jg_iload_n cx dX0_rotorLeftOver_7 rfl ?_
  refine jg_callVi cx (n := 1) (jc_X0_slots E l hb (by omega)) gX0_rotorLeftOver_X0_slots rfl ⟨rfl, rfl⟩ ⟨(Nat.le_of_ble_eq_true rfl), (Nat.le_of_ble_eq_true rfl)⟩ (by decide +kernel) (jp_net_o hb) rfl rfl rfl (Nat.le_of_ble_eq_true rfl) dX0_rotorLeftOver_8 ?_
  refine jg_irem cx dX0_rotorLeftOver_11 (jf_slots_ne N i) ?_
  exact jg_iret cx dX0_rotorLeftOver_12 (⟨rfl, rfl⟩)
def jf_most (N : jf_B) : Nat → Int32
  | 0 => nI 1
  | n + 1 => if jf_most N n < jf_slots N n then jf_slots N n else jf_most N n
def jf_measure (N : jf_B) : Int32 := nI 4 * jf_most N 8
set_option maxHeartbeats 1000000 in
set_option maxRecDepth 100000 in
theorem jc_X0_measure (E : jp_E) (l : Launch) {b : Nat} {h : jp_H} {N : jf_B} {L : jf_L} (hb : jp_net b)  : jc_M E l yX0_measure wsX0_measure ({ frames := 1, cells := 0, slots := 0, locals := 21 } : Room) [.ref (E.2.1 b 0)] (jp_u h b N L) (jp_R (some (.int (jf_measure N))) (jp_u h b N L)) := by
  refine jc_of (cc := cX0_measure) (maxL := 3) (ret := some .int) (own := RX0) (lv := [(0, _)]) (by decide) rfl rfl (Nat.le_of_ble_eq_true rfl) rfl (fun X cx => ?_)
  refine jg_iconst cx (v := nI 1) dX0_measure_0 (by decide) ?_
  refine jg_istore_n cx (lv' := [(0, _), (1, _)]) dX0_measure_1 (by decide) rfl ?_
  refine jg_iconst cx (v := nI 0) dX0_measure_2 (by decide) ?_
  refine jg_istore_n cx (lv' := [(0, _), (1, _), (2, _)]) dX0_measure_3 (by decide) rfl ?_
  have lp4 : ∀ (d4 i : Nat), i + d4 = 8 → X 4 [(0, .ref (E.2.1 b 0)), (1, .int (jf_most N i)), (2, .int (nI i))] [] (jp_u h b N L) := by
    intro d4
    induction d4 with
    | zero =>
      intro i  hr4 
      obtain rfl : i = 8 := by omega
      refine jg_iload_n cx dX0_measure_4 rfl ?_
      refine jg_bipush cx (v := nI 8) dX0_measure_5 (by decide) ?_
      refine jg_icmpN_ge cx (tgt := 26) dX0_measure_7 (by decide) (by omega) (by omega) (fun c7 => ?_) (fun c7 => ?_)
      · refine jg_iconst cx (v := nI 4) dX0_measure_26 (by decide) ?_
        refine jg_iload_n cx dX0_measure_27 rfl ?_
        refine jg_imul cx dX0_measure_28 ?_
        exact jg_iret cx dX0_measure_29 (⟨rfl, rfl⟩)
      · exact absurd hr4 (by omega)
    | succ d4 ih4 =>
      intro i  hr4 
      refine jg_iload_n cx dX0_measure_4 rfl ?_
      refine jg_bipush cx (v := nI 8) dX0_measure_5 (by decide) ?_
      refine jg_icmpN_ge cx (tgt := 26) dX0_measure_7 (by decide) (by omega) (by omega) (fun c7 => ?_) (fun c7 => ?_)
      · exact absurd hr4 (by omega)
      · refine jg_iload_n cx dX0_measure_10 rfl ?_
        refine jg_aload_n cx dX0_measure_11 rfl ?_
        refine jg_iload_n cx dX0_measure_12 rfl ?_
        refine jg_callVi cx (n := 1) (jc_X0_slots E l hb (by omega)) gX0_measure_X0_slots rfl ⟨rfl, rfl⟩ ⟨(Nat.le_of_ble_eq_true rfl), (Nat.le_of_ble_eq_true rfl)⟩ (by decide +kernel) (jp_net_o hb) rfl rfl rfl (Nat.le_of_ble_eq_true rfl) dX0_measure_13 ?_
        refine jg_max cx (by decide +kernel) (by decide +kernel) (by decide +kernel) (by decide +kernel) (Nat.le_of_ble_eq_true rfl) (Nat.le_of_ble_eq_true rfl) dX0_measure_16 ?_
        refine jg_istore_n cx (lv' := [(0, _), (1, _), (2, _)]) dX0_measure_19 (by decide) rfl ?_
        refine jg_iincN cx (d := 1) (lv' := [(0, _), (1, _), (2, _)]) dX0_measure_20 rfl (by decide) (by decide) rfl ?_
        refine jg_goto cx (tgt := 4) dX0_measure_23 (by decide) ?_
        exact jg_to (ih4 (i + 1)  (by omega) ) rfl rfl rfl
  exact jg_to (lp4 8 0  (by omega) ) rfl rfl rfl
def jf_great (N : jf_B) : Nat → Int32
  | 0 => nI 0
  | n + 1 => if jf_great N n < N 5 n then N 5 n else jf_great N n
def jf_colours (N : jf_B) : Int32 := jf_great N 64 + nI 1
theorem jf_great_ge (N : jf_B) : ∀ n, 0 ≤ jf_great N n
  | 0 => by show (0 : Int32) ≤ nI 0; decide
  | n + 1 => by
    unfold jf_great
    have := jf_great_ge N n
    split
    · next q => exact Int32.le_of_lt (Int32.lt_of_le_of_lt this q)
    · exact this
theorem jf_colours_ne (N : jf_B) : ¬ jf_colours N = 0 := by
  unfold jf_colours
  intro e
  have e2 : jf_great N 64 = -1 := by
    have := congrArg (· - nI 1) e
    simp only [Int32.add_sub_cancel] at this
    rw [this]
    decide
  have := jf_great_ge N 64
  rw [e2] at this
  exact absurd this (by decide)
set_option maxHeartbeats 1000000 in
set_option maxRecDepth 100000 in
theorem jc_X0_colours (E : jp_E) (l : Launch) {b : Nat} {h : jp_H} {N : jf_B} {L : jf_L} (hb : jp_net b)  : jc_M E l yX0_colours wsX0_colours ({ frames := 1, cells := 0, slots := 0, locals := 21 } : Room) [.ref (E.2.1 b 0)] (jp_u h b N L) (jp_R (some (.int (jf_colours N))) (jp_u h b N L)) := by
  refine jc_of (cc := cX0_colours) (maxL := 3) (ret := some .int) (own := RX0) (lv := [(0, _)]) (by decide) rfl rfl (Nat.le_of_ble_eq_true rfl) rfl (fun X cx => ?_)
  have inX0 : ∀ w ∈ u_ws RX0 TX0 9, w ∈ wsX0_colours := by decide +kernel
  have f24 : Cond.fieldLink RX0 24 "JobSpread$Net" "colour" "[I" ∈ wsX0_colours := by decide +kernel
  refine jg_iconst cx (v := nI 0) dX0_colours_0 (by decide) ?_
  refine jg_istore_n cx (lv' := [(0, _), (1, _)]) dX0_colours_1 (by decide) rfl ?_
  refine jg_iconst cx (v := nI 0) dX0_colours_2 (by decide) ?_
  refine jg_istore_n cx (lv' := [(0, _), (1, _), (2, _)]) dX0_colours_3 (by decide) rfl ?_
  have lp4 : ∀ (d4 i : Nat), i + d4 = 64 → X 4 [(0, .ref (E.2.1 b 0)), (1, .int (jf_great N i)), (2, .int (nI i))] [] (jp_u h b N L) := by
    intro d4
    induction d4 with
    | zero =>
      intro i  hr4 
      obtain rfl : i = 64 := by omega
      refine jg_iload_n cx dX0_colours_4 rfl ?_
      refine jg_bipush cx (v := nI 64) dX0_colours_5 (by decide) ?_
      refine jg_icmpN_ge cx (tgt := 27) dX0_colours_7 (by decide) (by omega) (by omega) (fun c7 => ?_) (fun c7 => ?_)
      · refine jg_iload_n cx dX0_colours_27 rfl ?_
        refine jg_iconst cx (v := nI 1) dX0_colours_28 (by decide) ?_
        refine jg_iadd cx dX0_colours_29 ?_
        exact jg_iret cx dX0_colours_30 (⟨rfl, rfl⟩)
      · exact absurd hr4 (by omega)
    | succ d4 ih4 =>
      intro i  hr4 
      refine jg_iload_n cx dX0_colours_4 rfl ?_
      refine jg_bipush cx (v := nI 64) dX0_colours_5 (by decide) ?_
      refine jg_icmpN_ge cx (tgt := 27) dX0_colours_7 (by decide) (by omega) (by omega) (fun c7 => ?_) (fun c7 => ?_)
      · exact absurd hr4 (by omega)
      · refine jg_iload_n cx dX0_colours_10 rfl ?_
        refine jg_aload_n cx dX0_colours_11 rfl ?_
        refine jg_get cx (jp_net_o hb) rfl inX0 4 (by decide) f24 rfl dX0_colours_12 ?_
        refine jg_iload_n cx dX0_colours_15 rfl ?_
        refine jg_ialdU cx dX0_colours_16 ((jp_net_5 hb)) rfl (by omega) ?_
        refine jg_max cx (by decide +kernel) (by decide +kernel) (by decide +kernel) (by decide +kernel) (Nat.le_of_ble_eq_true rfl) (Nat.le_of_ble_eq_true rfl) dX0_colours_17 ?_
        refine jg_istore_n cx (lv' := [(0, _), (1, _), (2, _)]) dX0_colours_20 (by decide) rfl ?_
        refine jg_iincN cx (d := 1) (lv' := [(0, _), (1, _), (2, _)]) dX0_colours_21 rfl (by decide) (by decide) rfl ?_
        refine jg_goto cx (tgt := 4) dX0_colours_24 (by decide) ?_
        exact jg_to (ih4 (i + 1)  (by omega) ) rfl rfl rfl
  exact jg_to (lp4 64 0  (by omega) ) rfl rfl rfl
def jf_sumS (N : jf_B) : Nat → Int32
  | 0 => nI 0
  | n + 1 => jf_sumS N n + N 1 n
def jf_sumJ (N : jf_B) : Nat → Int64
  | 0 => 0
  | n + 1 => jf_sumJ N n + (N 2 n).toInt64
def jf_below (N : jf_B) : Nat → Int32
  | 0 => nI 0
  | n + 1 => if 0 ≤ N 2 n then jf_below N n else jf_below N n + nI 1
set_option maxHeartbeats 1000000 in
set_option maxRecDepth 100000 in
theorem jc_X0_allSpeeds (E : jp_E) (l : Launch) {b : Nat} {h : jp_H} {N : jf_B} {L : jf_L} (hb : jp_net b)  : jc_M E l yX0_allSpeeds wsX0_allSpeeds ({ frames := 0, cells := 0, slots := 0, locals := 0 } : Room) [.ref (E.2.1 b 0)] (jp_u h b N L) (jp_R (some (.int (jf_sumS N 8))) (jp_u h b N L)) := by
  refine jc_of (cc := cX0_allSpeeds) (maxL := 3) (ret := some .int) (own := RX0) (lv := [(0, _)]) (by decide) rfl rfl (Nat.le_of_ble_eq_true rfl) rfl (fun X cx => ?_)
  have inX0 : ∀ w ∈ u_ws RX0 TX0 9, w ∈ wsX0_allSpeeds := by decide +kernel
  have f9 : Cond.fieldLink RX0 9 "JobSpread$Net" "speed" "[I" ∈ wsX0_allSpeeds := by decide +kernel
  refine jg_iconst cx (v := nI 0) dX0_allSpeeds_0 (by decide) ?_
  refine jg_istore_n cx (lv' := [(0, _), (1, _)]) dX0_allSpeeds_1 (by decide) rfl ?_
  refine jg_iconst cx (v := nI 0) dX0_allSpeeds_2 (by decide) ?_
  refine jg_istore_n cx (lv' := [(0, _), (1, _), (2, _)]) dX0_allSpeeds_3 (by decide) rfl ?_
  have lp4 : ∀ (d4 i : Nat), i + d4 = 8 → X 4 [(0, .ref (E.2.1 b 0)), (1, .int (jf_sumS N i)), (2, .int (nI i))] [] (jp_u h b N L) := by
    intro d4
    induction d4 with
    | zero =>
      intro i  hr4 
      obtain rfl : i = 8 := by omega
      refine jg_iload_n cx dX0_allSpeeds_4 rfl ?_
      refine jg_bipush cx (v := nI 8) dX0_allSpeeds_5 (by decide) ?_
      refine jg_icmpN_ge cx (tgt := 25) dX0_allSpeeds_7 (by decide) (by omega) (by omega) (fun c7 => ?_) (fun c7 => ?_)
      · refine jg_iload_n cx dX0_allSpeeds_25 rfl ?_
        exact jg_iret cx dX0_allSpeeds_26 (⟨rfl, rfl⟩)
      · exact absurd hr4 (by omega)
    | succ d4 ih4 =>
      intro i  hr4 
      refine jg_iload_n cx dX0_allSpeeds_4 rfl ?_
      refine jg_bipush cx (v := nI 8) dX0_allSpeeds_5 (by decide) ?_
      refine jg_icmpN_ge cx (tgt := 25) dX0_allSpeeds_7 (by decide) (by omega) (by omega) (fun c7 => ?_) (fun c7 => ?_)
      · exact absurd hr4 (by omega)
      · refine jg_iload_n cx dX0_allSpeeds_10 rfl ?_
        refine jg_aload_n cx dX0_allSpeeds_11 rfl ?_
        refine jg_get cx (jp_net_o hb) rfl inX0 0 (by decide) f9 rfl dX0_allSpeeds_12 ?_
        refine jg_iload_n cx dX0_allSpeeds_15 rfl ?_
        refine jg_ialdU cx dX0_allSpeeds_16 ((jp_net_1 hb)) rfl (by omega) ?_
        refine jg_iadd cx dX0_allSpeeds_17 ?_
        refine jg_istore_n cx (lv' := [(0, _), (1, _), (2, _)]) dX0_allSpeeds_18 (by decide) rfl ?_
        refine jg_iincN cx (d := 1) (lv' := [(0, _), (1, _), (2, _)]) dX0_allSpeeds_19 rfl (by decide) (by decide) rfl ?_
        refine jg_goto cx (tgt := 4) dX0_allSpeeds_22 (by decide) ?_
        exact jg_to (ih4 (i + 1)  (by omega) ) rfl rfl rfl
  exact jg_to (lp4 8 0  (by omega) ) rfl rfl rfl
set_option maxHeartbeats 1000000 in
set_option maxRecDepth 100000 in
theorem jc_X0_allJobs (E : jp_E) (l : Launch) {b : Nat} {h : jp_H} {N : jf_B} {L : jf_L} (hb : jp_net b)  : jc_M E l yX0_allJobs wsX0_allJobs ({ frames := 0, cells := 0, slots := 0, locals := 0 } : Room) [.ref (E.2.1 b 0)] (jp_u h b N L) (jp_R (some (.long (jf_sumJ N 8))) (jp_u h b N L)) := by
  refine jc_of (cc := cX0_allJobs) (maxL := 4) (ret := some .long) (own := RX0) (lv := [(0, _)]) (by decide) rfl rfl (Nat.le_of_ble_eq_true rfl) rfl (fun X cx => ?_)
  have inX0 : ∀ w ∈ u_ws RX0 TX0 9, w ∈ wsX0_allJobs := by decide +kernel
  have f15 : Cond.fieldLink RX0 15 "JobSpread$Net" "jobs" "[I" ∈ wsX0_allJobs := by decide +kernel
  refine jg_lconst cx (v := 0) dX0_allJobs_0 rfl ?_
  refine jg_lstore_n cx (lv' := [(0, _), (1, _)]) dX0_allJobs_1 (by decide) rfl ?_
  refine jg_iconst cx (v := nI 0) dX0_allJobs_2 (by decide) ?_
  refine jg_istore_n cx (lv' := [(0, _), (1, _), (3, _)]) dX0_allJobs_3 (by decide) rfl ?_
  have lp4 : ∀ (d4 i : Nat), i + d4 = 8 → X 4 [(0, .ref (E.2.1 b 0)), (1, .long (jf_sumJ N i)), (3, .int (nI i))] [] (jp_u h b N L) := by
    intro d4
    induction d4 with
    | zero =>
      intro i  hr4 
      obtain rfl : i = 8 := by omega
      refine jg_iload_n cx dX0_allJobs_4 rfl ?_
      refine jg_bipush cx (v := nI 8) dX0_allJobs_5 (by decide) ?_
      refine jg_icmpN_ge cx (tgt := 26) dX0_allJobs_7 (by decide) (by omega) (by omega) (fun c7 => ?_) (fun c7 => ?_)
      · refine jg_lload_n cx dX0_allJobs_26 rfl ?_
        exact jg_lret cx dX0_allJobs_27 (⟨rfl, rfl⟩)
      · exact absurd hr4 (by omega)
    | succ d4 ih4 =>
      intro i  hr4 
      refine jg_iload_n cx dX0_allJobs_4 rfl ?_
      refine jg_bipush cx (v := nI 8) dX0_allJobs_5 (by decide) ?_
      refine jg_icmpN_ge cx (tgt := 26) dX0_allJobs_7 (by decide) (by omega) (by omega) (fun c7 => ?_) (fun c7 => ?_)
      · exact absurd hr4 (by omega)
      · refine jg_lload_n cx dX0_allJobs_10 rfl ?_
        refine jg_aload_n cx dX0_allJobs_11 rfl ?_
        refine jg_get cx (jp_net_o hb) rfl inX0 1 (by decide) f15 rfl dX0_allJobs_12 ?_
        refine jg_iload_n cx dX0_allJobs_15 rfl ?_
        refine jg_ialdU cx dX0_allJobs_16 ((jp_net_2 hb)) rfl (by omega) ?_
        refine jg_i2l cx dX0_allJobs_17 ?_
        refine jg_ladd cx dX0_allJobs_18 ?_
        refine jg_lstore_n cx (lv' := [(0, _), (1, _), (3, _)]) dX0_allJobs_19 (by decide) rfl ?_
        refine jg_iincN cx (d := 1) (lv' := [(0, _), (1, _), (3, _)]) dX0_allJobs_20 rfl (by decide) (by decide) rfl ?_
        refine jg_goto cx (tgt := 4) dX0_allJobs_23 (by decide) ?_
        exact jg_to (ih4 (i + 1)  (by omega) ) rfl rfl rfl
  exact jg_to (lp4 8 0  (by omega) ) rfl rfl rfl
set_option maxHeartbeats 1000000 in
set_option maxRecDepth 100000 in
theorem jc_X0_nodesBelowZero (E : jp_E) (l : Launch) {b : Nat} {h : jp_H} {N : jf_B} {L : jf_L} (hb : jp_net b)  : jc_M E l yX0_nodesBelowZero wsX0_nodesBelowZero ({ frames := 0, cells := 0, slots := 0, locals := 0 } : Room) [.ref (E.2.1 b 0)] (jp_u h b N L) (jp_R (some (.int (jf_below N 8))) (jp_u h b N L)) := by
  refine jc_of (cc := cX0_nodesBelowZero) (maxL := 3) (ret := some .int) (own := RX0) (lv := [(0, _)]) (by decide) rfl rfl (Nat.le_of_ble_eq_true rfl) rfl (fun X cx => ?_)
  have inX0 : ∀ w ∈ u_ws RX0 TX0 9, w ∈ wsX0_nodesBelowZero := by decide +kernel
  have f15 : Cond.fieldLink RX0 15 "JobSpread$Net" "jobs" "[I" ∈ wsX0_nodesBelowZero := by decide +kernel
  refine jg_iconst cx (v := nI 0) dX0_nodesBelowZero_0 (by decide) ?_
  refine jg_istore_n cx (lv' := [(0, _), (1, _)]) dX0_nodesBelowZero_1 (by decide) rfl ?_
  refine jg_iconst cx (v := nI 0) dX0_nodesBelowZero_2 (by decide) ?_
  refine jg_istore_n cx (lv' := [(0, _), (1, _), (2, _)]) dX0_nodesBelowZero_3 (by decide) rfl ?_
  have lp4 : ∀ (d4 i : Nat), i + d4 = 8 → X 4 [(0, .ref (E.2.1 b 0)), (1, .int (jf_below N i)), (2, .int (nI i))] [] (jp_u h b N L) := by
    intro d4
    induction d4 with
    | zero =>
      intro i  hr4 
      obtain rfl : i = 8 := by omega
      refine jg_iload_n cx dX0_nodesBelowZero_4 rfl ?_
      refine jg_bipush cx (v := nI 8) dX0_nodesBelowZero_5 (by decide) ?_
      refine jg_icmpN_ge cx (tgt := 28) dX0_nodesBelowZero_7 (by decide) (by omega) (by omega) (fun c7 => ?_) (fun c7 => ?_)
      · refine jg_iload_n cx dX0_nodesBelowZero_28 rfl ?_
        exact jg_iret cx dX0_nodesBelowZero_29 (⟨rfl, rfl⟩)
      · exact absurd hr4 (by omega)
    | succ d4 ih4 =>
      intro i  hr4 
      refine jg_iload_n cx dX0_nodesBelowZero_4 rfl ?_
      refine jg_bipush cx (v := nI 8) dX0_nodesBelowZero_5 (by decide) ?_
      refine jg_icmpN_ge cx (tgt := 28) dX0_nodesBelowZero_7 (by decide) (by omega) (by omega) (fun c7 => ?_) (fun c7 => ?_)
      · exact absurd hr4 (by omega)
      · refine jg_aload_n cx dX0_nodesBelowZero_10 rfl ?_
        refine jg_get cx (jp_net_o hb) rfl inX0 1 (by decide) f15 rfl dX0_nodesBelowZero_11 ?_
        refine jg_iload_n cx dX0_nodesBelowZero_14 rfl ?_
        refine jg_ialdU cx dX0_nodesBelowZero_15 ((jp_net_2 hb)) rfl (by omega) ?_
        refine jg_if_ge cx (tgt := 22) dX0_nodesBelowZero_16 (by decide) (fun c16 => ?_) (fun c16 => ?_)
        · refine jg_iincN cx (d := 1) (lv' := [(0, _), (1, _), (2, _)]) dX0_nodesBelowZero_22 rfl (by decide) (by decide) rfl ?_
          refine jg_goto cx (tgt := 4) dX0_nodesBelowZero_25 (by decide) ?_
          exact jg_to (ih4 (i + 1)  (by omega) ) (by first | with_reducible rfl | (simp only [jf_below, if_pos c16, ↓reduceIte, Bool.false_eq_true, Bool.true_eq_false, reduceCtorEq, eq_self, if_true, if_false, Bool.not_true, Bool.not_false]; first | done | rfl)) (by first | with_reducible rfl | (simp only [jf_below, if_pos c16, ↓reduceIte, Bool.false_eq_true, Bool.true_eq_false, reduceCtorEq, eq_self, if_true, if_false, Bool.not_true, Bool.not_false]; first | done | rfl)) (by first | with_reducible rfl | (simp only [jf_below, if_pos c16, ↓reduceIte, Bool.false_eq_true, Bool.true_eq_false, reduceCtorEq, eq_self, if_true, if_false, Bool.not_true, Bool.not_false]; first | done | rfl))
        · refine jg_iincI cx (d := 1) (lv' := [(0, _), (1, _), (2, _)]) dX0_nodesBelowZero_19 rfl (by decide) (by decide) rfl ?_
          refine jg_iincN cx (d := 1) (lv' := [(0, _), (1, _), (2, _)]) dX0_nodesBelowZero_22 rfl (by decide) (by decide) rfl ?_
          refine jg_goto cx (tgt := 4) dX0_nodesBelowZero_25 (by decide) ?_
          exact jg_to (ih4 (i + 1)  (by omega) ) (by first | with_reducible rfl | (simp only [jf_below, if_neg c16, ↓reduceIte, Bool.false_eq_true, Bool.true_eq_false, reduceCtorEq, eq_self, if_true, if_false, Bool.not_true, Bool.not_false]; first | done | rfl)) (by first | with_reducible rfl | (simp only [jf_below, if_neg c16, ↓reduceIte, Bool.false_eq_true, Bool.true_eq_false, reduceCtorEq, eq_self, if_true, if_false, Bool.not_true, Bool.not_false]; first | done | rfl)) (by first | with_reducible rfl | (simp only [jf_below, if_neg c16, ↓reduceIte, Bool.false_eq_true, Bool.true_eq_false, reduceCtorEq, eq_self, if_true, if_false, Bool.not_true, Bool.not_false]; first | done | rfl))
  exact jg_to (lp4 8 0  (by omega) ) rfl rfl rfl
def jf_gap (N : jf_B) (i j : Nat) : Int64 := (N 2 i).toInt64 * (N 1 j).toInt64 - (N 2 j).toInt64 * (N 1 i).toInt64
set_option maxHeartbeats 1000000 in
set_option maxRecDepth 100000 in
theorem jc_X0_loadGap (E : jp_E) (l : Launch) {b : Nat} {h : jp_H} {N : jf_B} {L : jf_L} (hb : jp_net b) {i j : Nat} (hi : i < 8) (hj : j < 8) : jc_M E l yX0_loadGap wsX0_loadGap ({ frames := 0, cells := 0, slots := 0, locals := 0 } : Room) [.ref (E.2.1 b 0), .int (nI i), .int (nI j)] (jp_u h b N L) (jp_R (some (.long (jf_gap N i j))) (jp_u h b N L)) := by
  refine jc_of (cc := cX0_loadGap) (maxL := 3) (ret := some .long) (own := RX0) (lv := [(0, _), (1, _), (2, _)]) (by decide) rfl rfl (Nat.le_of_ble_eq_true rfl) rfl (fun X cx => ?_)
  have inX0 : ∀ w ∈ u_ws RX0 TX0 9, w ∈ wsX0_loadGap := by decide +kernel
  have f9 : Cond.fieldLink RX0 9 "JobSpread$Net" "speed" "[I" ∈ wsX0_loadGap := by decide +kernel
  have f15 : Cond.fieldLink RX0 15 "JobSpread$Net" "jobs" "[I" ∈ wsX0_loadGap := by decide +kernel
  refine jg_aload_n cx dX0_loadGap_0 rfl ?_
  refine jg_get cx (jp_net_o hb) rfl inX0 1 (by decide) f15 rfl dX0_loadGap_1 ?_
  refine jg_iload_n cx dX0_loadGap_4 rfl ?_
  refine jg_ialdU cx dX0_loadGap_5 ((jp_net_2 hb)) rfl (by omega) ?_
  refine jg_i2l cx dX0_loadGap_6 ?_
  refine jg_aload_n cx dX0_loadGap_7 rfl ?_
  refine jg_get cx (jp_net_o hb) rfl inX0 0 (by decide) f9 rfl dX0_loadGap_8 ?_
  refine jg_iload_n cx dX0_loadGap_11 rfl ?_
  refine jg_ialdU cx dX0_loadGap_12 ((jp_net_1 hb)) rfl (by omega) ?_
  refine jg_i2l cx dX0_loadGap_13 ?_
  refine jg_lmul cx dX0_loadGap_14 ?_
  refine jg_aload_n cx dX0_loadGap_15 rfl ?_
  refine jg_get cx (jp_net_o hb) rfl inX0 1 (by decide) f15 rfl dX0_loadGap_16 ?_
  refine jg_iload_n cx dX0_loadGap_19 rfl ?_
  refine jg_ialdU cx dX0_loadGap_20 ((jp_net_2 hb)) rfl (by omega) ?_
  refine jg_i2l cx dX0_loadGap_21 ?_
  refine jg_aload_n cx dX0_loadGap_22 rfl ?_
  refine jg_get cx (jp_net_o hb) rfl inX0 0 (by decide) f9 rfl dX0_loadGap_23 ?_
  refine jg_iload_n cx dX0_loadGap_26 rfl ?_
  refine jg_ialdU cx dX0_loadGap_27 ((jp_net_1 hb)) rfl (by omega) ?_
  refine jg_i2l cx dX0_loadGap_28 ?_
  refine jg_lmul cx dX0_loadGap_29 ?_
  refine jg_lsub cx dX0_loadGap_30 ?_
  exact jg_lret cx dX0_loadGap_31 (⟨rfl, rfl⟩)
def jf_hi (N : jf_B) : Nat → Nat
  | 0 => 0
  | i + 1 => if lg_cmp (jf_gap N (i + 1) (jf_hi N i)) 0 ≤ 0 then jf_hi N i else i + 1
theorem jf_hi_le (N : jf_B) : ∀ i, jf_hi N i ≤ i
  | 0 => Nat.le_refl 0
  | i + 1 => by
    unfold jf_hi
    have := jf_hi_le N i
    split <;> omega
set_option maxHeartbeats 1000000 in
set_option maxRecDepth 100000 in
theorem jc_X0_mostLoaded (E : jp_E) (l : Launch) {b : Nat} {h : jp_H} {N : jf_B} {L : jf_L} (hb : jp_net b)  : jc_M E l yX0_mostLoaded wsX0_mostLoaded ({ frames := 1, cells := 0, slots := 0, locals := 22 } : Room) [.ref (E.2.1 b 0)] (jp_u h b N L) (jp_R (some (.int (nI (jf_hi N 7)))) (jp_u h b N L)) := by
  refine jc_of (cc := cX0_mostLoaded) (maxL := 3) (ret := some .int) (own := RX0) (lv := [(0, _)]) (by decide) rfl rfl (Nat.le_of_ble_eq_true rfl) rfl (fun X cx => ?_)
  refine jg_iconst cx (v := nI 0) dX0_mostLoaded_0 (by decide) ?_
  refine jg_istore_n cx (lv' := [(0, _), (1, _)]) dX0_mostLoaded_1 (by decide) rfl ?_
  refine jg_iconst cx (v := nI 1) dX0_mostLoaded_2 (by decide) ?_
  refine jg_istore_n cx (lv' := [(0, _), (1, _), (2, _)]) dX0_mostLoaded_3 (by decide) rfl ?_
  have lp4 : ∀ (d4 i : Nat), i + d4 = 7 → X 4 [(0, .ref (E.2.1 b 0)), (1, .int (nI (jf_hi N i))), (2, .int (nI (i + 1)))] [] (jp_u h b N L) := by
    intro d4
    induction d4 with
    | zero =>
      intro i  hr4 
      have hle := jf_hi_le N i
      refine jg_iload_n cx dX0_mostLoaded_4 rfl ?_
      refine jg_bipush cx (v := nI 8) dX0_mostLoaded_5 (by decide) ?_
      refine jg_icmpN_ge cx (tgt := 29) dX0_mostLoaded_7 (by decide) (by omega) (by omega) (fun c7 => ?_) (fun c7 => ?_)
      · refine jg_iload_n cx dX0_mostLoaded_29 rfl ?_
        exact jg_iret cx dX0_mostLoaded_30 (⟨by rw [show i = 7 by omega], rfl⟩)
      · exact absurd hr4 (by omega)
    | succ d4 ih4 =>
      intro i  hr4 
      have hle := jf_hi_le N i
      refine jg_iload_n cx dX0_mostLoaded_4 rfl ?_
      refine jg_bipush cx (v := nI 8) dX0_mostLoaded_5 (by decide) ?_
      refine jg_icmpN_ge cx (tgt := 29) dX0_mostLoaded_7 (by decide) (by omega) (by omega) (fun c7 => ?_) (fun c7 => ?_)
      · exact absurd hr4 (by omega)
      · refine jg_aload_n cx dX0_mostLoaded_10 rfl ?_
        refine jg_iload_n cx dX0_mostLoaded_11 rfl ?_
        refine jg_iload_n cx dX0_mostLoaded_12 rfl ?_
        refine jg_callVl cx (n := 2) (jc_X0_loadGap E l hb (by omega) (by omega)) gX0_mostLoaded_X0_loadGap rfl ⟨rfl, rfl⟩ ⟨(Nat.le_of_ble_eq_true rfl), (Nat.le_of_ble_eq_true rfl)⟩ (by decide +kernel) (jp_net_o hb) rfl rfl rfl (Nat.le_of_ble_eq_true rfl) dX0_mostLoaded_13 ?_
        refine jg_lconst cx (v := 0) dX0_mostLoaded_16 rfl ?_
        refine jg_lcmp cx dX0_mostLoaded_17 ?_
        refine jg_if_le cx (tgt := 23) dX0_mostLoaded_18 (by decide) (fun c18 => ?_) (fun c18 => ?_)
        · refine jg_iincN cx (d := 1) (lv' := [(0, _), (1, _), (2, _)]) dX0_mostLoaded_23 rfl (by decide) (by decide) rfl ?_
          refine jg_goto cx (tgt := 4) dX0_mostLoaded_26 (by decide) ?_
          exact jg_to (ih4 (i + 1)  (by omega) ) (by first | with_reducible rfl | (simp only [jf_hi, if_pos c18, ↓reduceIte, Bool.false_eq_true, Bool.true_eq_false, reduceCtorEq, eq_self, if_true, if_false, Bool.not_true, Bool.not_false]; first | done | rfl)) (by first | with_reducible rfl | (simp only [jf_hi, if_pos c18, ↓reduceIte, Bool.false_eq_true, Bool.true_eq_false, reduceCtorEq, eq_self, if_true, if_false, Bool.not_true, Bool.not_false]; first | done | rfl)) (by first | with_reducible rfl | (simp only [jf_hi, if_pos c18, ↓reduceIte, Bool.false_eq_true, Bool.true_eq_false, reduceCtorEq, eq_self, if_true, if_false, Bool.not_true, Bool.not_false]; first | done | rfl))
        · refine jg_iload_n cx dX0_mostLoaded_21 rfl ?_
          refine jg_istore_n cx (lv' := [(0, _), (1, _), (2, _)]) dX0_mostLoaded_22 (by decide) rfl ?_
          refine jg_iincN cx (d := 1) (lv' := [(0, _), (1, _), (2, _)]) dX0_mostLoaded_23 rfl (by decide) (by decide) rfl ?_
          refine jg_goto cx (tgt := 4) dX0_mostLoaded_26 (by decide) ?_
          exact jg_to (ih4 (i + 1)  (by omega) ) (by first | with_reducible rfl | (simp only [jf_hi, if_neg c18, ↓reduceIte, Bool.false_eq_true, Bool.true_eq_false, reduceCtorEq, eq_self, if_true, if_false, Bool.not_true, Bool.not_false]; first | done | rfl)) (by first | with_reducible rfl | (simp only [jf_hi, if_neg c18, ↓reduceIte, Bool.false_eq_true, Bool.true_eq_false, reduceCtorEq, eq_self, if_true, if_false, Bool.not_true, Bool.not_false]; first | done | rfl)) (by first | with_reducible rfl | (simp only [jf_hi, if_neg c18, ↓reduceIte, Bool.false_eq_true, Bool.true_eq_false, reduceCtorEq, eq_self, if_true, if_false, Bool.not_true, Bool.not_false]; first | done | rfl))
  exact jg_to (lp4 7 0  (by omega) ) rfl rfl rfl
def jf_lo (N : jf_B) : Nat → Nat
  | 0 => 0
  | i + 1 => if 0 ≤ lg_cmp (jf_gap N (i + 1) (jf_lo N i)) 0 then jf_lo N i else i + 1
theorem jf_lo_le (N : jf_B) : ∀ i, jf_lo N i ≤ i
  | 0 => Nat.le_refl 0
  | i + 1 => by
    unfold jf_lo
    have := jf_lo_le N i
    split <;> omega
set_option maxHeartbeats 1000000 in
set_option maxRecDepth 100000 in
theorem jc_X0_leastLoaded (E : jp_E) (l : Launch) {b : Nat} {h : jp_H} {N : jf_B} {L : jf_L} (hb : jp_net b)  : jc_M E l yX0_leastLoaded wsX0_leastLoaded ({ frames := 1, cells := 0, slots := 0, locals := 22 } : Room) [.ref (E.2.1 b 0)] (jp_u h b N L) (jp_R (some (.int (nI (jf_lo N 7)))) (jp_u h b N L)) := by
  refine jc_of (cc := cX0_leastLoaded) (maxL := 3) (ret := some .int) (own := RX0) (lv := [(0, _)]) (by decide) rfl rfl (Nat.le_of_ble_eq_true rfl) rfl (fun X cx => ?_)
  refine jg_iconst cx (v := nI 0) dX0_leastLoaded_0 (by decide) ?_
  refine jg_istore_n cx (lv' := [(0, _), (1, _)]) dX0_leastLoaded_1 (by decide) rfl ?_
  refine jg_iconst cx (v := nI 1) dX0_leastLoaded_2 (by decide) ?_
  refine jg_istore_n cx (lv' := [(0, _), (1, _), (2, _)]) dX0_leastLoaded_3 (by decide) rfl ?_
  have lp4 : ∀ (d4 i : Nat), i + d4 = 7 → X 4 [(0, .ref (E.2.1 b 0)), (1, .int (nI (jf_lo N i))), (2, .int (nI (i + 1)))] [] (jp_u h b N L) := by
    intro d4
    induction d4 with
    | zero =>
      intro i  hr4 
      have hle := jf_lo_le N i
      refine jg_iload_n cx dX0_leastLoaded_4 rfl ?_
      refine jg_bipush cx (v := nI 8) dX0_leastLoaded_5 (by decide) ?_
      refine jg_icmpN_ge cx (tgt := 29) dX0_leastLoaded_7 (by decide) (by omega) (by omega) (fun c7 => ?_) (fun c7 => ?_)
      · refine jg_iload_n cx dX0_leastLoaded_29 rfl ?_
        exact jg_iret cx dX0_leastLoaded_30 (⟨by rw [show i = 7 by omega], rfl⟩)
      · exact absurd hr4 (by omega)
    | succ d4 ih4 =>
      intro i  hr4 
      have hle := jf_lo_le N i
      refine jg_iload_n cx dX0_leastLoaded_4 rfl ?_
      refine jg_bipush cx (v := nI 8) dX0_leastLoaded_5 (by decide) ?_
      refine jg_icmpN_ge cx (tgt := 29) dX0_leastLoaded_7 (by decide) (by omega) (by omega) (fun c7 => ?_) (fun c7 => ?_)
      · exact absurd hr4 (by omega)
      · refine jg_aload_n cx dX0_leastLoaded_10 rfl ?_
        refine jg_iload_n cx dX0_leastLoaded_11 rfl ?_
        refine jg_iload_n cx dX0_leastLoaded_12 rfl ?_
        refine jg_callVl cx (n := 2) (jc_X0_loadGap E l hb (by omega) (by omega)) gX0_leastLoaded_X0_loadGap rfl ⟨rfl, rfl⟩ ⟨(Nat.le_of_ble_eq_true rfl), (Nat.le_of_ble_eq_true rfl)⟩ (by decide +kernel) (jp_net_o hb) rfl rfl rfl (Nat.le_of_ble_eq_true rfl) dX0_leastLoaded_13 ?_
        refine jg_lconst cx (v := 0) dX0_leastLoaded_16 rfl ?_
        refine jg_lcmp cx dX0_leastLoaded_17 ?_
        refine jg_if_ge cx (tgt := 23) dX0_leastLoaded_18 (by decide) (fun c18 => ?_) (fun c18 => ?_)
        · refine jg_iincN cx (d := 1) (lv' := [(0, _), (1, _), (2, _)]) dX0_leastLoaded_23 rfl (by decide) (by decide) rfl ?_
          refine jg_goto cx (tgt := 4) dX0_leastLoaded_26 (by decide) ?_
          exact jg_to (ih4 (i + 1)  (by omega) ) (by first | with_reducible rfl | (simp only [jf_lo, if_pos c18, ↓reduceIte, Bool.false_eq_true, Bool.true_eq_false, reduceCtorEq, eq_self, if_true, if_false, Bool.not_true, Bool.not_false]; first | done | rfl)) (by first | with_reducible rfl | (simp only [jf_lo, if_pos c18, ↓reduceIte, Bool.false_eq_true, Bool.true_eq_false, reduceCtorEq, eq_self, if_true, if_false, Bool.not_true, Bool.not_false]; first | done | rfl)) (by first | with_reducible rfl | (simp only [jf_lo, if_pos c18, ↓reduceIte, Bool.false_eq_true, Bool.true_eq_false, reduceCtorEq, eq_self, if_true, if_false, Bool.not_true, Bool.not_false]; first | done | rfl))
        · refine jg_iload_n cx dX0_leastLoaded_21 rfl ?_
          refine jg_istore_n cx (lv' := [(0, _), (1, _), (2, _)]) dX0_leastLoaded_22 (by decide) rfl ?_
          refine jg_iincN cx (d := 1) (lv' := [(0, _), (1, _), (2, _)]) dX0_leastLoaded_23 rfl (by decide) (by decide) rfl ?_
          refine jg_goto cx (tgt := 4) dX0_leastLoaded_26 (by decide) ?_
          exact jg_to (ih4 (i + 1)  (by omega) ) (by first | with_reducible rfl | (simp only [jf_lo, if_neg c18, ↓reduceIte, Bool.false_eq_true, Bool.true_eq_false, reduceCtorEq, eq_self, if_true, if_false, Bool.not_true, Bool.not_false]; first | done | rfl)) (by first | with_reducible rfl | (simp only [jf_lo, if_neg c18, ↓reduceIte, Bool.false_eq_true, Bool.true_eq_false, reduceCtorEq, eq_self, if_true, if_false, Bool.not_true, Bool.not_false]; first | done | rfl)) (by first | with_reducible rfl | (simp only [jf_lo, if_neg c18, ↓reduceIte, Bool.false_eq_true, Bool.true_eq_false, reduceCtorEq, eq_self, if_true, if_false, Bool.not_true, Bool.not_false]; first | done | rfl))
  exact jg_to (lp4 7 0  (by omega) ) rfl rfl rfl
def jf_even (N : jf_B) (d : Int32) : Bool := if 0 < lg_cmp (jf_gap N (jf_hi N 7) (jf_lo N 7)) (d.toInt64 * (N 1 (jf_hi N 7)).toInt64 * (N 1 (jf_lo N 7)).toInt64) then false else true
set_option maxHeartbeats 1000000 in
set_option maxRecDepth 100000 in
theorem jc_X0_isUnevenAtMost (E : jp_E) (l : Launch) {b : Nat} {h : jp_H} {N : jf_B} {L : jf_L} (hb : jp_net b) {d : Int32} : jc_M E l yX0_isUnevenAtMost wsX0_isUnevenAtMost ({ frames := 2, cells := 0, slots := 0, locals := 44 } : Room) [.ref (E.2.1 b 0), .int d] (jp_u h b N L) (jp_R (some (.int (jp_b (jf_even N d)))) (jp_u h b N L)) := by
  have hh := jf_hi_le N 7
  have hl9 := jf_lo_le N 7
  refine jc_of (cc := cX0_isUnevenAtMost) (maxL := 4) (ret := some .boolean) (own := RX0) (lv := [(0, _), (1, _)]) (by decide) rfl rfl (Nat.le_of_ble_eq_true rfl) rfl (fun X cx => ?_)
  have inX0 : ∀ w ∈ u_ws RX0 TX0 9, w ∈ wsX0_isUnevenAtMost := by decide +kernel
  have f9 : Cond.fieldLink RX0 9 "JobSpread$Net" "speed" "[I" ∈ wsX0_isUnevenAtMost := by decide +kernel
  refine jg_aload_n cx dX0_isUnevenAtMost_0 rfl ?_
  refine jg_callVi cx (n := 0) (jc_X0_mostLoaded E l hb) gX0_isUnevenAtMost_X0_mostLoaded rfl ⟨rfl, rfl⟩ ⟨(Nat.le_of_ble_eq_true rfl), (Nat.le_of_ble_eq_true rfl)⟩ (by decide +kernel) (jp_net_o hb) rfl rfl rfl (Nat.le_of_ble_eq_true rfl) dX0_isUnevenAtMost_1 ?_
  refine jg_istore_n cx (lv' := [(0, _), (1, _), (2, _)]) dX0_isUnevenAtMost_4 (by decide) rfl ?_
  refine jg_aload_n cx dX0_isUnevenAtMost_5 rfl ?_
  refine jg_callVi cx (n := 0) (jc_X0_leastLoaded E l hb) gX0_isUnevenAtMost_X0_leastLoaded rfl ⟨rfl, rfl⟩ ⟨(Nat.le_of_ble_eq_true rfl), (Nat.le_of_ble_eq_true rfl)⟩ (by decide +kernel) (jp_net_o hb) rfl rfl rfl (Nat.le_of_ble_eq_true rfl) dX0_isUnevenAtMost_6 ?_
  refine jg_istore_n cx (lv' := [(0, _), (1, _), (2, _), (3, _)]) dX0_isUnevenAtMost_9 (by decide) rfl ?_
  refine jg_aload_n cx dX0_isUnevenAtMost_10 rfl ?_
  refine jg_iload_n cx dX0_isUnevenAtMost_11 rfl ?_
  refine jg_iload_n cx dX0_isUnevenAtMost_12 rfl ?_
  refine jg_callVl cx (n := 2) (jc_X0_loadGap E l hb (by omega) (by omega)) gX0_isUnevenAtMost_X0_loadGap rfl ⟨rfl, rfl⟩ ⟨(Nat.le_of_ble_eq_true rfl), (Nat.le_of_ble_eq_true rfl)⟩ (by decide +kernel) (jp_net_o hb) rfl rfl rfl (Nat.le_of_ble_eq_true rfl) dX0_isUnevenAtMost_13 ?_
  refine jg_iload_n cx dX0_isUnevenAtMost_16 rfl ?_
  refine jg_i2l cx dX0_isUnevenAtMost_17 ?_
  refine jg_aload_n cx dX0_isUnevenAtMost_18 rfl ?_
  refine jg_get cx (jp_net_o hb) rfl inX0 0 (by decide) f9 rfl dX0_isUnevenAtMost_19 ?_
  refine jg_iload_n cx dX0_isUnevenAtMost_22 rfl ?_
  refine jg_ialdU cx dX0_isUnevenAtMost_23 ((jp_net_1 hb)) rfl (by omega) ?_
  refine jg_i2l cx dX0_isUnevenAtMost_24 ?_
  refine jg_lmul cx dX0_isUnevenAtMost_25 ?_
  refine jg_aload_n cx dX0_isUnevenAtMost_26 rfl ?_
  refine jg_get cx (jp_net_o hb) rfl inX0 0 (by decide) f9 rfl dX0_isUnevenAtMost_27 ?_
  refine jg_iload_n cx dX0_isUnevenAtMost_30 rfl ?_
  refine jg_ialdU cx dX0_isUnevenAtMost_31 ((jp_net_1 hb)) rfl (by omega) ?_
  refine jg_i2l cx dX0_isUnevenAtMost_32 ?_
  refine jg_lmul cx dX0_isUnevenAtMost_33 ?_
  refine jg_lcmp cx dX0_isUnevenAtMost_34 ?_
  refine jg_if_gt cx (tgt := 42) dX0_isUnevenAtMost_35 (by decide) (fun c35 => ?_) (fun c35 => ?_)
  · refine jg_iconst cx (v := jp_b false) dX0_isUnevenAtMost_42 (by decide) ?_
    exact jg_bret cx dX0_isUnevenAtMost_43 (⟨(by first | with_reducible rfl | (simp only [jf_even, if_pos c35, ↓reduceIte, Bool.false_eq_true, Bool.true_eq_false, reduceCtorEq, eq_self, if_true, if_false, Bool.not_true, Bool.not_false]; first | done | rfl)), rfl⟩)
  · refine jg_iconst cx (v := jp_b true) dX0_isUnevenAtMost_38 (by decide) ?_
    refine jg_goto cx (tgt := 43) dX0_isUnevenAtMost_39 (by decide) ?_
    exact jg_bret cx dX0_isUnevenAtMost_43 (⟨(by first | with_reducible rfl | (simp only [jf_even, if_neg c35, ↓reduceIte, Bool.false_eq_true, Bool.true_eq_false, reduceCtorEq, eq_self, if_true, if_false, Bool.not_true, Bool.not_false]; first | done | rfl)), rfl⟩)
