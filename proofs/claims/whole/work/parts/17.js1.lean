/-! ===== the contracts over any heap; JobSpread ===== -/
theorem jc_X0_joins_h (E : jp_E) (l : Launch) {b : Nat} {h : jp_H} (hb : jp_net b) {a c : Nat} (ha : a < 8) (hc : c < 8) : jc_M E l yX0_joins wsX0_joins ({ frames := 1, cells := 0, slots := 0, locals := 21 } : Room) [.ref (E.2.1 b 0), .int (nI a), .int (nI c)] h (jp_R (some (.int (jp_b (jf_joins (h.1 b) a c)))) h) := by
  have t9 := jc_X0_joins E l (h := h) (N := h.1 b) (L := h.2 b) hb ha hc
  rw [jp_u_self] at t9
  exact t9
theorem jc_X0_lift_h (E : jp_E) (l : Launch) {b : Nat} {h : jp_H} (hb : jp_net b) {a c : Nat} (ha : a < 8) (hc : c < 8) : jc_M E l yX0_lift wsX0_lift ({ frames := 2, cells := 0, slots := 0, locals := 43 } : Room) [.ref (E.2.1 b 0), .int (nI a), .int (nI c)] h (jp_R none (jp_u h b (jf_lift (h.1 b) a c) (h.2 b))) := by
  have t9 := jc_X0_lift E l (h := h) (N := h.1 b) (L := h.2 b) hb ha hc
  rw [jp_u_self] at t9
  exact t9
theorem jc_X0_lay_h (E : jp_E) (l : Launch) {b : Nat} {h : jp_H} (hb : jp_net b) {a c : Nat} {k : Int32} (ha : a < 8) (hc : c < 8) : jc_M E l yX0_lay wsX0_lay ({ frames := 3, cells := 0, slots := 0, locals := 65 } : Room) [.ref (E.2.1 b 0), .int (nI a), .int (nI c), .int k] h (jp_R none (jp_u h b (jf_lay (h.1 b) a c k) (h.2 b))) := by
  have t9 := jc_X0_lay E l (h := h) (N := h.1 b) (L := h.2 b) (k := k) hb ha hc
  rw [jp_u_self] at t9
  exact t9
theorem jc_X0_liftAll_h (E : jp_E) (l : Launch) {b : Nat} {h : jp_H} (hb : jp_net b) : jc_M E l yX0_liftAll wsX0_liftAll ({ frames := 3, cells := 0, slots := 0, locals := 65 } : Room) [.ref (E.2.1 b 0)] h (jp_R none (jp_u h b (jf_liftAll (h.1 b)) (h.2 b))) := by
  have t9 := jc_X0_liftAll E l (h := h) (N := h.1 b) (L := h.2 b) hb
  rw [jp_u_self] at t9
  exact t9
theorem jc_X0_goOn_h (E : jp_E) (l : Launch) {b : Nat} {h : jp_H} (hb : jp_net b) {ru : Int32} {k : Nat} (hk : k < 2 ^ 31) : jc_M E l yX0_goOn wsX0_goOn ({ frames := 4, cells := 0, slots := 0, locals := 95 } : Room) [.ref (E.2.1 b 0), .int ru, .int (nI k)] h (jp_R (some (.int ((jf_go ru (h.1 b) k).2))) (jp_u h b ((jf_go ru (h.1 b) k).1) (h.2 b))) := by
  have t9 := jc_X0_goOn E l (h := h) (N := h.1 b) (L := h.2 b) (ru := ru) hb hk
  rw [jp_u_self] at t9
  exact t9
theorem jc_X0_startAgain_h (E : jp_E) (l : Launch) {b : Nat} {h : jp_H} (hb : jp_net b) : jc_M E l yX0_startAgain wsX0_startAgain ({ frames := 0, cells := 0, slots := 0, locals := 0 } : Room) [.ref (E.2.1 b 0)] h (jp_R none (jp_u h b (jf_again (h.1 b)) (h.2 b))) := by
  have t9 := jc_X0_startAgain E l (h := h) (N := h.1 b) (L := h.2 b) hb
  rw [jp_u_self] at t9
  exact t9
theorem jc_X0_mostLoaded_h (E : jp_E) (l : Launch) {b : Nat} {h : jp_H} (hb : jp_net b) : jc_M E l yX0_mostLoaded wsX0_mostLoaded ({ frames := 1, cells := 0, slots := 0, locals := 22 } : Room) [.ref (E.2.1 b 0)] h (jp_R (some (.int (nI (jf_hi (h.1 b) 7)))) h) := by
  have t9 := jc_X0_mostLoaded E l (h := h) (N := h.1 b) (L := h.2 b) hb
  rw [jp_u_self] at t9
  exact t9
theorem jc_X0_leastLoaded_h (E : jp_E) (l : Launch) {b : Nat} {h : jp_H} (hb : jp_net b) : jc_M E l yX0_leastLoaded wsX0_leastLoaded ({ frames := 1, cells := 0, slots := 0, locals := 22 } : Room) [.ref (E.2.1 b 0)] h (jp_R (some (.int (nI (jf_lo (h.1 b) 7)))) h) := by
  have t9 := jc_X0_leastLoaded E l (h := h) (N := h.1 b) (L := h.2 b) hb
  rw [jp_u_self] at t9
  exact t9
theorem jc_X0_loadGap_h (E : jp_E) (l : Launch) {b : Nat} {h : jp_H} (hb : jp_net b) {i j : Nat} (hi : i < 8) (hj : j < 8) : jc_M E l yX0_loadGap wsX0_loadGap ({ frames := 0, cells := 0, slots := 0, locals := 0 } : Room) [.ref (E.2.1 b 0), .int (nI i), .int (nI j)] h (jp_R (some (.long (jf_gap (h.1 b) i j))) h) := by
  have t9 := jc_X0_loadGap E l (h := h) (N := h.1 b) (L := h.2 b) hb hi hj
  rw [jp_u_self] at t9
  exact t9
theorem jc_X0_allJobs_h (E : jp_E) (l : Launch) {b : Nat} {h : jp_H} (hb : jp_net b) : jc_M E l yX0_allJobs wsX0_allJobs ({ frames := 0, cells := 0, slots := 0, locals := 0 } : Room) [.ref (E.2.1 b 0)] h (jp_R (some (.long (jf_sumJ (h.1 b) 8))) h) := by
  have t9 := jc_X0_allJobs E l (h := h) (N := h.1 b) (L := h.2 b) hb
  rw [jp_u_self] at t9
  exact t9
theorem jc_X0_allSpeeds_h (E : jp_E) (l : Launch) {b : Nat} {h : jp_H} (hb : jp_net b) : jc_M E l yX0_allSpeeds wsX0_allSpeeds ({ frames := 0, cells := 0, slots := 0, locals := 0 } : Room) [.ref (E.2.1 b 0)] h (jp_R (some (.int (jf_sumS (h.1 b) 8))) h) := by
  have t9 := jc_X0_allSpeeds E l (h := h) (N := h.1 b) (L := h.2 b) hb
  rw [jp_u_self] at t9
  exact t9
theorem jc_X0_nodesBelowZero_h (E : jp_E) (l : Launch) {b : Nat} {h : jp_H} (hb : jp_net b) : jc_M E l yX0_nodesBelowZero wsX0_nodesBelowZero ({ frames := 0, cells := 0, slots := 0, locals := 0 } : Room) [.ref (E.2.1 b 0)] h (jp_R (some (.int (jf_below (h.1 b) 8))) h) := by
  have t9 := jc_X0_nodesBelowZero E l (h := h) (N := h.1 b) (L := h.2 b) hb
  rw [jp_u_self] at t9
  exact t9
theorem jc_X0_measure_h (E : jp_E) (l : Launch) {b : Nat} {h : jp_H} (hb : jp_net b) : jc_M E l yX0_measure wsX0_measure ({ frames := 1, cells := 0, slots := 0, locals := 21 } : Room) [.ref (E.2.1 b 0)] h (jp_R (some (.int (jf_measure (h.1 b)))) h) := by
  have t9 := jc_X0_measure E l (h := h) (N := h.1 b) (L := h.2 b) hb
  rw [jp_u_self] at t9
  exact t9
theorem jc_X0_become_h (E : jp_E) (l : Launch) {b : Nat} {h : jp_H} (hb : jp_net b) {b2 : Nat} (hb2 : jp_net b2) (hne : b2 ≠ b) : jc_M E l yX0_become wsX0_become ({ frames := 1, cells := 0, slots := 0, locals := 40 } : Room) [.ref (E.2.1 b 0), .ref (E.2.1 b2 0)] h (jp_R none (jp_u h b (jf_become (h.1 b2) (h.1 b)) (h.2 b))) := by
  have t9 := jc_X0_become E l (h := h) (N := h.1 b) (L := h.2 b) hb hb2 hne
  rw [jp_u_self] at t9
  exact t9
theorem jc_X1_add_h (E : jp_E) (l : Launch) {h : jp_H} {n : Nat} {sg : Int32} (hn : h.1 1 0 1 = nI n) (hn40 : n < 40) : jc_M E l yX1_add wsX1_add ({ frames := 0, cells := 0, slots := 0, locals := 0 } : Room) [.ref (E.2.1 1 0), .int sg] h (jp_R none (jp_u h 1 (jf_add (h.1 1) n sg) (h.2 1))) := by
  have t9 := jc_X1_add E l (h := h) (N := h.1 1) (L := h.2 1) (sg := sg) hn hn40
  rw [jp_u_self] at t9
  exact t9
theorem jc_X1_firstFault_h (E : jp_E) (l : Launch) {h : jp_H} {n : Nat} (hn : h.1 1 0 1 = nI n) (hn40 : n ≤ 40) : jc_M E l yX1_firstFault wsX1_firstFault ({ frames := 3, cells := 0, slots := 0, locals := 65 } : Room) [.ref (E.2.1 1 0)] h (jp_R (some (.int (jf_ff (h.1 1) n))) h) := by
  have t9 := jc_X1_firstFault E l (h := h) (N := h.1 1) (L := h.2 1) hn hn40
  rw [jp_u_self] at t9
  exact t9
theorem jf_within_of {x : Int32} {m : Nat} (hm : m < 2 ^ 31) (h : jf_within x (nI 0) (nI m) = true) : ∃ i, i ≤ m ∧ x = nI i := by
  unfold jf_within at h
  split at h
  · cases h
  · next q1 =>
    split at h
    · cases h
    · next q2 =>
      have q3 : ¬ x < 0 := q1
      obtain ⟨j, hj, rfl⟩ := nI_of q3
      refine ⟨j, ?_, rfl⟩
      have q4 : ¬ m < j := fun q => q2 ((nI_ltI hm hj).mpr q)
      omega
theorem jf_within_lo {x : Int32} {lo m : Nat} (hl : lo < 2 ^ 31) (hm : m < 2 ^ 31) (h : jf_within x (nI lo) (nI m) = true) : ∃ i, lo ≤ i ∧ i ≤ m ∧ x = nI i := by
  unfold jf_within at h
  split at h
  · cases h
  · next q1 =>
    split at h
    · cases h
    · next q2 =>
      have q3 : ¬ x < 0 := fun q => q1 (by
        rw [Int32.lt_iff_toInt_lt] at q ⊢
        rw [nI_toInt hl]
        rw [Int32.toInt_zero] at q
        omega)
      obtain ⟨j, hj, rfl⟩ := nI_of q3
      refine ⟨j, ?_, ?_, rfl⟩
      · have q4 : ¬ j < lo := fun q => q1 ((nI_ltI hj hl).mpr q)
        omega
      · have q4 : ¬ m < j := fun q => q2 ((nI_ltI hm hj).mpr q)
        omega
theorem jf_node_of {x : Int32} (h : jf_within x (nI 0) (nI 7) = true) : ∃ i, i < 8 ∧ x = nI i := by
  obtain ⟨i, h1, h2⟩ := jf_within_of (by decide) h
  exact ⟨i, by omega, h2⟩
def jF_node (x s j : Int32) (h : jp_H) : Int32 × jp_H :=
  if jf_within x (nI 0) (nI 7) then
    (if jf_within s (nI 1) (nI 4) then
      (if jf_within j (nI 0) (nI 999) then (h.1 2 2 x.toNatClampNeg + nI 10000, jp_s (jp_s h 2 1 x.toNatClampNeg s) 2 2 x.toNatClampNeg j) else (-2, h))
    else (-2, h))
  else (-1, h)
set_option maxHeartbeats 1000000 in
set_option maxRecDepth 100000 in
theorem jc_X2_node (E : jp_E) (l : Launch) {h : jp_H} {x s j : Int32} : jc_M E l yX2_node wsX2_node ({ frames := 2, cells := 0, slots := 0, locals := 42 } : Room) [.ref (E.2.1 0 0), .int x, .int s, .int j] h (jp_R (some (.int (jF_node x s j h).1)) (jF_node x s j h).2) := by
  refine jc_of (cc := cX2_node) (maxL := 5) (ret := some .int) (own := RX2) (lv := [(0, _), (1, _), (2, _), (3, _)]) (by decide) rfl rfl (Nat.le_of_ble_eq_true rfl) rfl (fun X cx => ?_)
  have inX0 : ∀ w ∈ u_ws RX0 TX0 9, w ∈ wsX2_node := by decide +kernel
  have inX2 : ∀ w ∈ u_ws RX2 TX2 9, w ∈ wsX2_node := by decide +kernel
  have f19 : Cond.fieldLink RX2 19 "JobSpread" "now" "LJobSpread$Net;" ∈ wsX2_node := by decide +kernel
  refine jg_iload_n cx dX2_node_0 rfl ?_
  refine jg_callSi cx (n := 1) (jc_X2_isNode E l) gX2_node_X2_isNode rfl ⟨rfl, rfl⟩ ⟨(Nat.le_of_ble_eq_true rfl), (Nat.le_of_ble_eq_true rfl)⟩ (by decide +kernel) rfl rfl (Nat.le_of_ble_eq_true rfl) dX2_node_1 ?_
  refine jg_ifb_ne cx (tgt := 9) dX2_node_4 (by decide) (fun c4 => ?_) (fun c4 => ?_)
  · obtain ⟨i, hi, rfl⟩ := jf_node_of c4
    have ei : (nI i).toNatClampNeg = i := nI_clamp (by omega)
    refine jg_iload_n cx dX2_node_9 rfl ?_
    refine jg_iconst cx (v := nI 1) dX2_node_10 (by decide) ?_
    refine jg_iconst cx (v := nI 4) dX2_node_11 (by decide) ?_
    refine jg_callSi cx (n := 3) (jc_X2_isWithin E l) gX2_node_X2_isWithin rfl ⟨rfl, rfl⟩ ⟨(Nat.le_of_ble_eq_true rfl), (Nat.le_of_ble_eq_true rfl)⟩ (by decide +kernel) rfl rfl (Nat.le_of_ble_eq_true rfl) dX2_node_12 ?_
    refine jg_ifb_eq cx (tgt := 29) dX2_node_15 (by decide) (fun c15 => ?_) (fun c15 => ?_)
    · refine jg_bipush cx (v := (-2)) dX2_node_29 (by decide) ?_
      exact jg_iret cx dX2_node_31 (⟨(by first | with_reducible rfl | (simp only [jF_node, c4, c15, ↓reduceIte, Bool.false_eq_true, Bool.true_eq_false, reduceCtorEq, eq_self, if_true, if_false, Bool.not_true, Bool.not_false]; first | done | rfl)), (by first | with_reducible rfl | (simp only [jF_node, c4, c15, ↓reduceIte, Bool.false_eq_true, Bool.true_eq_false, reduceCtorEq, eq_self, if_true, if_false, Bool.not_true, Bool.not_false]; first | done | rfl))⟩)
    · refine jg_iload_n cx dX2_node_18 rfl ?_
      refine jg_iconst cx (v := nI 0) dX2_node_19 (by decide) ?_
      refine jg_sipush cx (v := nI 999) dX2_node_20 (by decide) ?_
      refine jg_callSi cx (n := 3) (jc_X2_isWithin E l) gX2_node_X2_isWithin rfl ⟨rfl, rfl⟩ ⟨(Nat.le_of_ble_eq_true rfl), (Nat.le_of_ble_eq_true rfl)⟩ (by decide +kernel) rfl rfl (Nat.le_of_ble_eq_true rfl) dX2_node_23 ?_
      refine jg_ifb_ne cx (tgt := 32) dX2_node_26 (by decide) (fun c26 => ?_) (fun c26 => ?_)
      · refine jg_aload_n cx dX2_node_32 rfl ?_
        refine jg_get cx jp_js_o rfl inX2 1 (by decide) f19 rfl dX2_node_33 ?_
        refine jg_getN cx (jp_net_o jp_net2) rfl inX0 1 (by decide) (by decide +kernel) rfl dX2_node_36 ?_
        refine jg_iload_n cx dX2_node_39 rfl ?_
        refine jg_iald cx dX2_node_40 ((jp_net_2 jp_net2)) rfl (by omega) ?_
        refine jg_istore cx (lv' := [(0, _), (1, _), (2, _), (3, _), (4, _)]) dX2_node_41 (by decide) rfl ?_
        refine jg_aload_n cx dX2_node_43 rfl ?_
        refine jg_get cx jp_js_o rfl inX2 1 (by decide) f19 rfl dX2_node_44 ?_
        refine jg_getN cx (jp_net_o jp_net2) rfl inX0 0 (by decide) (by decide +kernel) rfl dX2_node_47 ?_
        refine jg_iload_n cx dX2_node_50 rfl ?_
        refine jg_iload_n cx dX2_node_51 rfl ?_
        refine jg_iast cx dX2_node_52 ((jp_net_1 jp_net2)) rfl (by omega) ?_
        refine jg_aload_n cx dX2_node_53 rfl ?_
        refine jg_get cx jp_js_o rfl inX2 1 (by decide) f19 rfl dX2_node_54 ?_
        refine jg_getN cx (jp_net_o jp_net2) rfl inX0 1 (by decide) (by decide +kernel) rfl dX2_node_57 ?_
        refine jg_iload_n cx dX2_node_60 rfl ?_
        refine jg_iload_n cx dX2_node_61 rfl ?_
        refine jg_iast cx dX2_node_62 ((jp_net_2 jp_net2)) rfl (by omega) ?_
        refine jg_iload cx dX2_node_63 rfl ?_
        refine jg_sipush cx (v := nI 10000) dX2_node_65 (by decide) ?_
        refine jg_iadd cx dX2_node_68 ?_
        exact jg_iret cx dX2_node_69 (⟨(by first | with_reducible rfl | (simp only [jF_node, ei, c4, c15, c26, ↓reduceIte, Bool.false_eq_true, Bool.true_eq_false, reduceCtorEq, eq_self, if_true, if_false, Bool.not_true, Bool.not_false]; first | done | rfl)), (by first | with_reducible rfl | (simp only [jF_node, ei, c4, c15, c26, ↓reduceIte, Bool.false_eq_true, Bool.true_eq_false, reduceCtorEq, eq_self, if_true, if_false, Bool.not_true, Bool.not_false]; first | done | rfl))⟩)
      · refine jg_bipush cx (v := (-2)) dX2_node_29 (by decide) ?_
        exact jg_iret cx dX2_node_31 (⟨(by first | with_reducible rfl | (simp only [jF_node, c4, c15, c26, ↓reduceIte, Bool.false_eq_true, Bool.true_eq_false, reduceCtorEq, eq_self, if_true, if_false, Bool.not_true, Bool.not_false]; first | done | rfl)), (by first | with_reducible rfl | (simp only [jF_node, c4, c15, c26, ↓reduceIte, Bool.false_eq_true, Bool.true_eq_false, reduceCtorEq, eq_self, if_true, if_false, Bool.not_true, Bool.not_false]; first | done | rfl))⟩)
  · refine jg_iconst cx (v := (-1)) dX2_node_7 (by decide) ?_
    exact jg_iret cx dX2_node_8 (⟨(by first | with_reducible rfl | (simp only [jF_node, c4, ↓reduceIte, Bool.false_eq_true, Bool.true_eq_false, reduceCtorEq, eq_self, if_true, if_false, Bool.not_true, Bool.not_false]; first | done | rfl)), (by first | with_reducible rfl | (simp only [jF_node, c4, ↓reduceIte, Bool.false_eq_true, Bool.true_eq_false, reduceCtorEq, eq_self, if_true, if_false, Bool.not_true, Bool.not_false]; first | done | rfl))⟩)
def jF_edge (x y k : Int32) (h : jp_H) : Int32 × jp_H :=
  if jf_within x (nI 0) (nI 7) then
    (if jf_within y (nI 0) (nI 7) then
      (if x = y then (-2, h) else
        (if jf_within k (-1) (nI 3) then
          (if k = -1 then ((jp_u h 2 (jf_lift (h.1 2) x.toNatClampNeg y.toNatClampNeg) (h.2 2)).1 2 0 7, jp_u h 2 (jf_lift (h.1 2) x.toNatClampNeg y.toNatClampNeg) (h.2 2))
          else (if jf_joins (h.1 2) x.toNatClampNeg y.toNatClampNeg then ((jp_u h 2 (jf_lay (h.1 2) x.toNatClampNeg y.toNatClampNeg k) (h.2 2)).1 2 0 7, jp_u h 2 (jf_lay (h.1 2) x.toNatClampNeg y.toNatClampNeg k) (h.2 2))
            else (if h.1 2 0 7 < nI 12 then ((jp_u h 2 (jf_lay (h.1 2) x.toNatClampNeg y.toNatClampNeg k) (h.2 2)).1 2 0 7, jp_u h 2 (jf_lay (h.1 2) x.toNatClampNeg y.toNatClampNeg k) (h.2 2)) else (-4, h))))
        else (-2, h)))
    else (-1, h))
  else (-1, h)
set_option maxHeartbeats 1000000 in
set_option maxRecDepth 100000 in
theorem jc_X2_edge (E : jp_E) (l : Launch) {h : jp_H} {x y k : Int32} : jc_M E l yX2_edge wsX2_edge ({ frames := 4, cells := 0, slots := 0, locals := 88 } : Room) [.ref (E.2.1 0 0), .int x, .int y, .int k] h (jp_R (some (.int (jF_edge x y k h).1)) (jF_edge x y k h).2) := by
  refine jc_of (cc := cX2_edge) (maxL := 4) (ret := some .int) (own := RX2) (lv := [(0, _), (1, _), (2, _), (3, _)]) (by decide) rfl rfl (Nat.le_of_ble_eq_true rfl) rfl (fun X cx => ?_)
  have inX0 : ∀ w ∈ u_ws RX0 TX0 9, w ∈ wsX2_edge := by decide +kernel
  have inX2 : ∀ w ∈ u_ws RX2 TX2 9, w ∈ wsX2_edge := by decide +kernel
  have f19 : Cond.fieldLink RX2 19 "JobSpread" "now" "LJobSpread$Net;" ∈ wsX2_edge := by decide +kernel
  refine jg_iload_n cx dX2_edge_0 rfl ?_
  refine jg_callSi cx (n := 1) (jc_X2_isNode E l) gX2_edge_X2_isNode rfl ⟨rfl, rfl⟩ ⟨(Nat.le_of_ble_eq_true rfl), (Nat.le_of_ble_eq_true rfl)⟩ (by decide +kernel) rfl rfl (Nat.le_of_ble_eq_true rfl) dX2_edge_1 ?_
  refine jg_ifb_eq cx (tgt := 14) dX2_edge_4 (by decide) (fun c4 => ?_) (fun c4 => ?_)
  · refine jg_iconst cx (v := (-1)) dX2_edge_14 (by decide) ?_
    exact jg_iret cx dX2_edge_15 (⟨(by first | with_reducible rfl | (simp only [jF_edge, c4, ↓reduceIte, Bool.false_eq_true, Bool.true_eq_false, reduceCtorEq, eq_self, if_true, if_false, Bool.not_true, Bool.not_false]; first | done | rfl)), (by first | with_reducible rfl | (simp only [jF_edge, c4, ↓reduceIte, Bool.false_eq_true, Bool.true_eq_false, reduceCtorEq, eq_self, if_true, if_false, Bool.not_true, Bool.not_false]; first | done | rfl))⟩)
  · obtain ⟨a, ha, rfl⟩ := jf_node_of c4
    have ea : (nI a).toNatClampNeg = a := nI_clamp (by omega)
    refine jg_iload_n cx dX2_edge_7 rfl ?_
    refine jg_callSi cx (n := 1) (jc_X2_isNode E l) gX2_edge_X2_isNode rfl ⟨rfl, rfl⟩ ⟨(Nat.le_of_ble_eq_true rfl), (Nat.le_of_ble_eq_true rfl)⟩ (by decide +kernel) rfl rfl (Nat.le_of_ble_eq_true rfl) dX2_edge_8 ?_
    refine jg_ifb_ne cx (tgt := 16) dX2_edge_11 (by decide) (fun c11 => ?_) (fun c11 => ?_)
    · obtain ⟨c, hc, rfl⟩ := jf_node_of c11
      have ec : (nI c).toNatClampNeg = c := nI_clamp (by omega)
      refine jg_iload_n cx dX2_edge_16 rfl ?_
      refine jg_iload_n cx dX2_edge_17 rfl ?_
      refine jg_icmp_eq cx (tgt := 30) dX2_edge_18 (by decide) (fun c18 => ?_) (fun c18 => ?_)
      · refine jg_bipush cx (v := (-2)) dX2_edge_30 (by decide) ?_
        exact jg_iret cx dX2_edge_32 (⟨(by first | with_reducible rfl | (simp only [jF_edge, c4, c11, if_pos c18, ↓reduceIte, Bool.false_eq_true, Bool.true_eq_false, reduceCtorEq, eq_self, if_true, if_false, Bool.not_true, Bool.not_false]; first | done | rfl)), (by first | with_reducible rfl | (simp only [jF_edge, c4, c11, if_pos c18, ↓reduceIte, Bool.false_eq_true, Bool.true_eq_false, reduceCtorEq, eq_self, if_true, if_false, Bool.not_true, Bool.not_false]; first | done | rfl))⟩)
      · refine jg_iload_n cx dX2_edge_21 rfl ?_
        refine jg_iconst cx (v := (-1)) dX2_edge_22 (by decide) ?_
        refine jg_iconst cx (v := nI 3) dX2_edge_23 (by decide) ?_
        refine jg_callSi cx (n := 3) (jc_X2_isWithin E l) gX2_edge_X2_isWithin rfl ⟨rfl, rfl⟩ ⟨(Nat.le_of_ble_eq_true rfl), (Nat.le_of_ble_eq_true rfl)⟩ (by decide +kernel) rfl rfl (Nat.le_of_ble_eq_true rfl) dX2_edge_24 ?_
        refine jg_ifb_ne cx (tgt := 33) dX2_edge_27 (by decide) (fun c27 => ?_) (fun c27 => ?_)
        · refine jg_iload_n cx dX2_edge_33 rfl ?_
          refine jg_iconst cx (v := (-1)) dX2_edge_34 (by decide) ?_
          refine jg_icmp_ne cx (tgt := 55) dX2_edge_35 (by decide) (fun c35 => ?_) (fun c35 => ?_)
          · refine jg_aload_n cx dX2_edge_55 rfl ?_
            refine jg_get cx jp_js_o rfl inX2 1 (by decide) f19 rfl dX2_edge_56 ?_
            refine jg_iload_n cx dX2_edge_59 rfl ?_
            refine jg_iload_n cx dX2_edge_60 rfl ?_
            refine jg_callVNi cx (n := 2) (jc_X0_joins_h E l jp_net2 (by omega) (by omega)) gX2_edge_X0_joins_n68 (by decide +kernel) (by decide +kernel) (by decide +kernel) (by decide +kernel) rfl ⟨rfl, rfl⟩ ⟨(Nat.le_of_ble_eq_true rfl), (Nat.le_of_ble_eq_true rfl)⟩ (by decide +kernel) (jp_net_o jp_net2) rfl rfl rfl (Nat.le_of_ble_eq_true rfl) dX2_edge_61 ?_
            refine jg_ifb_ne cx (tgt := 82) dX2_edge_64 (by decide) (fun c64 => ?_) (fun c64 => ?_)
            · refine jg_aload_n cx dX2_edge_82 rfl ?_
              refine jg_get cx jp_js_o rfl inX2 1 (by decide) f19 rfl dX2_edge_83 ?_
              refine jg_iload_n cx dX2_edge_86 rfl ?_
              refine jg_iload_n cx dX2_edge_87 rfl ?_
              refine jg_iload_n cx dX2_edge_88 rfl ?_
              refine jg_callVNv cx (n := 3) (jc_X0_lay_h E l jp_net2 (by omega) (by omega)) gX2_edge_X0_lay_n72 (by decide +kernel) (by decide +kernel) (by decide +kernel) (by decide +kernel) rfl ⟨rfl, rfl⟩ ⟨(Nat.le_of_ble_eq_true rfl), (Nat.le_of_ble_eq_true rfl)⟩ (by decide +kernel) (jp_net_o jp_net2) rfl rfl rfl (Nat.le_of_ble_eq_true rfl) dX2_edge_89 ?_
              refine jg_aload_n cx dX2_edge_92 rfl ?_
              refine jg_get cx jp_js_o rfl inX2 1 (by decide) f19 rfl dX2_edge_93 ?_
              refine jg_getN cx (jp_net_o jp_net2) rfl inX0 7 (by decide) (by decide +kernel) rfl dX2_edge_96 ?_
              exact jg_iret cx dX2_edge_99 (⟨(by first | with_reducible rfl | (simp only [jF_edge, ea, ec, c4, c11, if_neg c18, c27, if_neg c35, c64, ↓reduceIte, Bool.false_eq_true, Bool.true_eq_false, reduceCtorEq, eq_self, if_true, if_false, Bool.not_true, Bool.not_false]; first | done | rfl)), (by first | with_reducible rfl | (simp only [jF_edge, ea, ec, c4, c11, if_neg c18, c27, if_neg c35, c64, ↓reduceIte, Bool.false_eq_true, Bool.true_eq_false, reduceCtorEq, eq_self, if_true, if_false, Bool.not_true, Bool.not_false]; first | done | rfl))⟩)
            · refine jg_aload_n cx dX2_edge_67 rfl ?_
              refine jg_get cx jp_js_o rfl inX2 1 (by decide) f19 rfl dX2_edge_68 ?_
              refine jg_getN cx (jp_net_o jp_net2) rfl inX0 7 (by decide) (by decide +kernel) rfl dX2_edge_71 ?_
              refine jg_bipush cx (v := nI 12) dX2_edge_74 (by decide) ?_
              refine jg_icmp_lt cx (tgt := 82) dX2_edge_76 (by decide) (fun c76 => ?_) (fun c76 => ?_)
              · refine jg_aload_n cx dX2_edge_82 rfl ?_
                refine jg_get cx jp_js_o rfl inX2 1 (by decide) f19 rfl dX2_edge_83 ?_
                refine jg_iload_n cx dX2_edge_86 rfl ?_
                refine jg_iload_n cx dX2_edge_87 rfl ?_
                refine jg_iload_n cx dX2_edge_88 rfl ?_
                refine jg_callVNv cx (n := 3) (jc_X0_lay_h E l jp_net2 (by omega) (by omega)) gX2_edge_X0_lay_n72 (by decide +kernel) (by decide +kernel) (by decide +kernel) (by decide +kernel) rfl ⟨rfl, rfl⟩ ⟨(Nat.le_of_ble_eq_true rfl), (Nat.le_of_ble_eq_true rfl)⟩ (by decide +kernel) (jp_net_o jp_net2) rfl rfl rfl (Nat.le_of_ble_eq_true rfl) dX2_edge_89 ?_
                refine jg_aload_n cx dX2_edge_92 rfl ?_
                refine jg_get cx jp_js_o rfl inX2 1 (by decide) f19 rfl dX2_edge_93 ?_
                refine jg_getN cx (jp_net_o jp_net2) rfl inX0 7 (by decide) (by decide +kernel) rfl dX2_edge_96 ?_
                exact jg_iret cx dX2_edge_99 (⟨(by first | with_reducible rfl | (simp only [jF_edge, ea, ec, c4, c11, if_neg c18, c27, if_neg c35, c64, if_pos c76, ↓reduceIte, Bool.false_eq_true, Bool.true_eq_false, reduceCtorEq, eq_self, if_true, if_false, Bool.not_true, Bool.not_false]; first | done | rfl)), (by first | with_reducible rfl | (simp only [jF_edge, ea, ec, c4, c11, if_neg c18, c27, if_neg c35, c64, if_pos c76, ↓reduceIte, Bool.false_eq_true, Bool.true_eq_false, reduceCtorEq, eq_self, if_true, if_false, Bool.not_true, Bool.not_false]; first | done | rfl))⟩)
              · refine jg_bipush cx (v := (-4)) dX2_edge_79 (by decide) ?_
                exact jg_iret cx dX2_edge_81 (⟨(by first | with_reducible rfl | (simp only [jF_edge, ea, ec, c4, c11, if_neg c18, c27, if_neg c35, c64, if_neg c76, ↓reduceIte, Bool.false_eq_true, Bool.true_eq_false, reduceCtorEq, eq_self, if_true, if_false, Bool.not_true, Bool.not_false]; first | done | rfl)), (by first | with_reducible rfl | (simp only [jF_edge, ea, ec, c4, c11, if_neg c18, c27, if_neg c35, c64, if_neg c76, ↓reduceIte, Bool.false_eq_true, Bool.true_eq_false, reduceCtorEq, eq_self, if_true, if_false, Bool.not_true, Bool.not_false]; first | done | rfl))⟩)
          · refine jg_aload_n cx dX2_edge_38 rfl ?_
            refine jg_get cx jp_js_o rfl inX2 1 (by decide) f19 rfl dX2_edge_39 ?_
            refine jg_iload_n cx dX2_edge_42 rfl ?_
            refine jg_iload_n cx dX2_edge_43 rfl ?_
            refine jg_callVNv cx (n := 2) (jc_X0_lift_h E l jp_net2 (by omega) (by omega)) gX2_edge_X0_lift_n61 (by decide +kernel) (by decide +kernel) (by decide +kernel) (by decide +kernel) rfl ⟨rfl, rfl⟩ ⟨(Nat.le_of_ble_eq_true rfl), (Nat.le_of_ble_eq_true rfl)⟩ (by decide +kernel) (jp_net_o jp_net2) rfl rfl rfl (Nat.le_of_ble_eq_true rfl) dX2_edge_44 ?_
            refine jg_aload_n cx dX2_edge_47 rfl ?_
            refine jg_get cx jp_js_o rfl inX2 1 (by decide) f19 rfl dX2_edge_48 ?_
            refine jg_getN cx (jp_net_o jp_net2) rfl inX0 7 (by decide) (by decide +kernel) rfl dX2_edge_51 ?_
            exact jg_iret cx dX2_edge_54 (⟨(by first | with_reducible rfl | (simp only [jF_edge, ea, ec, c4, c11, if_neg c18, c27, if_pos c35, ↓reduceIte, Bool.false_eq_true, Bool.true_eq_false, reduceCtorEq, eq_self, if_true, if_false, Bool.not_true, Bool.not_false]; first | done | rfl)), (by first | with_reducible rfl | (simp only [jF_edge, ea, ec, c4, c11, if_neg c18, c27, if_pos c35, ↓reduceIte, Bool.false_eq_true, Bool.true_eq_false, reduceCtorEq, eq_self, if_true, if_false, Bool.not_true, Bool.not_false]; first | done | rfl))⟩)
        · refine jg_bipush cx (v := (-2)) dX2_edge_30 (by decide) ?_
          exact jg_iret cx dX2_edge_32 (⟨(by first | with_reducible rfl | (simp only [jF_edge, c4, c11, if_neg c18, c27, ↓reduceIte, Bool.false_eq_true, Bool.true_eq_false, reduceCtorEq, eq_self, if_true, if_false, Bool.not_true, Bool.not_false]; first | done | rfl)), (by first | with_reducible rfl | (simp only [jF_edge, c4, c11, if_neg c18, c27, ↓reduceIte, Bool.false_eq_true, Bool.true_eq_false, reduceCtorEq, eq_self, if_true, if_false, Bool.not_true, Bool.not_false]; first | done | rfl))⟩)
    · refine jg_iconst cx (v := (-1)) dX2_edge_14 (by decide) ?_
      exact jg_iret cx dX2_edge_15 (⟨(by first | with_reducible rfl | (simp only [jF_edge, c4, c11, ↓reduceIte, Bool.false_eq_true, Bool.true_eq_false, reduceCtorEq, eq_self, if_true, if_false, Bool.not_true, Bool.not_false]; first | done | rfl)), (by first | with_reducible rfl | (simp only [jF_edge, c4, c11, ↓reduceIte, Bool.false_eq_true, Bool.true_eq_false, reduceCtorEq, eq_self, if_true, if_false, Bool.not_true, Bool.not_false]; first | done | rfl))⟩)
def jF_say (sg : Int32) (n : Nat) (h : jp_H) : Int32 × jp_H :=
  if jf_within sg (nI 33) (nI 126) then
    (if n < 40 then ((jp_u h 1 (jf_add (h.1 1) n sg) (h.2 1)).1 1 0 1, jp_u h 1 (jf_add (h.1 1) n sg) (h.2 1)) else (-4, h))
  else (-2, h)
set_option maxHeartbeats 1000000 in
set_option maxRecDepth 100000 in
theorem jc_X2_say (E : jp_E) (l : Launch) {h : jp_H} {sg : Int32} {n : Nat} (hn : h.1 1 0 1 = nI n) (h40 : n ≤ 40) : jc_M E l yX2_say wsX2_say ({ frames := 1, cells := 0, slots := 0, locals := 22 } : Room) [.ref (E.2.1 0 0), .int sg] h (jp_R (some (.int (jF_say sg n h).1)) (jF_say sg n h).2) := by
  refine jc_of (cc := cX2_say) (maxL := 2) (ret := some .int) (own := RX2) (lv := [(0, _), (1, _)]) (by decide) rfl rfl (Nat.le_of_ble_eq_true rfl) rfl (fun X cx => ?_)
  have inX1 : ∀ w ∈ u_ws RX1 TX1 2, w ∈ wsX2_say := by decide +kernel
  have inX2 : ∀ w ∈ u_ws RX2 TX2 9, w ∈ wsX2_say := by decide +kernel
  have f10 : Cond.fieldLink RX2 10 "JobSpread" "pad" "LJobSpread$Pad;" ∈ wsX2_say := by decide +kernel
  refine jg_iload_n cx dX2_say_0 rfl ?_
  refine jg_bipush cx (v := nI 33) dX2_say_1 (by decide) ?_
  refine jg_bipush cx (v := nI 126) dX2_say_3 (by decide) ?_
  refine jg_callSi cx (n := 3) (jc_X2_isWithin E l) gX2_say_X2_isWithin rfl ⟨rfl, rfl⟩ ⟨(Nat.le_of_ble_eq_true rfl), (Nat.le_of_ble_eq_true rfl)⟩ (by decide +kernel) rfl rfl (Nat.le_of_ble_eq_true rfl) dX2_say_5 ?_
  refine jg_ifb_ne cx (tgt := 14) dX2_say_8 (by decide) (fun c8 => ?_) (fun c8 => ?_)
  · refine jg_aload_n cx dX2_say_14 rfl ?_
    refine jg_get cx jp_js_o rfl inX2 0 (by decide) f10 rfl dX2_say_15 ?_
    refine jg_getN cx jp_pad_o rfl inX1 1 (by decide) (by decide +kernel) rfl dX2_say_18 ?_
    rw [hn]
    refine jg_bipush cx (v := nI 40) dX2_say_21 (by decide) ?_
    refine jg_icmpN_lt cx (tgt := 29) dX2_say_23 (by decide) (by omega) (by omega) (fun c23 => ?_) (fun c23 => ?_)
    · refine jg_aload_n cx dX2_say_29 rfl ?_
      refine jg_get cx jp_js_o rfl inX2 0 (by decide) f10 rfl dX2_say_30 ?_
      refine jg_iload_n cx dX2_say_33 rfl ?_
      refine jg_callVNv cx (n := 1) (jc_X1_add_h E l hn c23) gX2_say_X1_add_n79 (by decide +kernel) (by decide +kernel) (by decide +kernel) (by decide +kernel) rfl ⟨rfl, rfl⟩ ⟨(Nat.le_of_ble_eq_true rfl), (Nat.le_of_ble_eq_true rfl)⟩ (by decide +kernel) jp_pad_o rfl rfl rfl (Nat.le_of_ble_eq_true rfl) dX2_say_34 ?_
      refine jg_aload_n cx dX2_say_37 rfl ?_
      refine jg_get cx jp_js_o rfl inX2 0 (by decide) f10 rfl dX2_say_38 ?_
      refine jg_getN cx jp_pad_o rfl inX1 1 (by decide) (by decide +kernel) rfl dX2_say_41 ?_
      exact jg_iret cx dX2_say_44 (⟨by simp only [jF_say, c8, if_pos c23, ↓reduceIte], by simp only [jF_say, c8, if_pos c23, ↓reduceIte]⟩)
    · refine jg_bipush cx (v := (-4)) dX2_say_26 (by decide) ?_
      exact jg_iret cx dX2_say_28 (⟨by simp only [jF_say, c8, if_neg (show ¬ n < 40 by omega), ↓reduceIte], by simp only [jF_say, c8, if_neg (show ¬ n < 40 by omega), ↓reduceIte]⟩)
  · refine jg_bipush cx (v := (-2)) dX2_say_11 (by decide) ?_
    exact jg_iret cx dX2_say_13 (⟨(by first | with_reducible rfl | (simp only [jF_say, c8, ↓reduceIte, Bool.false_eq_true, Bool.true_eq_false, reduceCtorEq, eq_self, if_true, if_false, Bool.not_true, Bool.not_false]; first | done | rfl)), (by first | with_reducible rfl | (simp only [jF_say, c8, ↓reduceIte, Bool.false_eq_true, Bool.true_eq_false, reduceCtorEq, eq_self, if_true, if_false, Bool.not_true, Bool.not_false]; first | done | rfl))⟩)
set_option maxHeartbeats 1000000 in
set_option maxRecDepth 100000 in
theorem jc_X2_wipe (E : jp_E) (l : Launch) {h : jp_H}  : jc_M E l yX2_wipe wsX2_wipe ({ frames := 0, cells := 0, slots := 0, locals := 0 } : Room) [.ref (E.2.1 0 0)] h (jp_R (some (.int (((h.1 1 0 1, jp_s h 1 0 1 (nI 0)) : Int32 × jp_H)).1)) (((h.1 1 0 1, jp_s h 1 0 1 (nI 0)) : Int32 × jp_H)).2) := by
  refine jc_of (cc := cX2_wipe) (maxL := 2) (ret := some .int) (own := RX2) (lv := [(0, _)]) (by decide) rfl rfl (Nat.le_of_ble_eq_true rfl) rfl (fun X cx => ?_)
  have inX1 : ∀ w ∈ u_ws RX1 TX1 2, w ∈ wsX2_wipe := by decide +kernel
  have inX2 : ∀ w ∈ u_ws RX2 TX2 9, w ∈ wsX2_wipe := by decide +kernel
  have f10 : Cond.fieldLink RX2 10 "JobSpread" "pad" "LJobSpread$Pad;" ∈ wsX2_wipe := by decide +kernel
  refine jg_aload_n cx dX2_wipe_0 rfl ?_
  refine jg_get cx jp_js_o rfl inX2 0 (by decide) f10 rfl dX2_wipe_1 ?_
  refine jg_getN cx jp_pad_o rfl inX1 1 (by decide) (by decide +kernel) rfl dX2_wipe_4 ?_
  refine jg_istore_n cx (lv' := [(0, _), (1, _)]) dX2_wipe_7 (by decide) rfl ?_
  refine jg_aload_n cx dX2_wipe_8 rfl ?_
  refine jg_get cx jp_js_o rfl inX2 0 (by decide) f10 rfl dX2_wipe_9 ?_
  refine jg_iconst cx (v := nI 0) dX2_wipe_12 (by decide) ?_
  refine jg_putN cx jp_pad_o rfl inX1 tyX1 tyX1_ok nmX1 1 (by decide) (by decide +kernel) rfl (by decide +kernel) (Nat.le_of_ble_eq_true rfl) (jp_put1_1 _ _ _) dX2_wipe_13 ?_
  refine jg_iload_n cx dX2_wipe_16 rfl ?_
  exact jg_iret cx dX2_wipe_17 (⟨rfl, rfl⟩)
set_option maxHeartbeats 1000000 in
set_option maxRecDepth 100000 in
theorem jc_X2_fault (E : jp_E) (l : Launch) {h : jp_H} {n : Nat} (hn : h.1 1 0 1 = nI n) (h40 : n ≤ 40) : jc_M E l yX2_fault wsX2_fault ({ frames := 4, cells := 0, slots := 0, locals := 86 } : Room) [.ref (E.2.1 0 0)] h (jp_R (some (.int (((jf_ff (h.1 1) n, h) : Int32 × jp_H)).1)) (((jf_ff (h.1 1) n, h) : Int32 × jp_H)).2) := by
  refine jc_of (cc := cX2_fault) (maxL := 1) (ret := some .int) (own := RX2) (lv := [(0, _)]) (by decide) rfl rfl (Nat.le_of_ble_eq_true rfl) rfl (fun X cx => ?_)
  have inX2 : ∀ w ∈ u_ws RX2 TX2 9, w ∈ wsX2_fault := by decide +kernel
  have f10 : Cond.fieldLink RX2 10 "JobSpread" "pad" "LJobSpread$Pad;" ∈ wsX2_fault := by decide +kernel
  refine jg_aload_n cx dX2_fault_0 rfl ?_
  refine jg_get cx jp_js_o rfl inX2 0 (by decide) f10 rfl dX2_fault_1 ?_
  refine jg_callVNi cx (n := 0) (jc_X1_firstFault_h E l hn h40) gX2_fault_X1_firstFault_n83 (by decide +kernel) (by decide +kernel) (by decide +kernel) (by decide +kernel) rfl ⟨rfl, rfl⟩ ⟨(Nat.le_of_ble_eq_true rfl), (Nat.le_of_ble_eq_true rfl)⟩ (by decide +kernel) jp_pad_o rfl rfl rfl (Nat.le_of_ble_eq_true rfl) dX2_fault_4 ?_
  exact jg_iret cx dX2_fault_7 (⟨rfl, rfl⟩)
def jF_jobs (x : Int32) (h : jp_H) : Int32 × jp_H := if jf_within x (nI 0) (nI 7) then (h.1 2 2 x.toNatClampNeg + nI 10000, h) else (-1, h)
set_option maxHeartbeats 1000000 in
set_option maxRecDepth 100000 in
theorem jc_X2_jobs (E : jp_E) (l : Launch) {h : jp_H} {x : Int32} : jc_M E l yX2_jobs wsX2_jobs ({ frames := 2, cells := 0, slots := 0, locals := 42 } : Room) [.ref (E.2.1 0 0), .int x] h (jp_R (some (.int (jF_jobs x h).1)) (jF_jobs x h).2) := by
  refine jc_of (cc := cX2_jobs) (maxL := 2) (ret := some .int) (own := RX2) (lv := [(0, _), (1, _)]) (by decide) rfl rfl (Nat.le_of_ble_eq_true rfl) rfl (fun X cx => ?_)
  have inX0 : ∀ w ∈ u_ws RX0 TX0 9, w ∈ wsX2_jobs := by decide +kernel
  have inX2 : ∀ w ∈ u_ws RX2 TX2 9, w ∈ wsX2_jobs := by decide +kernel
  have f19 : Cond.fieldLink RX2 19 "JobSpread" "now" "LJobSpread$Net;" ∈ wsX2_jobs := by decide +kernel
  refine jg_iload_n cx dX2_jobs_0 rfl ?_
  refine jg_callSi cx (n := 1) (jc_X2_isNode E l) gX2_jobs_X2_isNode rfl ⟨rfl, rfl⟩ ⟨(Nat.le_of_ble_eq_true rfl), (Nat.le_of_ble_eq_true rfl)⟩ (by decide +kernel) rfl rfl (Nat.le_of_ble_eq_true rfl) dX2_jobs_1 ?_
  refine jg_ifb_ne cx (tgt := 9) dX2_jobs_4 (by decide) (fun c4 => ?_) (fun c4 => ?_)
  · obtain ⟨i, hi, rfl⟩ := jf_node_of c4
    have ei : (nI i).toNatClampNeg = i := nI_clamp (by omega)
    refine jg_aload_n cx dX2_jobs_9 rfl ?_
    refine jg_get cx jp_js_o rfl inX2 1 (by decide) f19 rfl dX2_jobs_10 ?_
    refine jg_getN cx (jp_net_o jp_net2) rfl inX0 1 (by decide) (by decide +kernel) rfl dX2_jobs_13 ?_
    refine jg_iload_n cx dX2_jobs_16 rfl ?_
    refine jg_iald cx dX2_jobs_17 ((jp_net_2 jp_net2)) rfl (by omega) ?_
    refine jg_sipush cx (v := nI 10000) dX2_jobs_18 (by decide) ?_
    refine jg_iadd cx dX2_jobs_21 ?_
    exact jg_iret cx dX2_jobs_22 (⟨(by first | with_reducible rfl | (simp only [jF_jobs, ei, c4, ↓reduceIte, Bool.false_eq_true, Bool.true_eq_false, reduceCtorEq, eq_self, if_true, if_false, Bool.not_true, Bool.not_false]; first | done | rfl)), (by first | with_reducible rfl | (simp only [jF_jobs, ei, c4, ↓reduceIte, Bool.false_eq_true, Bool.true_eq_false, reduceCtorEq, eq_self, if_true, if_false, Bool.not_true, Bool.not_false]; first | done | rfl))⟩)
  · refine jg_iconst cx (v := (-1)) dX2_jobs_7 (by decide) ?_
    exact jg_iret cx dX2_jobs_8 (⟨(by first | with_reducible rfl | (simp only [jF_jobs, c4, ↓reduceIte, Bool.false_eq_true, Bool.true_eq_false, reduceCtorEq, eq_self, if_true, if_false, Bool.not_true, Bool.not_false]; first | done | rfl)), (by first | with_reducible rfl | (simp only [jF_jobs, c4, ↓reduceIte, Bool.false_eq_true, Bool.true_eq_false, reduceCtorEq, eq_self, if_true, if_false, Bool.not_true, Bool.not_false]; first | done | rfl))⟩)
def jF_toldC (i : Nat) (w : Int32) (h : jp_H) : Int32 × jp_H :=
  if jf_within w (nI 10) (nI 17) then
    (if jf_joins (h.1 2) i (w.toNatClampNeg - 10) then (h.1 2 5 (jf_spot i (w.toNatClampNeg - 10)), h) else (-6, h))
  else (-2, h)
set_option maxHeartbeats 1000000 in
set_option maxRecDepth 100000 in
theorem jc_X2_toldColour (E : jp_E) (l : Launch) {h : jp_H} {i : Nat} {w : Int32} (hi : i < 8) : jc_M E l yX2_toldColour wsX2_toldColour ({ frames := 2, cells := 0, slots := 0, locals := 43 } : Room) [.ref (E.2.1 0 0), .int (nI i), .int w] h (jp_R (some (.int (jF_toldC i w h).1)) (jF_toldC i w h).2) := by
  refine jc_of (cc := cX2_toldColour) (maxL := 4) (ret := some .int) (own := RX2) (lv := [(0, _), (1, _), (2, _)]) (by decide) rfl rfl (Nat.le_of_ble_eq_true rfl) rfl (fun X cx => ?_)
  have inX0 : ∀ w ∈ u_ws RX0 TX0 9, w ∈ wsX2_toldColour := by decide +kernel
  have inX2 : ∀ w ∈ u_ws RX2 TX2 9, w ∈ wsX2_toldColour := by decide +kernel
  have f19 : Cond.fieldLink RX2 19 "JobSpread" "now" "LJobSpread$Net;" ∈ wsX2_toldColour := by decide +kernel
  refine jg_iload_n cx dX2_toldColour_0 rfl ?_
  refine jg_bipush cx (v := nI 10) dX2_toldColour_1 (by decide) ?_
  refine jg_bipush cx (v := nI 17) dX2_toldColour_3 (by decide) ?_
  refine jg_callSi cx (n := 3) (jc_X2_isWithin E l) gX2_toldColour_X2_isWithin rfl ⟨rfl, rfl⟩ ⟨(Nat.le_of_ble_eq_true rfl), (Nat.le_of_ble_eq_true rfl)⟩ (by decide +kernel) rfl rfl (Nat.le_of_ble_eq_true rfl) dX2_toldColour_5 ?_
  refine jg_ifb_ne cx (tgt := 14) dX2_toldColour_8 (by decide) (fun c8 => ?_) (fun c8 => ?_)
  · obtain ⟨j, hj1, hj2, rfl⟩ := jf_within_lo (by decide) (by decide) c8
    have ej : (nI j).toNatClampNeg = j := nI_clamp (by omega)
    refine jg_iload_n cx dX2_toldColour_14 rfl ?_
    refine jg_bipush cx (v := nI 10) dX2_toldColour_15 (by decide) ?_
    refine jg_isubN cx dX2_toldColour_17 (by omega) ?_
    refine jg_istore_n cx (lv' := [(0, _), (1, _), (2, _), (3, _)]) dX2_toldColour_18 (by decide) rfl ?_
    refine jg_aload_n cx dX2_toldColour_19 rfl ?_
    refine jg_get cx jp_js_o rfl inX2 1 (by decide) f19 rfl dX2_toldColour_20 ?_
    refine jg_iload_n cx dX2_toldColour_23 rfl ?_
    refine jg_iload_n cx dX2_toldColour_24 rfl ?_
    refine jg_callVNi cx (n := 2) (jc_X0_joins_h E l jp_net2 (by omega) (by omega)) gX2_toldColour_X0_joins_n68 (by decide +kernel) (by decide +kernel) (by decide +kernel) (by decide +kernel) rfl ⟨rfl, rfl⟩ ⟨(Nat.le_of_ble_eq_true rfl), (Nat.le_of_ble_eq_true rfl)⟩ (by decide +kernel) (jp_net_o jp_net2) rfl rfl rfl (Nat.le_of_ble_eq_true rfl) dX2_toldColour_25 ?_
    refine jg_ifb_eq cx (tgt := 47) dX2_toldColour_28 (by decide) (fun c28 => ?_) (fun c28 => ?_)
    · refine jg_bipush cx (v := (-6)) dX2_toldColour_47 (by decide) ?_
      exact jg_iret cx dX2_toldColour_49 (⟨(by first | with_reducible rfl | (simp only [jF_toldC, ej, c8, c28, ↓reduceIte, Bool.false_eq_true, Bool.true_eq_false, reduceCtorEq, eq_self, if_true, if_false, Bool.not_true, Bool.not_false]; first | done | rfl)), (by first | with_reducible rfl | (simp only [jF_toldC, ej, c8, c28, ↓reduceIte, Bool.false_eq_true, Bool.true_eq_false, reduceCtorEq, eq_self, if_true, if_false, Bool.not_true, Bool.not_false]; first | done | rfl))⟩)
    · refine jg_aload_n cx dX2_toldColour_31 rfl ?_
      refine jg_get cx jp_js_o rfl inX2 1 (by decide) f19 rfl dX2_toldColour_32 ?_
      refine jg_getN cx (jp_net_o jp_net2) rfl inX0 4 (by decide) (by decide +kernel) rfl dX2_toldColour_35 ?_
      refine jg_iload_n cx dX2_toldColour_38 rfl ?_
      refine jg_iload_n cx dX2_toldColour_39 rfl ?_
      refine jg_callSi cx (n := 2) (jc_X2_spotN E l (by omega) (by omega)) gX2_toldColour_X2_spot rfl ⟨rfl, rfl⟩ ⟨(Nat.le_of_ble_eq_true rfl), (Nat.le_of_ble_eq_true rfl)⟩ (by decide +kernel) rfl rfl (Nat.le_of_ble_eq_true rfl) dX2_toldColour_40 ?_
      refine jg_iald cx dX2_toldColour_43 ((jp_net_5 jp_net2)) rfl (jf_spot_lt (by omega) (by omega)) ?_
      refine jg_goto cx (tgt := 49) dX2_toldColour_44 (by decide) ?_
      exact jg_iret cx dX2_toldColour_49 (⟨(by first | with_reducible rfl | (simp only [jF_toldC, ej, c8, c28, ↓reduceIte, Bool.false_eq_true, Bool.true_eq_false, reduceCtorEq, eq_self, if_true, if_false, Bool.not_true, Bool.not_false]; first | done | rfl)), (by first | with_reducible rfl | (simp only [jF_toldC, ej, c8, c28, ↓reduceIte, Bool.false_eq_true, Bool.true_eq_false, reduceCtorEq, eq_self, if_true, if_false, Bool.not_true, Bool.not_false]; first | done | rfl))⟩)
  · refine jg_bipush cx (v := (-2)) dX2_toldColour_11 (by decide) ?_
    exact jg_iret cx dX2_toldColour_13 (⟨(by first | with_reducible rfl | (simp only [jF_toldC, c8, ↓reduceIte, Bool.false_eq_true, Bool.true_eq_false, reduceCtorEq, eq_self, if_true, if_false, Bool.not_true, Bool.not_false]; first | done | rfl)), (by first | with_reducible rfl | (simp only [jF_toldC, c8, ↓reduceIte, Bool.false_eq_true, Bool.true_eq_false, reduceCtorEq, eq_self, if_true, if_false, Bool.not_true, Bool.not_false]; first | done | rfl))⟩)
def jF_told (x w : Int32) (h : jp_H) : Int32 × jp_H :=
  if jf_within x (nI 0) (nI 7) then
    (if w = nI 0 then (h.1 2 1 x.toNatClampNeg, h) else if w = nI 1 then (h.1 2 4 x.toNatClampNeg, h) else if w = nI 2 then (jf_rlo (h.1 2) x.toNatClampNeg, h) else jF_toldC x.toNatClampNeg w h)
  else (-1, h)
theorem jf_out (w : Int32) (m : Nat) (hm : m < 2 ^ 31) (hq : ∀ j, j ≤ m → ¬ w = nI j) : w.toInt < 0 ∨ (m : Int) < w.toInt := by
  by_cases q : w < 0
  · left
    rw [Int32.lt_iff_toInt_lt, Int32.toInt_zero] at q
    exact q
  · right
    obtain ⟨j, hj, rfl⟩ := nI_of q
    rw [nI_toInt hj]
    have : ¬ j ≤ m := fun z => hq j z rfl
    omega
theorem jf_lt3 {w : Int32} {P : Prop} (q0 : ¬ w = nI 0) (q1 : ¬ w = nI 1) (q2 : ¬ w = nI 2) : ∀ j, j ≤ 2 → ¬ w = nI j := by
  intro j hj
  rcases (show j = 0 ∨ j = 1 ∨ j = 2 by omega) with rfl | rfl | rfl <;> assumption
set_option maxHeartbeats 1000000 in
set_option maxRecDepth 100000 in
theorem jc_X2_told (E : jp_E) (l : Launch) {h : jp_H} {x w : Int32} : jc_M E l yX2_told wsX2_told ({ frames := 3, cells := 0, slots := 0, locals := 66 } : Room) [.ref (E.2.1 0 0), .int x, .int w] h (jp_R (some (.int (jF_told x w h).1)) (jF_told x w h).2) := by
  refine jc_of (cc := cX2_told) (maxL := 3) (ret := some .int) (own := RX2) (lv := [(0, _), (1, _), (2, _)]) (by decide) rfl rfl (Nat.le_of_ble_eq_true rfl) rfl (fun X cx => ?_)
  have inX0 : ∀ w ∈ u_ws RX0 TX0 9, w ∈ wsX2_told := by decide +kernel
  have inX2 : ∀ w ∈ u_ws RX2 TX2 9, w ∈ wsX2_told := by decide +kernel
  have f19 : Cond.fieldLink RX2 19 "JobSpread" "now" "LJobSpread$Net;" ∈ wsX2_told := by decide +kernel
  refine jg_iload_n cx dX2_told_0 rfl ?_
  refine jg_callSi cx (n := 1) (jc_X2_isNode E l) gX2_told_X2_isNode rfl ⟨rfl, rfl⟩ ⟨(Nat.le_of_ble_eq_true rfl), (Nat.le_of_ble_eq_true rfl)⟩ (by decide +kernel) rfl rfl (Nat.le_of_ble_eq_true rfl) dX2_told_1 ?_
  refine jg_ifb_ne cx (tgt := 9) dX2_told_4 (by decide) (fun c4 => ?_) (fun c4 => ?_)
  · obtain ⟨i, hi, rfl⟩ := jf_node_of c4
    have ei : (nI i).toNatClampNeg = i := nI_clamp (by omega)
    refine jg_iload_n cx dX2_told_9 rfl ?_
    rcases Classical.em (w = nI 0) with q0 | q0
    · subst q0
      refine jg_tableIn cx (off := 26) (tgt := 36) dX2_told_10 (by decide) (by decide) (by decide) (by decide) ?_
      refine jg_aload_n cx dX2_told_36 rfl ?_
      refine jg_get cx jp_js_o rfl inX2 1 (by decide) f19 rfl dX2_told_37 ?_
      refine jg_getN cx (jp_net_o jp_net2) rfl inX0 0 (by decide) (by decide +kernel) rfl dX2_told_40 ?_
      refine jg_iload_n cx dX2_told_43 rfl ?_
      refine jg_iald cx dX2_told_44 ((jp_net_1 jp_net2)) rfl (by omega) ?_
      exact jg_iret cx dX2_told_45 (⟨(by first | with_reducible rfl | (simp only [jF_told, ei, c4, ↓reduceIte, Bool.false_eq_true, Bool.true_eq_false, reduceCtorEq, eq_self, if_true, if_false, Bool.not_true, Bool.not_false]; first | done | rfl)), (by first | with_reducible rfl | (simp only [jF_told, ei, c4, ↓reduceIte, Bool.false_eq_true, Bool.true_eq_false, reduceCtorEq, eq_self, if_true, if_false, Bool.not_true, Bool.not_false]; first | done | rfl))⟩)
    · rcases Classical.em (w = nI 1) with q1 | q1
      · subst q1
        refine jg_tableIn cx (off := 36) (tgt := 46) dX2_told_10 (by decide) (by decide) (by decide) (by decide) ?_
        refine jg_aload_n cx dX2_told_46 rfl ?_
        refine jg_get cx jp_js_o rfl inX2 1 (by decide) f19 rfl dX2_told_47 ?_
        refine jg_getN cx (jp_net_o jp_net2) rfl inX0 3 (by decide) (by decide +kernel) rfl dX2_told_50 ?_
        refine jg_iload_n cx dX2_told_53 rfl ?_
        refine jg_iald cx dX2_told_54 ((jp_net_4 jp_net2)) rfl (by omega) ?_
        exact jg_iret cx dX2_told_55 (⟨by simp only [jF_told, c4, ei, ↓reduceIte, if_neg (show ¬ nI 1 = nI 0 by decide)], by simp only [jF_told, c4, ei, ↓reduceIte, if_neg (show ¬ nI 1 = nI 0 by decide)]⟩)
      · rcases Classical.em (w = nI 2) with q2 | q2
        · subst q2
          refine jg_tableIn cx (off := 46) (tgt := 56) dX2_told_10 (by decide) (by decide) (by decide) (by decide) ?_
          refine jg_aload_n cx dX2_told_56 rfl ?_
          refine jg_get cx jp_js_o rfl inX2 1 (by decide) f19 rfl dX2_told_57 ?_
          refine jg_iload_n cx dX2_told_60 rfl ?_
          refine jg_callVNi cx (n := 1) (jc_X0_rotorLeftOver_h E l jp_net2 (by omega)) gX2_told_X0_rotorLeftOver_n100 (by decide +kernel) (by decide +kernel) (by decide +kernel) (by decide +kernel) rfl ⟨rfl, rfl⟩ ⟨(Nat.le_of_ble_eq_true rfl), (Nat.le_of_ble_eq_true rfl)⟩ (by decide +kernel) (jp_net_o jp_net2) rfl rfl rfl (Nat.le_of_ble_eq_true rfl) dX2_told_61 ?_
          exact jg_iret cx dX2_told_64 (⟨by simp only [jF_told, c4, ei, ↓reduceIte, if_neg (show ¬ nI 2 = nI 0 by decide), if_neg (show ¬ nI 2 = nI 1 by decide)], by simp only [jF_told, c4, ei, ↓reduceIte, if_neg (show ¬ nI 2 = nI 0 by decide), if_neg (show ¬ nI 2 = nI 1 by decide)]⟩)
        · refine jg_tableOut cx (tgt := 65) dX2_told_10 (jf_out w 2 (by decide) (jf_lt3 (P := True) q0 q1 q2)) (by decide) ?_
          refine jg_aload_n cx dX2_told_65 rfl ?_
          refine jg_iload_n cx dX2_told_66 rfl ?_
          refine jg_iload_n cx dX2_told_67 rfl ?_
          refine jg_callVi cx (n := 2) (jc_X2_toldColour E l (by omega)) gX2_told_X2_toldColour rfl ⟨rfl, rfl⟩ ⟨(Nat.le_of_ble_eq_true rfl), (Nat.le_of_ble_eq_true rfl)⟩ (by decide +kernel) jp_js_o rfl rfl rfl (Nat.le_of_ble_eq_true rfl) dX2_told_68 ?_
          exact jg_iret cx dX2_told_71 (⟨by simp only [jF_told, c4, ei, ↓reduceIte, if_neg q0, if_neg q1, if_neg q2], by simp only [jF_told, c4, ei, ↓reduceIte, if_neg q0, if_neg q1, if_neg q2]⟩)
  · refine jg_iconst cx (v := (-1)) dX2_told_7 (by decide) ?_
    exact jg_iret cx dX2_told_8 (⟨(by first | with_reducible rfl | (simp only [jF_told, c4, ↓reduceIte, Bool.false_eq_true, Bool.true_eq_false, reduceCtorEq, eq_self, if_true, if_false, Bool.not_true, Bool.not_false]; first | done | rfl)), (by first | with_reducible rfl | (simp only [jF_told, c4, ↓reduceIte, Bool.false_eq_true, Bool.true_eq_false, reduceCtorEq, eq_self, if_true, if_false, Bool.not_true, Bool.not_false]; first | done | rfl))⟩)
def jF_carry (x y : Int32) (h : jp_H) : Int32 × jp_H :=
  if jf_within x (nI 0) (nI 7) then
    (if jf_within y (nI 0) (nI 7) then
      (if x = y then (-2, h) else
        (if jf_joins (h.1 2) x.toNatClampNeg y.toNatClampNeg then (h.1 2 6 (jf_spot x.toNatClampNeg y.toNatClampNeg) + nI 10000, h) else (-6, h)))
    else (-1, h))
  else (-1, h)
set_option maxHeartbeats 1000000 in
set_option maxRecDepth 100000 in
theorem jc_X2_carry (E : jp_E) (l : Launch) {h : jp_H} {x y : Int32} : jc_M E l yX2_carry wsX2_carry ({ frames := 2, cells := 0, slots := 0, locals := 43 } : Room) [.ref (E.2.1 0 0), .int x, .int y] h (jp_R (some (.int (jF_carry x y h).1)) (jF_carry x y h).2) := by
  refine jc_of (cc := cX2_carry) (maxL := 3) (ret := some .int) (own := RX2) (lv := [(0, _), (1, _), (2, _)]) (by decide) rfl rfl (Nat.le_of_ble_eq_true rfl) rfl (fun X cx => ?_)
  have inX0 : ∀ w ∈ u_ws RX0 TX0 9, w ∈ wsX2_carry := by decide +kernel
  have inX2 : ∀ w ∈ u_ws RX2 TX2 9, w ∈ wsX2_carry := by decide +kernel
  have f19 : Cond.fieldLink RX2 19 "JobSpread" "now" "LJobSpread$Net;" ∈ wsX2_carry := by decide +kernel
  refine jg_iload_n cx dX2_carry_0 rfl ?_
  refine jg_callSi cx (n := 1) (jc_X2_isNode E l) gX2_carry_X2_isNode rfl ⟨rfl, rfl⟩ ⟨(Nat.le_of_ble_eq_true rfl), (Nat.le_of_ble_eq_true rfl)⟩ (by decide +kernel) rfl rfl (Nat.le_of_ble_eq_true rfl) dX2_carry_1 ?_
  refine jg_ifb_eq cx (tgt := 14) dX2_carry_4 (by decide) (fun c4 => ?_) (fun c4 => ?_)
  · refine jg_iconst cx (v := (-1)) dX2_carry_14 (by decide) ?_
    exact jg_iret cx dX2_carry_15 (⟨(by first | with_reducible rfl | (simp only [jF_carry, c4, ↓reduceIte, Bool.false_eq_true, Bool.true_eq_false, reduceCtorEq, eq_self, if_true, if_false, Bool.not_true, Bool.not_false]; first | done | rfl)), (by first | with_reducible rfl | (simp only [jF_carry, c4, ↓reduceIte, Bool.false_eq_true, Bool.true_eq_false, reduceCtorEq, eq_self, if_true, if_false, Bool.not_true, Bool.not_false]; first | done | rfl))⟩)
  · obtain ⟨a, ha, rfl⟩ := jf_node_of c4
    have ea : (nI a).toNatClampNeg = a := nI_clamp (by omega)
    refine jg_iload_n cx dX2_carry_7 rfl ?_
    refine jg_callSi cx (n := 1) (jc_X2_isNode E l) gX2_carry_X2_isNode rfl ⟨rfl, rfl⟩ ⟨(Nat.le_of_ble_eq_true rfl), (Nat.le_of_ble_eq_true rfl)⟩ (by decide +kernel) rfl rfl (Nat.le_of_ble_eq_true rfl) dX2_carry_8 ?_
    refine jg_ifb_ne cx (tgt := 16) dX2_carry_11 (by decide) (fun c11 => ?_) (fun c11 => ?_)
    · obtain ⟨c, hc, rfl⟩ := jf_node_of c11
      have ec : (nI c).toNatClampNeg = c := nI_clamp (by omega)
      refine jg_iload_n cx dX2_carry_16 rfl ?_
      refine jg_iload_n cx dX2_carry_17 rfl ?_
      refine jg_icmp_ne cx (tgt := 24) dX2_carry_18 (by decide) (fun c18 => ?_) (fun c18 => ?_)
      · refine jg_aload_n cx dX2_carry_24 rfl ?_
        refine jg_get cx jp_js_o rfl inX2 1 (by decide) f19 rfl dX2_carry_25 ?_
        refine jg_iload_n cx dX2_carry_28 rfl ?_
        refine jg_iload_n cx dX2_carry_29 rfl ?_
        refine jg_callVNi cx (n := 2) (jc_X0_joins_h E l jp_net2 (by omega) (by omega)) gX2_carry_X0_joins_n68 (by decide +kernel) (by decide +kernel) (by decide +kernel) (by decide +kernel) rfl ⟨rfl, rfl⟩ ⟨(Nat.le_of_ble_eq_true rfl), (Nat.le_of_ble_eq_true rfl)⟩ (by decide +kernel) (jp_net_o jp_net2) rfl rfl rfl (Nat.le_of_ble_eq_true rfl) dX2_carry_30 ?_
        refine jg_ifb_eq cx (tgt := 56) dX2_carry_33 (by decide) (fun c33 => ?_) (fun c33 => ?_)
        · refine jg_bipush cx (v := (-6)) dX2_carry_56 (by decide) ?_
          exact jg_iret cx dX2_carry_58 (⟨(by first | with_reducible rfl | (simp only [jF_carry, ea, ec, c4, c11, if_neg c18, c33, ↓reduceIte, Bool.false_eq_true, Bool.true_eq_false, reduceCtorEq, eq_self, if_true, if_false, Bool.not_true, Bool.not_false]; first | done | rfl)), (by first | with_reducible rfl | (simp only [jF_carry, ea, ec, c4, c11, if_neg c18, c33, ↓reduceIte, Bool.false_eq_true, Bool.true_eq_false, reduceCtorEq, eq_self, if_true, if_false, Bool.not_true, Bool.not_false]; first | done | rfl))⟩)
        · refine jg_aload_n cx dX2_carry_36 rfl ?_
          refine jg_get cx jp_js_o rfl inX2 1 (by decide) f19 rfl dX2_carry_37 ?_
          refine jg_getN cx (jp_net_o jp_net2) rfl inX0 5 (by decide) (by decide +kernel) rfl dX2_carry_40 ?_
          refine jg_iload_n cx dX2_carry_43 rfl ?_
          refine jg_iload_n cx dX2_carry_44 rfl ?_
          refine jg_callSi cx (n := 2) (jc_X2_spotN E l (by omega) (by omega)) gX2_carry_X2_spot rfl ⟨rfl, rfl⟩ ⟨(Nat.le_of_ble_eq_true rfl), (Nat.le_of_ble_eq_true rfl)⟩ (by decide +kernel) rfl rfl (Nat.le_of_ble_eq_true rfl) dX2_carry_45 ?_
          refine jg_iald cx dX2_carry_48 ((jp_net_6 jp_net2)) rfl (jf_spot_lt (by omega) (by omega)) ?_
          refine jg_sipush cx (v := nI 10000) dX2_carry_49 (by decide) ?_
          refine jg_iadd cx dX2_carry_52 ?_
          refine jg_goto cx (tgt := 58) dX2_carry_53 (by decide) ?_
          exact jg_iret cx dX2_carry_58 (⟨(by first | with_reducible rfl | (simp only [jF_carry, ea, ec, c4, c11, if_neg c18, c33, ↓reduceIte, Bool.false_eq_true, Bool.true_eq_false, reduceCtorEq, eq_self, if_true, if_false, Bool.not_true, Bool.not_false]; first | done | rfl)), (by first | with_reducible rfl | (simp only [jF_carry, ea, ec, c4, c11, if_neg c18, c33, ↓reduceIte, Bool.false_eq_true, Bool.true_eq_false, reduceCtorEq, eq_self, if_true, if_false, Bool.not_true, Bool.not_false]; first | done | rfl))⟩)
      · refine jg_bipush cx (v := (-2)) dX2_carry_21 (by decide) ?_
        exact jg_iret cx dX2_carry_23 (⟨(by first | with_reducible rfl | (simp only [jF_carry, c4, c11, if_pos c18, ↓reduceIte, Bool.false_eq_true, Bool.true_eq_false, reduceCtorEq, eq_self, if_true, if_false, Bool.not_true, Bool.not_false]; first | done | rfl)), (by first | with_reducible rfl | (simp only [jF_carry, c4, c11, if_pos c18, ↓reduceIte, Bool.false_eq_true, Bool.true_eq_false, reduceCtorEq, eq_self, if_true, if_false, Bool.not_true, Bool.not_false]; first | done | rfl))⟩)
    · refine jg_iconst cx (v := (-1)) dX2_carry_14 (by decide) ?_
      exact jg_iret cx dX2_carry_15 (⟨(by first | with_reducible rfl | (simp only [jF_carry, c4, c11, ↓reduceIte, Bool.false_eq_true, Bool.true_eq_false, reduceCtorEq, eq_self, if_true, if_false, Bool.not_true, Bool.not_false]; first | done | rfl)), (by first | with_reducible rfl | (simp only [jF_carry, c4, c11, ↓reduceIte, Bool.false_eq_true, Bool.true_eq_false, reduceCtorEq, eq_self, if_true, if_false, Bool.not_true, Bool.not_false]; first | done | rfl))⟩)
def jF_run (ru k : Int32) (h : jp_H) : Int32 × jp_H :=
  if jf_within ru (nI 0) (nI 2) then
    (if jf_within k (nI 1) (nI 50) then ((jf_go ru (h.1 2) k.toNatClampNeg).2, jp_u h 2 (jf_go ru (h.1 2) k.toNatClampNeg).1 (h.2 2)) else (-2, h))
  else (-2, h)
set_option maxHeartbeats 1000000 in
set_option maxRecDepth 100000 in
theorem jc_X2_run (E : jp_E) (l : Launch) {h : jp_H} {ru k : Int32} : jc_M E l yX2_run wsX2_run ({ frames := 5, cells := 0, slots := 0, locals := 119 } : Room) [.ref (E.2.1 0 0), .int ru, .int k] h (jp_R (some (.int (jF_run ru k h).1)) (jF_run ru k h).2) := by
  refine jc_of (cc := cX2_run) (maxL := 3) (ret := some .int) (own := RX2) (lv := [(0, _), (1, _), (2, _)]) (by decide) rfl rfl (Nat.le_of_ble_eq_true rfl) rfl (fun X cx => ?_)
  have inX2 : ∀ w ∈ u_ws RX2 TX2 9, w ∈ wsX2_run := by decide +kernel
  have f19 : Cond.fieldLink RX2 19 "JobSpread" "now" "LJobSpread$Net;" ∈ wsX2_run := by decide +kernel
  refine jg_iload_n cx dX2_run_0 rfl ?_
  refine jg_callSi cx (n := 1) (jc_X2_isRule E l) gX2_run_X2_isRule rfl ⟨rfl, rfl⟩ ⟨(Nat.le_of_ble_eq_true rfl), (Nat.le_of_ble_eq_true rfl)⟩ (by decide +kernel) rfl rfl (Nat.le_of_ble_eq_true rfl) dX2_run_1 ?_
  refine jg_ifb_eq cx (tgt := 17) dX2_run_4 (by decide) (fun c4 => ?_) (fun c4 => ?_)
  · refine jg_bipush cx (v := (-2)) dX2_run_17 (by decide) ?_
    exact jg_iret cx dX2_run_19 (⟨(by first | with_reducible rfl | (simp only [jF_run, c4, ↓reduceIte, Bool.false_eq_true, Bool.true_eq_false, reduceCtorEq, eq_self, if_true, if_false, Bool.not_true, Bool.not_false]; first | done | rfl)), (by first | with_reducible rfl | (simp only [jF_run, c4, ↓reduceIte, Bool.false_eq_true, Bool.true_eq_false, reduceCtorEq, eq_self, if_true, if_false, Bool.not_true, Bool.not_false]; first | done | rfl))⟩)
  · refine jg_iload_n cx dX2_run_7 rfl ?_
    refine jg_iconst cx (v := nI 1) dX2_run_8 (by decide) ?_
    refine jg_bipush cx (v := nI 50) dX2_run_9 (by decide) ?_
    refine jg_callSi cx (n := 3) (jc_X2_isWithin E l) gX2_run_X2_isWithin rfl ⟨rfl, rfl⟩ ⟨(Nat.le_of_ble_eq_true rfl), (Nat.le_of_ble_eq_true rfl)⟩ (by decide +kernel) rfl rfl (Nat.le_of_ble_eq_true rfl) dX2_run_11 ?_
    refine jg_ifb_ne cx (tgt := 20) dX2_run_14 (by decide) (fun c14 => ?_) (fun c14 => ?_)
    · obtain ⟨i, hi1, hi2, rfl⟩ := jf_within_lo (by decide) (by decide) c14
      have ei : (nI i).toNatClampNeg = i := nI_clamp (by omega)
      refine jg_aload_n cx dX2_run_20 rfl ?_
      refine jg_get cx jp_js_o rfl inX2 1 (by decide) f19 rfl dX2_run_21 ?_
      refine jg_iload_n cx dX2_run_24 rfl ?_
      refine jg_iload_n cx dX2_run_25 rfl ?_
      refine jg_callVNi cx (n := 2) (jc_X0_goOn_h E l jp_net2 (by omega)) gX2_run_X0_goOn_n119 (by decide +kernel) (by decide +kernel) (by decide +kernel) (by decide +kernel) rfl ⟨rfl, rfl⟩ ⟨(Nat.le_of_ble_eq_true rfl), (Nat.le_of_ble_eq_true rfl)⟩ (by decide +kernel) (jp_net_o jp_net2) rfl rfl rfl (Nat.le_of_ble_eq_true rfl) dX2_run_26 ?_
      exact jg_iret cx dX2_run_29 (⟨(by first | with_reducible rfl | (simp only [jF_run, ei, c4, c14, ↓reduceIte, Bool.false_eq_true, Bool.true_eq_false, reduceCtorEq, eq_self, if_true, if_false, Bool.not_true, Bool.not_false]; first | done | rfl)), (by first | with_reducible rfl | (simp only [jF_run, ei, c4, c14, ↓reduceIte, Bool.false_eq_true, Bool.true_eq_false, reduceCtorEq, eq_self, if_true, if_false, Bool.not_true, Bool.not_false]; first | done | rfl))⟩)
    · refine jg_bipush cx (v := (-2)) dX2_run_17 (by decide) ?_
      exact jg_iret cx dX2_run_19 (⟨(by first | with_reducible rfl | (simp only [jF_run, c4, c14, ↓reduceIte, Bool.false_eq_true, Bool.true_eq_false, reduceCtorEq, eq_self, if_true, if_false, Bool.not_true, Bool.not_false]; first | done | rfl)), (by first | with_reducible rfl | (simp only [jF_run, c4, c14, ↓reduceIte, Bool.false_eq_true, Bool.true_eq_false, reduceCtorEq, eq_self, if_true, if_false, Bool.not_true, Bool.not_false]; first | done | rfl))⟩)
set_option maxHeartbeats 1000000 in
set_option maxRecDepth 100000 in
theorem jc_X2_reset (E : jp_E) (l : Launch) {h : jp_H}  : jc_M E l yX2_reset wsX2_reset ({ frames := 1, cells := 0, slots := 0, locals := 21 } : Room) [.ref (E.2.1 0 0)] h (jp_R (some (.int (((h.1 2 0 8, jp_u h 2 (jf_again (h.1 2)) (h.2 2)) : Int32 × jp_H)).1)) (((h.1 2 0 8, jp_u h 2 (jf_again (h.1 2)) (h.2 2)) : Int32 × jp_H)).2) := by
  refine jc_of (cc := cX2_reset) (maxL := 2) (ret := some .int) (own := RX2) (lv := [(0, _)]) (by decide) rfl rfl (Nat.le_of_ble_eq_true rfl) rfl (fun X cx => ?_)
  have inX0 : ∀ w ∈ u_ws RX0 TX0 9, w ∈ wsX2_reset := by decide +kernel
  have inX2 : ∀ w ∈ u_ws RX2 TX2 9, w ∈ wsX2_reset := by decide +kernel
  have f19 : Cond.fieldLink RX2 19 "JobSpread" "now" "LJobSpread$Net;" ∈ wsX2_reset := by decide +kernel
  refine jg_aload_n cx dX2_reset_0 rfl ?_
  refine jg_get cx jp_js_o rfl inX2 1 (by decide) f19 rfl dX2_reset_1 ?_
  refine jg_getN cx (jp_net_o jp_net2) rfl inX0 8 (by decide) (by decide +kernel) rfl dX2_reset_4 ?_
  refine jg_istore_n cx (lv' := [(0, _), (1, _)]) dX2_reset_7 (by decide) rfl ?_
  refine jg_aload_n cx dX2_reset_8 rfl ?_
  refine jg_get cx jp_js_o rfl inX2 1 (by decide) f19 rfl dX2_reset_9 ?_
  refine jg_callVNv cx (n := 0) (jc_X0_startAgain_h E l jp_net2 ) gX2_reset_X0_startAgain_n125 (by decide +kernel) (by decide +kernel) (by decide +kernel) (by decide +kernel) rfl ⟨rfl, rfl⟩ ⟨(Nat.le_of_ble_eq_true rfl), (Nat.le_of_ble_eq_true rfl)⟩ (by decide +kernel) (jp_net_o jp_net2) rfl rfl rfl (Nat.le_of_ble_eq_true rfl) dX2_reset_12 ?_
  refine jg_iload_n cx dX2_reset_15 rfl ?_
  exact jg_iret cx dX2_reset_16 (⟨rfl, rfl⟩)
