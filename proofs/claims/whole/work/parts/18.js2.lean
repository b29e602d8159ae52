/-! ===== JobSpread, what is asked ===== -/
def jf_labs (x : Int64) : Int64 := if 0 < x then x else -x
def jf_cdL : Nat → Int64 → Int64 → Int64
  | 0, x, _ => x
  | d + 1, x, y => if lg_cmp y 0 = 0 then x else jf_cdL d y (x - x / y * y)
def jf_cd (u v : Int64) : Int64 := jf_cdL 100 (jf_labs u) (jf_labs v)
set_option maxHeartbeats 1000000 in
set_option maxRecDepth 100000 in
theorem jc_X2_commonDivisor (E : jp_E) (l : Launch) {h : jp_H} {u v : Int64} : jc_M E l yX2_commonDivisor wsX2_commonDivisor ({ frames := 1, cells := 0, slots := 0, locals := 21 } : Room) [.long u, .long v] h (jp_R (some (.long (jf_cd u v))) h) := by
  refine jc_of (cc := cX2_commonDivisor) (maxL := 11) (ret := some .long) (own := RX2) (lv := [(0, _), (2, _)]) (by decide) rfl rfl (Nat.le_of_ble_eq_true rfl) rfl (fun X cx => ?_)
  refine jg_lload_n cx dX2_commonDivisor_0 rfl ?_
  refine jg_labs cx (by decide +kernel) (by decide +kernel) (by decide +kernel) (by decide +kernel) (Nat.le_of_ble_eq_true rfl) (Nat.le_of_ble_eq_true rfl) dX2_commonDivisor_1 ?_
  refine jg_lstore cx (lv' := [(0, _), (2, _), (4, _)]) dX2_commonDivisor_4 (by decide) rfl ?_
  refine jg_lload_n cx dX2_commonDivisor_6 rfl ?_
  refine jg_labs cx (by decide +kernel) (by decide +kernel) (by decide +kernel) (by decide +kernel) (Nat.le_of_ble_eq_true rfl) (Nat.le_of_ble_eq_true rfl) dX2_commonDivisor_7 ?_
  refine jg_lstore cx (lv' := [(0, _), (2, _), (4, _), (6, _)]) dX2_commonDivisor_10 (by decide) rfl ?_
  refine jg_iconst cx (v := nI 0) dX2_commonDivisor_12 (by decide) ?_
  refine jg_istore cx (lv' := [(0, _), (2, _), (4, _), (6, _), (8, _)]) dX2_commonDivisor_13 (by decide) rfl ?_
  have lp15 : ∀ (d15 i : Nat) (x : Int64) (y : Int64), i + d15 = 100 → (jf_cdL d15 x y = jf_cd u v) → X 15 [(0, .long u), (2, .long v), (4, .long x), (6, .long y), (8, .int (nI i))] [] (h) := by
    intro d15
    induction d15 with
    | zero =>
      intro i x y hr15 hq
      refine jg_iload cx dX2_commonDivisor_15 rfl ?_
      refine jg_bipush cx (v := nI 100) dX2_commonDivisor_17 (by decide) ?_
      refine jg_icmpN_ge cx (tgt := 50) dX2_commonDivisor_19 (by decide) (by omega) (by omega) (fun c19 => ?_) (fun c19 => ?_)
      · refine jg_lload cx dX2_commonDivisor_50 rfl ?_
        exact jg_lret cx dX2_commonDivisor_52 (⟨by rw [← hq]; first | rfl | (simp only [jf_cdL, if_true]), rfl⟩)
      · exact absurd hr15 (by omega)
    | succ d15 ih15 =>
      intro i x y hr15 hq
      refine jg_iload cx dX2_commonDivisor_15 rfl ?_
      refine jg_bipush cx (v := nI 100) dX2_commonDivisor_17 (by decide) ?_
      refine jg_icmpN_ge cx (tgt := 50) dX2_commonDivisor_19 (by decide) (by omega) (by omega) (fun c19 => ?_) (fun c19 => ?_)
      · exact absurd hr15 (by omega)
      · refine jg_lload cx dX2_commonDivisor_22 rfl ?_
        refine jg_lconst cx (v := 0) dX2_commonDivisor_24 rfl ?_
        refine jg_lcmp cx dX2_commonDivisor_25 ?_
        refine jg_if_eq cx (tgt := 50) dX2_commonDivisor_26 (by decide) (fun c26 => ?_) (fun c26 => ?_)
        · refine jg_lload cx dX2_commonDivisor_50 rfl ?_
          exact jg_lret cx dX2_commonDivisor_52 (⟨by rw [← hq]; first | rfl | (simp only [jf_cdL, if_pos c26, if_true]), rfl⟩)
        · refine jg_lload cx dX2_commonDivisor_29 rfl ?_
          refine jg_lload cx dX2_commonDivisor_31 rfl ?_
          refine jg_lrem cx dX2_commonDivisor_33 (fun q => c26 (by rw [q]; decide)) ?_
          refine jg_lstore cx (lv' := [(0, _), (2, _), (4, _), (6, _), (8, _), (9, _)]) dX2_commonDivisor_34 (by decide) rfl ?_
          refine jg_lload cx dX2_commonDivisor_36 rfl ?_
          refine jg_lstore cx (lv' := [(0, _), (2, _), (4, _), (6, _), (8, _), (9, _)]) dX2_commonDivisor_38 (by decide) rfl ?_
          refine jg_lload cx dX2_commonDivisor_40 rfl ?_
          refine jg_lstore cx (lv' := [(0, _), (2, _), (4, _), (6, _), (8, _), (9, _)]) dX2_commonDivisor_42 (by decide) rfl ?_
          refine jg_iincN cx (d := 1) (lv' := [(0, _), (2, _), (4, _), (6, _), (8, _), (9, _)]) dX2_commonDivisor_44 rfl (by decide) (by decide) rfl ?_
          refine jg_goto cx (tgt := 15) dX2_commonDivisor_47 (by decide) ?_
          refine jg_sub cx (lv' := [(0, _), (2, _), (4, _), (6, _), (8, _)]) [0, 1, 2, 3, 4] rfl ?_
          exact jg_to (ih15 (i + 1) _ _ (by omega) (by rw [← hq]; simp only [jf_cdL, if_neg c26])) rfl rfl rfl
  exact jg_to (lp15 100 0 _ _ (by omega) rfl) rfl rfl rfl
def jf_part (u v : Int64) (pa : Int32) : Int64 := if lg_cmp (jf_cd u v) 0 = 0 then pa.toInt64 else if pa = 0 then u / jf_cd u v else v / jf_cd u v
set_option maxHeartbeats 1000000 in
set_option maxRecDepth 100000 in
theorem jc_X2_partOf (E : jp_E) (l : Launch) {h : jp_H} {u v : Int64} {pa : Int32} : jc_M E l yX2_partOf wsX2_partOf ({ frames := 2, cells := 0, slots := 0, locals := 51 } : Room) [.long u, .long v, .int pa] h (jp_R (some (.long (jf_part u v pa))) h) := by
  refine jc_of (cc := cX2_partOf) (maxL := 7) (ret := some .long) (own := RX2) (lv := [(0, _), (2, _), (4, _)]) (by decide) rfl rfl (Nat.le_of_ble_eq_true rfl) rfl (fun X cx => ?_)
  refine jg_lload_n cx dX2_partOf_0 rfl ?_
  refine jg_lload_n cx dX2_partOf_1 rfl ?_
  refine jg_callSl cx (n := 2) (jc_X2_commonDivisor E l) gX2_partOf_X2_commonDivisor rfl ⟨rfl, rfl⟩ ⟨(Nat.le_of_ble_eq_true rfl), (Nat.le_of_ble_eq_true rfl)⟩ (by decide +kernel) rfl rfl (Nat.le_of_ble_eq_true rfl) dX2_partOf_2 ?_
  refine jg_lstore cx (lv' := [(0, _), (2, _), (4, _), (5, _)]) dX2_partOf_5 (by decide) rfl ?_
  refine jg_lload cx dX2_partOf_7 rfl ?_
  refine jg_lconst cx (v := 0) dX2_partOf_9 rfl ?_
  refine jg_lcmp cx dX2_partOf_10 ?_
  refine jg_if_ne cx (tgt := 18) dX2_partOf_11 (by decide) (fun c11 => ?_) (fun c11 => ?_)
  · refine jg_iload cx dX2_partOf_18 rfl ?_
    refine jg_if_ne cx (tgt := 27) dX2_partOf_20 (by decide) (fun c20 => ?_) (fun c20 => ?_)
    · refine jg_lload_n cx dX2_partOf_27 rfl ?_
      refine jg_lload cx dX2_partOf_28 rfl ?_
      refine jg_ldiv cx dX2_partOf_30 (fun q => c11 (by rw [q]; decide)) ?_
      exact jg_lret cx dX2_partOf_31 (⟨(by first | with_reducible rfl | (simp only [jf_part, if_neg c11, if_neg c20, ↓reduceIte, Bool.false_eq_true, Bool.true_eq_false, reduceCtorEq, eq_self, if_true, if_false, Bool.not_true, Bool.not_false]; first | done | rfl)), rfl⟩)
    · refine jg_lload_n cx dX2_partOf_23 rfl ?_
      refine jg_goto cx (tgt := 28) dX2_partOf_24 (by decide) ?_
      refine jg_lload cx dX2_partOf_28 rfl ?_
      refine jg_ldiv cx dX2_partOf_30 (fun q => c11 (by rw [q]; decide)) ?_
      exact jg_lret cx dX2_partOf_31 (⟨(by first | with_reducible rfl | (simp only [jf_part, if_neg c11, if_pos c20, ↓reduceIte, Bool.false_eq_true, Bool.true_eq_false, reduceCtorEq, eq_self, if_true, if_false, Bool.not_true, Bool.not_false]; first | done | rfl)), rfl⟩)
  · refine jg_iload cx dX2_partOf_14 rfl ?_
    refine jg_i2l cx dX2_partOf_16 ?_
    exact jg_lret cx dX2_partOf_17 (⟨(by first | with_reducible rfl | (simp only [jf_part, if_pos c11, ↓reduceIte, Bool.false_eq_true, Bool.true_eq_false, reduceCtorEq, eq_self, if_true, if_false, Bool.not_true, Bool.not_false]; first | done | rfl)), rfl⟩)
def jF_uneven (pa : Int32) (h : jp_H) : Int32 × jp_H :=
  if jf_within pa (nI 0) (nI 1) then ((jf_part (jf_gap (h.1 2) (jf_hi (h.1 2) 7) (jf_lo (h.1 2) 7)) ((h.1 2 1 (jf_hi (h.1 2) 7)).toInt64 * (h.1 2 1 (jf_lo (h.1 2) 7)).toInt64) pa).toInt32, h) else (-2, h)
set_option maxHeartbeats 1000000 in
set_option maxRecDepth 100000 in
theorem jc_X2_uneven (E : jp_E) (l : Launch) {h : jp_H} {pa : Int32} : jc_M E l yX2_uneven wsX2_uneven ({ frames := 3, cells := 0, slots := 0, locals := 77 } : Room) [.ref (E.2.1 0 0), .int pa] h (jp_R (some (.int (jF_uneven pa h).1)) (jF_uneven pa h).2) := by
  have hh := jf_hi_le (h.1 2) 7
  have hl9 := jf_lo_le (h.1 2) 7
  refine jc_of (cc := cX2_uneven) (maxL := 4) (ret := some .int) (own := RX2) (lv := [(0, _), (1, _)]) (by decide) rfl rfl (Nat.le_of_ble_eq_true rfl) rfl (fun X cx => ?_)
  have inX0 : ∀ w ∈ u_ws RX0 TX0 9, w ∈ wsX2_uneven := by decide +kernel
  have inX2 : ∀ w ∈ u_ws RX2 TX2 9, w ∈ wsX2_uneven := by decide +kernel
  have f19 : Cond.fieldLink RX2 19 "JobSpread" "now" "LJobSpread$Net;" ∈ wsX2_uneven := by decide +kernel
  refine jg_iload_n cx dX2_uneven_0 rfl ?_
  refine jg_callSi cx (n := 1) (jc_X2_isPart E l) gX2_uneven_X2_isPart rfl ⟨rfl, rfl⟩ ⟨(Nat.le_of_ble_eq_true rfl), (Nat.le_of_ble_eq_true rfl)⟩ (by decide +kernel) rfl rfl (Nat.le_of_ble_eq_true rfl) dX2_uneven_1 ?_
  refine jg_ifb_ne cx (tgt := 10) dX2_uneven_4 (by decide) (fun c4 => ?_) (fun c4 => ?_)
  · refine jg_aload_n cx dX2_uneven_10 rfl ?_
    refine jg_get cx jp_js_o rfl inX2 1 (by decide) f19 rfl dX2_uneven_11 ?_
    refine jg_callVNi cx (n := 0) (jc_X0_mostLoaded_h E l jp_net2 ) gX2_uneven_X0_mostLoaded_n131 (by decide +kernel) (by decide +kernel) (by decide +kernel) (by decide +kernel) rfl ⟨rfl, rfl⟩ ⟨(Nat.le_of_ble_eq_true rfl), (Nat.le_of_ble_eq_true rfl)⟩ (by decide +kernel) (jp_net_o jp_net2) rfl rfl rfl (Nat.le_of_ble_eq_true rfl) dX2_uneven_14 ?_
    refine jg_istore_n cx (lv' := [(0, _), (1, _), (2, _)]) dX2_uneven_17 (by decide) rfl ?_
    refine jg_aload_n cx dX2_uneven_18 rfl ?_
    refine jg_get cx jp_js_o rfl inX2 1 (by decide) f19 rfl dX2_uneven_19 ?_
    refine jg_callVNi cx (n := 0) (jc_X0_leastLoaded_h E l jp_net2 ) gX2_uneven_X0_leastLoaded_n134 (by decide +kernel) (by decide +kernel) (by decide +kernel) (by decide +kernel) rfl ⟨rfl, rfl⟩ ⟨(Nat.le_of_ble_eq_true rfl), (Nat.le_of_ble_eq_true rfl)⟩ (by decide +kernel) (jp_net_o jp_net2) rfl rfl rfl (Nat.le_of_ble_eq_true rfl) dX2_uneven_22 ?_
    refine jg_istore_n cx (lv' := [(0, _), (1, _), (2, _), (3, _)]) dX2_uneven_25 (by decide) rfl ?_
    refine jg_aload_n cx dX2_uneven_26 rfl ?_
    refine jg_get cx jp_js_o rfl inX2 1 (by decide) f19 rfl dX2_uneven_27 ?_
    refine jg_iload_n cx dX2_uneven_30 rfl ?_
    refine jg_iload_n cx dX2_uneven_31 rfl ?_
    refine jg_callVNl cx (n := 2) (jc_X0_loadGap_h E l jp_net2 (by omega) (by omega)) gX2_uneven_X0_loadGap_n137 (by decide +kernel) (by decide +kernel) (by decide +kernel) (by decide +kernel) rfl ⟨rfl, rfl⟩ ⟨(Nat.le_of_ble_eq_true rfl), (Nat.le_of_ble_eq_true rfl)⟩ (by decide +kernel) (jp_net_o jp_net2) rfl rfl rfl (Nat.le_of_ble_eq_true rfl) dX2_uneven_32 ?_
    refine jg_aload_n cx dX2_uneven_35 rfl ?_
    refine jg_get cx jp_js_o rfl inX2 1 (by decide) f19 rfl dX2_uneven_36 ?_
    refine jg_getN cx (jp_net_o jp_net2) rfl inX0 0 (by decide) (by decide +kernel) rfl dX2_uneven_39 ?_
    refine jg_iload_n cx dX2_uneven_42 rfl ?_
    refine jg_iald cx dX2_uneven_43 ((jp_net_1 jp_net2)) rfl (by omega) ?_
    refine jg_i2l cx dX2_uneven_44 ?_
    refine jg_aload_n cx dX2_uneven_45 rfl ?_
    refine jg_get cx jp_js_o rfl inX2 1 (by decide) f19 rfl dX2_uneven_46 ?_
    refine jg_getN cx (jp_net_o jp_net2) rfl inX0 0 (by decide) (by decide +kernel) rfl dX2_uneven_49 ?_
    refine jg_iload_n cx dX2_uneven_52 rfl ?_
    refine jg_iald cx dX2_uneven_53 ((jp_net_1 jp_net2)) rfl (by omega) ?_
    refine jg_i2l cx dX2_uneven_54 ?_
    refine jg_lmul cx dX2_uneven_55 ?_
    refine jg_iload_n cx dX2_uneven_56 rfl ?_
    refine jg_callSl cx (n := 3) (jc_X2_partOf E l) gX2_uneven_X2_partOf rfl ⟨rfl, rfl⟩ ⟨(Nat.le_of_ble_eq_true rfl), (Nat.le_of_ble_eq_true rfl)⟩ (by decide +kernel) rfl rfl (Nat.le_of_ble_eq_true rfl) dX2_uneven_57 ?_
    refine jg_l2i cx dX2_uneven_60 ?_
    exact jg_iret cx dX2_uneven_61 (⟨(by first | with_reducible rfl | (simp only [jF_uneven, c4, ↓reduceIte, Bool.false_eq_true, Bool.true_eq_false, reduceCtorEq, eq_self, if_true, if_false, Bool.not_true, Bool.not_false]; first | done | rfl)), (by first | with_reducible rfl | (simp only [jF_uneven, c4, ↓reduceIte, Bool.false_eq_true, Bool.true_eq_false, reduceCtorEq, eq_self, if_true, if_false, Bool.not_true, Bool.not_false]; first | done | rfl))⟩)
  · refine jg_bipush cx (v := (-2)) dX2_uneven_7 (by decide) ?_
    exact jg_iret cx dX2_uneven_9 (⟨(by first | with_reducible rfl | (simp only [jF_uneven, c4, ↓reduceIte, Bool.false_eq_true, Bool.true_eq_false, reduceCtorEq, eq_self, if_true, if_false, Bool.not_true, Bool.not_false]; first | done | rfl)), (by first | with_reducible rfl | (simp only [jF_uneven, c4, ↓reduceIte, Bool.false_eq_true, Bool.true_eq_false, reduceCtorEq, eq_self, if_true, if_false, Bool.not_true, Bool.not_false]; first | done | rfl))⟩)
def jF_share (x pa : Int32) (h : jp_H) : Int32 × jp_H :=
  if jf_within x (nI 0) (nI 7) then
    (if jf_within pa (nI 0) (nI 1) then
      (if 0 ≤ lg_cmp (jf_sumJ (h.1 2) 8) 0 then ((jf_part (jf_sumJ (h.1 2) 8 * (h.1 2 1 x.toNatClampNeg).toInt64) (jf_sumS (h.1 2) 8).toInt64 pa).toInt32, h) else (-3, h))
    else (-2, h))
  else (-1, h)
set_option maxHeartbeats 1000000 in
set_option maxRecDepth 100000 in
theorem jc_X2_share (E : jp_E) (l : Launch) {h : jp_H} {x pa : Int32} : jc_M E l yX2_share wsX2_share ({ frames := 3, cells := 0, slots := 0, locals := 77 } : Room) [.ref (E.2.1 0 0), .int x, .int pa] h (jp_R (some (.int (jF_share x pa h).1)) (jF_share x pa h).2) := by
  refine jc_of (cc := cX2_share) (maxL := 5) (ret := some .int) (own := RX2) (lv := [(0, _), (1, _), (2, _)]) (by decide) rfl rfl (Nat.le_of_ble_eq_true rfl) rfl (fun X cx => ?_)
  have inX0 : ∀ w ∈ u_ws RX0 TX0 9, w ∈ wsX2_share := by decide +kernel
  have inX2 : ∀ w ∈ u_ws RX2 TX2 9, w ∈ wsX2_share := by decide +kernel
  have f19 : Cond.fieldLink RX2 19 "JobSpread" "now" "LJobSpread$Net;" ∈ wsX2_share := by decide +kernel
  refine jg_iload_n cx dX2_share_0 rfl ?_
  refine jg_callSi cx (n := 1) (jc_X2_isNode E l) gX2_share_X2_isNode rfl ⟨rfl, rfl⟩ ⟨(Nat.le_of_ble_eq_true rfl), (Nat.le_of_ble_eq_true rfl)⟩ (by decide +kernel) rfl rfl (Nat.le_of_ble_eq_true rfl) dX2_share_1 ?_
  refine jg_ifb_ne cx (tgt := 9) dX2_share_4 (by decide) (fun c4 => ?_) (fun c4 => ?_)
  · obtain ⟨i, hi, rfl⟩ := jf_node_of c4
    have ei : (nI i).toNatClampNeg = i := nI_clamp (by omega)
    refine jg_iload_n cx dX2_share_9 rfl ?_
    refine jg_callSi cx (n := 1) (jc_X2_isPart E l) gX2_share_X2_isPart rfl ⟨rfl, rfl⟩ ⟨(Nat.le_of_ble_eq_true rfl), (Nat.le_of_ble_eq_true rfl)⟩ (by decide +kernel) rfl rfl (Nat.le_of_ble_eq_true rfl) dX2_share_10 ?_
    refine jg_ifb_ne cx (tgt := 19) dX2_share_13 (by decide) (fun c13 => ?_) (fun c13 => ?_)
    · refine jg_aload_n cx dX2_share_19 rfl ?_
      refine jg_get cx jp_js_o rfl inX2 1 (by decide) f19 rfl dX2_share_20 ?_
      refine jg_callVNl cx (n := 0) (jc_X0_allJobs_h E l jp_net2 ) gX2_share_X0_allJobs_n145 (by decide +kernel) (by decide +kernel) (by decide +kernel) (by decide +kernel) rfl ⟨rfl, rfl⟩ ⟨(Nat.le_of_ble_eq_true rfl), (Nat.le_of_ble_eq_true rfl)⟩ (by decide +kernel) (jp_net_o jp_net2) rfl rfl rfl (Nat.le_of_ble_eq_true rfl) dX2_share_23 ?_
      refine jg_lstore_n cx (lv' := [(0, _), (1, _), (2, _), (3, _)]) dX2_share_26 (by decide) rfl ?_
      refine jg_lload_n cx dX2_share_27 rfl ?_
      refine jg_lconst cx (v := 0) dX2_share_28 rfl ?_
      refine jg_lcmp cx dX2_share_29 ?_
      refine jg_if_ge cx (tgt := 36) dX2_share_30 (by decide) (fun c30 => ?_) (fun c30 => ?_)
      · refine jg_lload_n cx dX2_share_36 rfl ?_
        refine jg_aload_n cx dX2_share_37 rfl ?_
        refine jg_get cx jp_js_o rfl inX2 1 (by decide) f19 rfl dX2_share_38 ?_
        refine jg_getN cx (jp_net_o jp_net2) rfl inX0 0 (by decide) (by decide +kernel) rfl dX2_share_41 ?_
        refine jg_iload_n cx dX2_share_44 rfl ?_
        refine jg_iald cx dX2_share_45 ((jp_net_1 jp_net2)) rfl (by omega) ?_
        refine jg_i2l cx dX2_share_46 ?_
        refine jg_lmul cx dX2_share_47 ?_
        refine jg_aload_n cx dX2_share_48 rfl ?_
        refine jg_get cx jp_js_o rfl inX2 1 (by decide) f19 rfl dX2_share_49 ?_
        refine jg_callVNi cx (n := 0) (jc_X0_allSpeeds_h E l jp_net2 ) gX2_share_X0_allSpeeds_n149 (by decide +kernel) (by decide +kernel) (by decide +kernel) (by decide +kernel) rfl ⟨rfl, rfl⟩ ⟨(Nat.le_of_ble_eq_true rfl), (Nat.le_of_ble_eq_true rfl)⟩ (by decide +kernel) (jp_net_o jp_net2) rfl rfl rfl (Nat.le_of_ble_eq_true rfl) dX2_share_52 ?_
        refine jg_i2l cx dX2_share_55 ?_
        refine jg_iload_n cx dX2_share_56 rfl ?_
        refine jg_callSl cx (n := 3) (jc_X2_partOf E l) gX2_share_X2_partOf rfl ⟨rfl, rfl⟩ ⟨(Nat.le_of_ble_eq_true rfl), (Nat.le_of_ble_eq_true rfl)⟩ (by decide +kernel) rfl rfl (Nat.le_of_ble_eq_true rfl) dX2_share_57 ?_
        refine jg_l2i cx dX2_share_60 ?_
        exact jg_iret cx dX2_share_61 (⟨(by first | with_reducible rfl | (simp only [jF_share, ei, c4, c13, if_pos c30, ↓reduceIte, Bool.false_eq_true, Bool.true_eq_false, reduceCtorEq, eq_self, if_true, if_false, Bool.not_true, Bool.not_false]; first | done | rfl)), (by first | with_reducible rfl | (simp only [jF_share, ei, c4, c13, if_pos c30, ↓reduceIte, Bool.false_eq_true, Bool.true_eq_false, reduceCtorEq, eq_self, if_true, if_false, Bool.not_true, Bool.not_false]; first | done | rfl))⟩)
      · refine jg_bipush cx (v := (-3)) dX2_share_33 (by decide) ?_
        exact jg_iret cx dX2_share_35 (⟨(by first | with_reducible rfl | (simp only [jF_share, c4, c13, if_neg c30, ↓reduceIte, Bool.false_eq_true, Bool.true_eq_false, reduceCtorEq, eq_self, if_true, if_false, Bool.not_true, Bool.not_false]; first | done | rfl)), (by first | with_reducible rfl | (simp only [jF_share, c4, c13, if_neg c30, ↓reduceIte, Bool.false_eq_true, Bool.true_eq_false, reduceCtorEq, eq_self, if_true, if_false, Bool.not_true, Bool.not_false]; first | done | rfl))⟩)
    · refine jg_bipush cx (v := (-2)) dX2_share_16 (by decide) ?_
      exact jg_iret cx dX2_share_18 (⟨(by first | with_reducible rfl | (simp only [jF_share, c4, c13, ↓reduceIte, Bool.false_eq_true, Bool.true_eq_false, reduceCtorEq, eq_self, if_true, if_false, Bool.not_true, Bool.not_false]; first | done | rfl)), (by first | with_reducible rfl | (simp only [jF_share, c4, c13, ↓reduceIte, Bool.false_eq_true, Bool.true_eq_false, reduceCtorEq, eq_self, if_true, if_false, Bool.not_true, Bool.not_false]; first | done | rfl))⟩)
  · refine jg_iconst cx (v := (-1)) dX2_share_7 (by decide) ?_
    exact jg_iret cx dX2_share_8 (⟨(by first | with_reducible rfl | (simp only [jF_share, c4, ↓reduceIte, Bool.false_eq_true, Bool.true_eq_false, reduceCtorEq, eq_self, if_true, if_false, Bool.not_true, Bool.not_false]; first | done | rfl)), (by first | with_reducible rfl | (simp only [jF_share, c4, ↓reduceIte, Bool.false_eq_true, Bool.true_eq_false, reduceCtorEq, eq_self, if_true, if_false, Bool.not_true, Bool.not_false]; first | done | rfl))⟩)
def jf_off (N : jf_B) (i : Nat) : Int64 := (N 2 i).toInt64 * (jf_sumS N 8).toInt64 - jf_sumJ N 8 * (N 1 i).toInt64
def jf_pot (N : jf_B) : Nat → Int64
  | 0 => 0
  | n + 1 => jf_pot N n + jf_off N n * jf_off N n
set_option maxHeartbeats 1000000 in
set_option maxRecDepth 100000 in
theorem jc_X2_potential (E : jp_E) (l : Launch) {h : jp_H}  : jc_M E l yX2_potential wsX2_potential ({ frames := 1, cells := 0, slots := 0, locals := 23 } : Room) [.ref (E.2.1 0 0)] h (jp_R (some (.long (((jf_pot (h.1 2) 8, h) : Int64 × jp_H)).1)) (((jf_pot (h.1 2) 8, h) : Int64 × jp_H)).2) := by
  refine jc_of (cc := cX2_potential) (maxL := 10) (ret := some .long) (own := RX2) (lv := [(0, _)]) (by decide) rfl rfl (Nat.le_of_ble_eq_true rfl) rfl (fun X cx => ?_)
  have inX0 : ∀ w ∈ u_ws RX0 TX0 9, w ∈ wsX2_potential := by decide +kernel
  have inX2 : ∀ w ∈ u_ws RX2 TX2 9, w ∈ wsX2_potential := by decide +kernel
  have f19 : Cond.fieldLink RX2 19 "JobSpread" "now" "LJobSpread$Net;" ∈ wsX2_potential := by decide +kernel
  refine jg_aload_n cx dX2_potential_0 rfl ?_
  refine jg_get cx jp_js_o rfl inX2 1 (by decide) f19 rfl dX2_potential_1 ?_
  refine jg_callVNl cx (n := 0) (jc_X0_allJobs_h E l jp_net2 ) gX2_potential_X0_allJobs_n145 (by decide +kernel) (by decide +kernel) (by decide +kernel) (by decide +kernel) rfl ⟨rfl, rfl⟩ ⟨(Nat.le_of_ble_eq_true rfl), (Nat.le_of_ble_eq_true rfl)⟩ (by decide +kernel) (jp_net_o jp_net2) rfl rfl rfl (Nat.le_of_ble_eq_true rfl) dX2_potential_4 ?_
  refine jg_lstore_n cx (lv' := [(0, _), (1, _)]) dX2_potential_7 (by decide) rfl ?_
  refine jg_aload_n cx dX2_potential_8 rfl ?_
  refine jg_get cx jp_js_o rfl inX2 1 (by decide) f19 rfl dX2_potential_9 ?_
  refine jg_callVNi cx (n := 0) (jc_X0_allSpeeds_h E l jp_net2 ) gX2_potential_X0_allSpeeds_n149 (by decide +kernel) (by decide +kernel) (by decide +kernel) (by decide +kernel) rfl ⟨rfl, rfl⟩ ⟨(Nat.le_of_ble_eq_true rfl), (Nat.le_of_ble_eq_true rfl)⟩ (by decide +kernel) (jp_net_o jp_net2) rfl rfl rfl (Nat.le_of_ble_eq_true rfl) dX2_potential_12 ?_
  refine jg_i2l cx dX2_potential_15 ?_
  refine jg_lstore_n cx (lv' := [(0, _), (1, _), (3, _)]) dX2_potential_16 (by decide) rfl ?_
  refine jg_lconst cx (v := 0) dX2_potential_17 rfl ?_
  refine jg_lstore cx (lv' := [(0, _), (1, _), (3, _), (5, _)]) dX2_potential_18 (by decide) rfl ?_
  refine jg_iconst cx (v := nI 0) dX2_potential_20 (by decide) ?_
  refine jg_istore cx (lv' := [(0, _), (1, _), (3, _), (5, _), (7, _)]) dX2_potential_21 (by decide) rfl ?_
  have lp23 : ∀ (d23 i : Nat), i + d23 = 8 → X 23 [(0, .ref (E.2.1 0 0)), (1, .long (jf_sumJ (h.1 2) 8)), (3, .long (jf_sumS (h.1 2) 8).toInt64), (5, .long (jf_pot (h.1 2) i)), (7, .int (nI i))] [] (h) := by
    intro d23
    induction d23 with
    | zero =>
      intro i  hr23 
      obtain rfl : i = 8 := by omega
      refine jg_iload cx dX2_potential_23 rfl ?_
      refine jg_bipush cx (v := nI 8) dX2_potential_25 (by decide) ?_
      refine jg_icmpN_ge cx (tgt := 75) dX2_potential_27 (by decide) (by omega) (by omega) (fun c27 => ?_) (fun c27 => ?_)
      · refine jg_lload cx dX2_potential_75 rfl ?_
        exact jg_lret cx dX2_potential_77 (⟨rfl, rfl⟩)
      · exact absurd hr23 (by omega)
    | succ d23 ih23 =>
      intro i  hr23 
      refine jg_iload cx dX2_potential_23 rfl ?_
      refine jg_bipush cx (v := nI 8) dX2_potential_25 (by decide) ?_
      refine jg_icmpN_ge cx (tgt := 75) dX2_potential_27 (by decide) (by omega) (by omega) (fun c27 => ?_) (fun c27 => ?_)
      · exact absurd hr23 (by omega)
      · refine jg_aload_n cx dX2_potential_30 rfl ?_
        refine jg_get cx jp_js_o rfl inX2 1 (by decide) f19 rfl dX2_potential_31 ?_
        refine jg_getN cx (jp_net_o jp_net2) rfl inX0 1 (by decide) (by decide +kernel) rfl dX2_potential_34 ?_
        refine jg_iload cx dX2_potential_37 rfl ?_
        refine jg_iald cx dX2_potential_39 ((jp_net_2 jp_net2)) rfl (by omega) ?_
        refine jg_i2l cx dX2_potential_40 ?_
        refine jg_lload_n cx dX2_potential_41 rfl ?_
        refine jg_lmul cx dX2_potential_42 ?_
        refine jg_lload_n cx dX2_potential_43 rfl ?_
        refine jg_aload_n cx dX2_potential_44 rfl ?_
        refine jg_get cx jp_js_o rfl inX2 1 (by decide) f19 rfl dX2_potential_45 ?_
        refine jg_getN cx (jp_net_o jp_net2) rfl inX0 0 (by decide) (by decide +kernel) rfl dX2_potential_48 ?_
        refine jg_iload cx dX2_potential_51 rfl ?_
        refine jg_iald cx dX2_potential_53 ((jp_net_1 jp_net2)) rfl (by omega) ?_
        refine jg_i2l cx dX2_potential_54 ?_
        refine jg_lmul cx dX2_potential_55 ?_
        refine jg_lsub cx dX2_potential_56 ?_
        refine jg_lstore cx (lv' := [(0, _), (1, _), (3, _), (5, _), (7, _), (8, _)]) dX2_potential_57 (by decide) rfl ?_
        refine jg_lload cx dX2_potential_59 rfl ?_
        refine jg_lload cx dX2_potential_61 rfl ?_
        refine jg_lload cx dX2_potential_63 rfl ?_
        refine jg_lmul cx dX2_potential_65 ?_
        refine jg_ladd cx dX2_potential_66 ?_
        refine jg_lstore cx (lv' := [(0, _), (1, _), (3, _), (5, _), (7, _), (8, _)]) dX2_potential_67 (by decide) rfl ?_
        refine jg_iincN cx (d := 1) (lv' := [(0, _), (1, _), (3, _), (5, _), (7, _), (8, _)]) dX2_potential_69 rfl (by decide) (by decide) rfl ?_
        refine jg_goto cx (tgt := 23) dX2_potential_72 (by decide) ?_
        refine jg_sub cx (lv' := [(0, _), (1, _), (3, _), (5, _), (7, _)]) [0, 1, 2, 3, 4] rfl ?_
        exact jg_to (ih23 (i + 1)  (by omega) ) rfl rfl rfl
  exact jg_to (lp23 8 0  (by omega) ) rfl rfl rfl
theorem jp_u_02 (h : jp_H) (N : jf_B) (L : jf_L) : (jp_u h 0 N L).1 2 = h.1 2 := jp_u_n1 h N L (by decide)
theorem jc_joins_02 (E : jp_E) (l : Launch) {h : jp_H} {N : jf_B} {L : jf_L} {a c : Nat} (ha : a < 8) (hc : c < 8) : jc_M E l yX0_joins wsX0_joins ({ frames := 1, cells := 0, slots := 0, locals := 21 } : Room) [.ref (E.2.1 2 0), .int (nI a), .int (nI c)] (jp_u h 0 N L) (jp_R (some (.int (jp_b (jf_joins (h.1 2) a c)))) (jp_u h 0 N L)) := by
  have t9 := jc_X0_joins_h E l (h := jp_u h 0 N L) jp_net2 ha hc
  rw [jp_u_02] at t9
  exact t9
theorem jc_below_02 (E : jp_E) (l : Launch) {h : jp_H} {N : jf_B} {L : jf_L} : jc_M E l yX0_nodesBelowZero wsX0_nodesBelowZero ({ frames := 0, cells := 0, slots := 0, locals := 0 } : Room) [.ref (E.2.1 2 0)] (jp_u h 0 N L) (jp_R (some (.int (jf_below (h.1 2) 8))) (jp_u h 0 N L)) := by
  have t9 := jc_X0_nodesBelowZero_h E l (h := jp_u h 0 N L) jp_net2
  rw [jp_u_02] at t9
  exact t9
theorem jc_measure_02 (E : jp_E) (l : Launch) {h : jp_H} {N : jf_B} {L : jf_L} : jc_M E l yX0_measure wsX0_measure ({ frames := 1, cells := 0, slots := 0, locals := 21 } : Room) [.ref (E.2.1 2 0)] (jp_u h 0 N L) (jp_R (some (.int (jf_measure (h.1 2)))) (jp_u h 0 N L)) := by
  have t9 := jc_X0_measure_h E l (h := jp_u h 0 N L) jp_net2
  rw [jp_u_02] at t9
  exact t9
def jf_un1 (me : Int32) (i : Nat) (L : jf_L) : jf_L := jf_wL L 2 i (L 1 i * me.toInt64)
def jf_unW (A : jf_B) (L : jf_L) (a c : Nat) : Int64 := L 1 a * (A 1 c).toInt64 - L 1 c * (A 1 a).toInt64
def jf_unS (A : jf_B) (a c : Nat) (L : jf_L) : jf_L := if jf_joins A a c then jf_wL (jf_wL L 2 a (L 2 a - jf_unW A L a c)) 2 c (jf_wL L 2 a (L 2 a - jf_unW A L a c) 2 c + jf_unW A L a c) else L
def jf_unR (A : jf_B) (a : Nat) (L : jf_L) : jf_L := jf_fr (jf_unS A a) L (a + 1) (8 - (a + 1))
def jf_unc (A : jf_B) (me : Int32) (L : jf_L) : jf_L := va_up (jf_it (jf_unR A) (jf_it (jf_un1 me) L 8) 8) 1 (va_cpy (jf_it (jf_unR A) (jf_it (jf_un1 me) L 8) 8 2) (jf_it (jf_unR A) (jf_it (jf_un1 me) L 8) 8 1) 0 0 8)
set_option maxHeartbeats 1000000 in
set_option maxRecDepth 100000 in
theorem jc_X2_flowUncut (E : jp_E) (l : Launch) {h : jp_H} {N : jf_B} {L : jf_L} {me : Int32} : jc_M E l yX2_flowUncut wsX2_flowUncut ({ frames := 2, cells := 0, slots := 0, locals := 43 } : Room) [.ref (E.2.1 0 0), .int me] (jp_u h 0 N L) (jp_R none (jp_u h 0 N (jf_unc (h.1 2) me L))) := by
  refine jc_of (cc := cX2_flowUncut) (maxL := 6) (ret := none) (own := RX2) (lv := [(0, _), (1, _)]) (by decide) rfl rfl (Nat.le_of_ble_eq_true rfl) rfl (fun X cx => ?_)
  have inX0 : ∀ w ∈ u_ws RX0 TX0 9, w ∈ wsX2_flowUncut := by decide +kernel
  have inX2 : ∀ w ∈ u_ws RX2 TX2 9, w ∈ wsX2_flowUncut := by decide +kernel
  have f19 : Cond.fieldLink RX2 19 "JobSpread" "now" "LJobSpread$Net;" ∈ wsX2_flowUncut := by decide +kernel
  have f39 : Cond.fieldLink RX2 39 "JobSpread" "level" "[J" ∈ wsX2_flowUncut := by decide +kernel
  have f43 : Cond.fieldLink RX2 43 "JobSpread" "nextLevel" "[J" ∈ wsX2_flowUncut := by decide +kernel
  refine jg_iconst cx (v := nI 0) dX2_flowUncut_0 (by decide) ?_
  refine jg_istore_n cx (lv' := [(0, _), (1, _), (2, _)]) dX2_flowUncut_1 (by decide) rfl ?_
  have lp2 : ∀ (d2 i : Nat), i + d2 = 8 → X 2 [(0, .ref (E.2.1 0 0)), (1, .int me), (2, .int (nI i))] [] (jp_u h 0 N (jf_it (jf_un1 me) L i)) := by
    intro d2
    induction d2 with
    | zero =>
      intro i  hr2 
      obtain rfl : i = 8 := by omega
      refine jg_iload_n cx dX2_flowUncut_2 rfl ?_
      refine jg_bipush cx (v := nI 8) dX2_flowUncut_3 (by decide) ?_
      refine jg_icmpN_ge cx (tgt := 29) dX2_flowUncut_5 (by decide) (by omega) (by omega) (fun c5 => ?_) (fun c5 => ?_)
      · refine jg_iconst cx (v := nI 0) dX2_flowUncut_29 (by decide) ?_
        refine jg_istore_n cx (lv' := [(0, _), (1, _), (2, _)]) dX2_flowUncut_30 (by decide) rfl ?_
        have lp31 : ∀ (d31 a : Nat), a + d31 = 8 → X 31 [(0, .ref (E.2.1 0 0)), (1, .int me), (2, .int (nI a))] [] (jp_u h 0 N (jf_it (jf_unR (h.1 2)) (jf_it (jf_un1 me) L 8) a)) := by
          intro d31
          induction d31 with
          | zero =>
            intro a  hr31 
            obtain rfl : a = 8 := by omega
            refine jg_iload_n cx dX2_flowUncut_31 rfl ?_
            refine jg_bipush cx (v := nI 8) dX2_flowUncut_32 (by decide) ?_
            refine jg_icmpN_ge cx (tgt := 130) dX2_flowUncut_34 (by decide) (by omega) (by omega) (fun c34 => ?_) (fun c34 => ?_)
            · refine jg_aload_n cx dX2_flowUncut_130 rfl ?_
              refine jg_get cx jp_js_o rfl inX2 8 (by decide) f43 rfl dX2_flowUncut_131 ?_
              refine jg_iconst cx (v := nI 0) dX2_flowUncut_134 (by decide) ?_
              refine jg_aload_n cx dX2_flowUncut_135 rfl ?_
              refine jg_get cx jp_js_o rfl inX2 7 (by decide) f39 rfl dX2_flowUncut_136 ?_
              refine jg_iconst cx (v := nI 0) dX2_flowUncut_139 (by decide) ?_
              refine jg_bipush cx (v := nI 8) dX2_flowUncut_140 (by decide) ?_
              refine jg_copyl cx (by decide +kernel) (by decide +kernel) (by decide +kernel) (by decide +kernel) jp_js_2 jp_js_1 (Nat.le_of_ble_eq_true rfl) (Nat.le_of_ble_eq_true rfl) dX2_flowUncut_142 ?_
              rw [jp_u_sl, jp_u_2]
              exact jg_vret cx dX2_flowUncut_145 (⟨rfl, (by first | with_reducible rfl | (simp only [jf_unc, ↓reduceIte, Bool.false_eq_true, Bool.true_eq_false, reduceCtorEq, eq_self, if_true, if_false, Bool.not_true, Bool.not_false]; first | done | rfl))⟩)
            · exact absurd hr31 (by omega)
          | succ d31 ih31 =>
            intro a  hr31 
            refine jg_iload_n cx dX2_flowUncut_31 rfl ?_
            refine jg_bipush cx (v := nI 8) dX2_flowUncut_32 (by decide) ?_
            refine jg_icmpN_ge cx (tgt := 130) dX2_flowUncut_34 (by decide) (by omega) (by omega) (fun c34 => ?_) (fun c34 => ?_)
            · exact absurd hr31 (by omega)
            · refine jg_iload_n cx dX2_flowUncut_37 rfl ?_
              refine jg_iconst cx (v := nI 1) dX2_flowUncut_38 (by decide) ?_
              refine jg_iaddN cx dX2_flowUncut_39 ?_
              refine jg_istore_n cx (lv' := [(0, _), (1, _), (2, _), (3, _)]) dX2_flowUncut_40 (by decide) rfl ?_
              have lp41 : ∀ (d41 n : Nat), a + 1 + n + d41 = 8 → X 41 [(0, .ref (E.2.1 0 0)), (1, .int me), (2, .int (nI a)), (3, .int (nI (a + 1 + n)))] [] (jp_u h 0 N (jf_fr (jf_unS (h.1 2) a) (jf_it (jf_unR (h.1 2)) (jf_it (jf_un1 me) L 8) a) (a + 1) n)) := by
                intro d41
                induction d41 with
                | zero =>
                  intro n  hr41 
                  obtain rfl : n = 8 - (a + 1) := by omega
                  refine jg_iload_n cx dX2_flowUncut_41 rfl ?_
                  refine jg_bipush cx (v := nI 8) dX2_flowUncut_42 (by decide) ?_
                  refine jg_icmpN_ge cx (tgt := 124) dX2_flowUncut_44 (by decide) (by omega) (by omega) (fun c44 => ?_) (fun c44 => ?_)
                  · refine jg_iincN cx (d := 1) (lv' := [(0, _), (1, _), (2, _), (3, _)]) dX2_flowUncut_124 rfl (by decide) (by decide) rfl ?_
                    refine jg_goto cx (tgt := 31) dX2_flowUncut_127 (by decide) ?_
                    refine jg_sub cx (lv' := [(0, _), (1, _), (2, _)]) [0, 1, 2] rfl ?_
                    exact jg_to (ih31 (a + 1)  (by omega) ) rfl rfl rfl
                  · exact absurd hr41 (by omega)
                | succ d41 ih41 =>
                  intro n  hr41 
                  refine jg_iload_n cx dX2_flowUncut_41 rfl ?_
                  refine jg_bipush cx (v := nI 8) dX2_flowUncut_42 (by decide) ?_
                  refine jg_icmpN_ge cx (tgt := 124) dX2_flowUncut_44 (by decide) (by omega) (by omega) (fun c44 => ?_) (fun c44 => ?_)
                  · exact absurd hr41 (by omega)
                  · refine jg_aload_n cx dX2_flowUncut_47 rfl ?_
                    refine jg_get cx jp_js_o rfl inX2 1 (by decide) f19 rfl dX2_flowUncut_48 ?_
                    refine jg_iload_n cx dX2_flowUncut_51 rfl ?_
                    refine jg_iload_n cx dX2_flowUncut_52 rfl ?_
                    refine jg_callVNi cx (n := 2) (jc_joins_02 E l (by omega) (by omega)) gX2_flowUncut_X0_joins_n68 (by decide +kernel) (by decide +kernel) (by decide +kernel) (by decide +kernel) rfl ⟨rfl, rfl⟩ ⟨(Nat.le_of_ble_eq_true rfl), (Nat.le_of_ble_eq_true rfl)⟩ (by decide +kernel) (jp_net_o jp_net2) rfl rfl rfl (Nat.le_of_ble_eq_true rfl) dX2_flowUncut_53 ?_
                    refine jg_ifb_eq cx (tgt := 118) dX2_flowUncut_56 (by decide) (fun c56 => ?_) (fun c56 => ?_)
                    · refine jg_iincN cx (d := 1) (lv' := [(0, _), (1, _), (2, _), (3, _)]) dX2_flowUncut_118 rfl (by decide) (by decide) rfl ?_
                      refine jg_goto cx (tgt := 41) dX2_flowUncut_121 (by decide) ?_
                      exact jg_to (ih41 (n + 1)  (by omega) ) rfl rfl (by first | with_reducible rfl | (simp only [jf_fr, jf_unS, jf_unW, c56, ↓reduceIte, Bool.false_eq_true, Bool.true_eq_false, reduceCtorEq, eq_self, if_true, if_false, Bool.not_true, Bool.not_false]; first | done | rfl))
                    · refine jg_aload_n cx dX2_flowUncut_59 rfl ?_
                      refine jg_get cx jp_js_o rfl inX2 7 (by decide) f39 rfl dX2_flowUncut_60 ?_
                      refine jg_iload_n cx dX2_flowUncut_63 rfl ?_
                      refine jg_laldU cx dX2_flowUncut_64 (jp_js_1) rfl (by omega) ?_
                      refine jg_aload_n cx dX2_flowUncut_65 rfl ?_
                      refine jg_get cx jp_js_o rfl inX2 1 (by decide) f19 rfl dX2_flowUncut_66 ?_
                      refine jg_getN cx (jp_net_o jp_net2) rfl inX0 0 (by decide) (by decide +kernel) rfl dX2_flowUncut_69 ?_
                      refine jg_iload_n cx dX2_flowUncut_72 rfl ?_
                      refine jg_iald cx dX2_flowUncut_73 ((jp_net_1 jp_net2)) rfl (by omega) ?_
                      rw [jp_u_02]
                      refine jg_i2l cx dX2_flowUncut_74 ?_
                      refine jg_lmul cx dX2_flowUncut_75 ?_
                      refine jg_aload_n cx dX2_flowUncut_76 rfl ?_
                      refine jg_get cx jp_js_o rfl inX2 7 (by decide) f39 rfl dX2_flowUncut_77 ?_
                      refine jg_iload_n cx dX2_flowUncut_80 rfl ?_
                      refine jg_laldU cx dX2_flowUncut_81 (jp_js_1) rfl (by omega) ?_
                      refine jg_aload_n cx dX2_flowUncut_82 rfl ?_
                      refine jg_get cx jp_js_o rfl inX2 1 (by decide) f19 rfl dX2_flowUncut_83 ?_
                      refine jg_getN cx (jp_net_o jp_net2) rfl inX0 0 (by decide) (by decide +kernel) rfl dX2_flowUncut_86 ?_
                      refine jg_iload_n cx dX2_flowUncut_89 rfl ?_
                      refine jg_iald cx dX2_flowUncut_90 ((jp_net_1 jp_net2)) rfl (by omega) ?_
                      rw [jp_u_02]
                      refine jg_i2l cx dX2_flowUncut_91 ?_
                      refine jg_lmul cx dX2_flowUncut_92 ?_
                      refine jg_lsub cx dX2_flowUncut_93 ?_
                      refine jg_lstore cx (lv' := [(0, _), (1, _), (2, _), (3, _), (4, _)]) dX2_flowUncut_94 (by decide) rfl ?_
                      refine jg_aload_n cx dX2_flowUncut_96 rfl ?_
                      refine jg_get cx jp_js_o rfl inX2 8 (by decide) f43 rfl dX2_flowUncut_97 ?_
                      refine jg_iload_n cx dX2_flowUncut_100 rfl ?_
                      refine jg_dup2 cx dX2_flowUncut_101 rfl rfl ?_
                      refine jg_laldU cx dX2_flowUncut_102 (jp_js_2) rfl (by omega) ?_
                      refine jg_lload cx dX2_flowUncut_103 rfl ?_
                      refine jg_lsub cx dX2_flowUncut_105 ?_
                      refine jg_lastU cx dX2_flowUncut_106 (jp_js_2) rfl (by omega) ?_
                      refine jg_aload_n cx dX2_flowUncut_107 rfl ?_
                      refine jg_get cx jp_js_o rfl inX2 8 (by decide) f43 rfl dX2_flowUncut_108 ?_
                      refine jg_iload_n cx dX2_flowUncut_111 rfl ?_
                      refine jg_dup2 cx dX2_flowUncut_112 rfl rfl ?_
                      refine jg_laldU cx dX2_flowUncut_113 (jp_js_2) rfl (by omega) ?_
                      refine jg_lload cx dX2_flowUncut_114 rfl ?_
                      refine jg_ladd cx dX2_flowUncut_116 ?_
                      refine jg_lastU cx dX2_flowUncut_117 (jp_js_2) rfl (by omega) ?_
                      refine jg_iincN cx (d := 1) (lv' := [(0, _), (1, _), (2, _), (3, _), (4, _)]) dX2_flowUncut_118 rfl (by decide) (by decide) rfl ?_
                      refine jg_goto cx (tgt := 41) dX2_flowUncut_121 (by decide) ?_
                      refine jg_sub cx (lv' := [(0, _), (1, _), (2, _), (3, _)]) [0, 1, 2, 3] rfl ?_
                      exact jg_to (ih41 (n + 1)  (by omega) ) rfl rfl (by first | with_reducible rfl | (simp only [jf_fr, jf_unS, jf_unW, c56, ↓reduceIte, Bool.false_eq_true, Bool.true_eq_false, reduceCtorEq, eq_self, if_true, if_false, Bool.not_true, Bool.not_false]; first | done | rfl))
              exact jg_to (lp41 (8 - (a + 1)) 0  (by omega) ) rfl rfl rfl
        exact jg_to (lp31 8 0  (by omega) ) rfl rfl rfl
      · exact absurd hr2 (by omega)
    | succ d2 ih2 =>
      intro i  hr2 
      refine jg_iload_n cx dX2_flowUncut_2 rfl ?_
      refine jg_bipush cx (v := nI 8) dX2_flowUncut_3 (by decide) ?_
      refine jg_icmpN_ge cx (tgt := 29) dX2_flowUncut_5 (by decide) (by omega) (by omega) (fun c5 => ?_) (fun c5 => ?_)
      · exact absurd hr2 (by omega)
      · refine jg_aload_n cx dX2_flowUncut_8 rfl ?_
        refine jg_get cx jp_js_o rfl inX2 8 (by decide) f43 rfl dX2_flowUncut_9 ?_
        refine jg_iload_n cx dX2_flowUncut_12 rfl ?_
        refine jg_aload_n cx dX2_flowUncut_13 rfl ?_
        refine jg_get cx jp_js_o rfl inX2 7 (by decide) f39 rfl dX2_flowUncut_14 ?_
        refine jg_iload_n cx dX2_flowUncut_17 rfl ?_
        refine jg_laldU cx dX2_flowUncut_18 (jp_js_1) rfl (by omega) ?_
        refine jg_iload_n cx dX2_flowUncut_19 rfl ?_
        refine jg_i2l cx dX2_flowUncut_20 ?_
        refine jg_lmul cx dX2_flowUncut_21 ?_
        refine jg_lastU cx dX2_flowUncut_22 (jp_js_2) rfl (by omega) ?_
        refine jg_iincN cx (d := 1) (lv' := [(0, _), (1, _), (2, _)]) dX2_flowUncut_23 rfl (by decide) (by decide) rfl ?_
        refine jg_goto cx (tgt := 2) dX2_flowUncut_26 (by decide) ?_
        exact jg_to (ih2 (i + 1)  (by omega) ) rfl rfl rfl
  exact jg_to (lp2 8 0  (by omega) ) rfl rfl rfl
def jf_idL0 (A : jf_B) (L : jf_L) (i : Nat) : jf_L := jf_it (fun j M => jf_wL M 1 j (A 2 j).toInt64) L i
def jf_idS (A : jf_B) (L : jf_L) (r : Nat) : jf_L := jf_it (fun _ M => jf_unc A (jf_measure A) M) (jf_idL0 A L 8) r
def jf_idD (A : jf_B) (r : Nat) : Int64 := jf_it (fun _ x => x * (jf_measure A).toInt64) 1 r
def jF_ideal (x r pa : Int32) (A : jf_B) (L : jf_L) : Int64 × jf_L :=
  if jf_within x (nI 0) (nI 7) then
    (if jf_within r (nI 0) (nI 8) then
      (if jf_within pa (nI 0) (nI 1) then
        (if jf_below A 8 ≤ 0 then (jf_part (jf_idS A L r.toNatClampNeg 1 x.toNatClampNeg) (jf_idD A r.toNatClampNeg) pa, jf_idS A L r.toNatClampNeg) else (-3, L))
      else (-2, L))
    else (-2, L))
  else (-1, L)
set_option maxHeartbeats 1000000 in
set_option maxRecDepth 100000 in
theorem jc_X2_ideal (E : jp_E) (l : Launch) {h : jp_H} {N : jf_B} {L : jf_L} {x r pa : Int32} : jc_M E l yX2_ideal wsX2_ideal ({ frames := 3, cells := 0, slots := 0, locals := 77 } : Room) [.ref (E.2.1 0 0), .int x, .int r, .int pa] (jp_u h 0 N L) (jp_R (some (.long (jF_ideal x r pa (h.1 2) L).1)) (jp_u h 0 N (jF_ideal x r pa (h.1 2) L).2)) := by
  refine jc_of (cc := cX2_ideal) (maxL := 8) (ret := some .long) (own := RX2) (lv := [(0, _), (1, _), (2, _), (3, _)]) (by decide) rfl rfl (Nat.le_of_ble_eq_true rfl) rfl (fun X cx => ?_)
  have inX0 : ∀ w ∈ u_ws RX0 TX0 9, w ∈ wsX2_ideal := by decide +kernel
  have inX2 : ∀ w ∈ u_ws RX2 TX2 9, w ∈ wsX2_ideal := by decide +kernel
  have f19 : Cond.fieldLink RX2 19 "JobSpread" "now" "LJobSpread$Net;" ∈ wsX2_ideal := by decide +kernel
  have f39 : Cond.fieldLink RX2 39 "JobSpread" "level" "[J" ∈ wsX2_ideal := by decide +kernel
  refine jg_iload_n cx dX2_ideal_0 rfl ?_
  refine jg_callSi cx (n := 1) (jc_X2_isNode E l) gX2_ideal_X2_isNode rfl ⟨rfl, rfl⟩ ⟨(Nat.le_of_ble_eq_true rfl), (Nat.le_of_ble_eq_true rfl)⟩ (by decide +kernel) rfl rfl (Nat.le_of_ble_eq_true rfl) dX2_ideal_1 ?_
  refine jg_ifb_ne cx (tgt := 11) dX2_ideal_4 (by decide) (fun c4 => ?_) (fun c4 => ?_)
  · obtain ⟨i, hi, rfl⟩ := jf_node_of c4
    have ei : (nI i).toNatClampNeg = i := nI_clamp (by omega)
    refine jg_iload_n cx dX2_ideal_11 rfl ?_
    refine jg_iconst cx (v := nI 0) dX2_ideal_12 (by decide) ?_
    refine jg_bipush cx (v := nI 8) dX2_ideal_13 (by decide) ?_
    refine jg_callSi cx (n := 3) (jc_X2_isWithin E l) gX2_ideal_X2_isWithin rfl ⟨rfl, rfl⟩ ⟨(Nat.le_of_ble_eq_true rfl), (Nat.le_of_ble_eq_true rfl)⟩ (by decide +kernel) rfl rfl (Nat.le_of_ble_eq_true rfl) dX2_ideal_15 ?_
    refine jg_ifb_eq cx (tgt := 28) dX2_ideal_18 (by decide) (fun c18 => ?_) (fun c18 => ?_)
    · refine jg_ldc2 cx (v := (-2)) (by decide +kernel) dX2_ideal_28 ?_
      exact jg_lret cx dX2_ideal_31 (⟨(by first | with_reducible rfl | (simp only [jF_ideal, c4, c18, ↓reduceIte, Bool.false_eq_true, Bool.true_eq_false, reduceCtorEq, eq_self, if_true, if_false, Bool.not_true, Bool.not_false]; first | done | rfl)), (by first | with_reducible rfl | (simp only [jF_ideal, c4, c18, ↓reduceIte, Bool.false_eq_true, Bool.true_eq_false, reduceCtorEq, eq_self, if_true, if_false, Bool.not_true, Bool.not_false]; first | done | rfl))⟩)
    · obtain ⟨k, hk, rfl⟩ := jf_within_of (by decide) c18
      have ek : (nI k).toNatClampNeg = k := nI_clamp (by omega)
      refine jg_iload_n cx dX2_ideal_21 rfl ?_
      refine jg_callSi cx (n := 1) (jc_X2_isPart E l) gX2_ideal_X2_isPart rfl ⟨rfl, rfl⟩ ⟨(Nat.le_of_ble_eq_true rfl), (Nat.le_of_ble_eq_true rfl)⟩ (by decide +kernel) rfl rfl (Nat.le_of_ble_eq_true rfl) dX2_ideal_22 ?_
      refine jg_ifb_ne cx (tgt := 32) dX2_ideal_25 (by decide) (fun c25 => ?_) (fun c25 => ?_)
      · refine jg_aload_n cx dX2_ideal_32 rfl ?_
        refine jg_get cx jp_js_o rfl inX2 1 (by decide) f19 rfl dX2_ideal_33 ?_
        refine jg_callVNi cx (n := 0) (jc_below_02 E l) gX2_ideal_X0_nodesBelowZero_n156 (by decide +kernel) (by decide +kernel) (by decide +kernel) (by decide +kernel) rfl ⟨rfl, rfl⟩ ⟨(Nat.le_of_ble_eq_true rfl), (Nat.le_of_ble_eq_true rfl)⟩ (by decide +kernel) (jp_net_o jp_net2) rfl rfl rfl (Nat.le_of_ble_eq_true rfl) dX2_ideal_36 ?_
        refine jg_if_le cx (tgt := 46) dX2_ideal_39 (by decide) (fun c39 => ?_) (fun c39 => ?_)
        · refine jg_iconst cx (v := nI 0) dX2_ideal_46 (by decide) ?_
          refine jg_istore cx (lv' := [(0, _), (1, _), (2, _), (3, _), (4, _)]) dX2_ideal_47 (by decide) rfl ?_
          have lp49 : ∀ (d49 j : Nat), j + d49 = 8 → X 49 [(0, .ref (E.2.1 0 0)), (1, .int (nI i)), (2, .int (nI k)), (3, .int pa), (4, .int (nI j))] [] (jp_u h 0 N (jf_idL0 (h.1 2) L j)) := by
            intro d49
            induction d49 with
            | zero =>
              intro j  hr49 
              obtain rfl : j = 8 := by omega
              refine jg_iload cx dX2_ideal_49 rfl ?_
              refine jg_bipush cx (v := nI 8) dX2_ideal_51 (by decide) ?_
              refine jg_icmpN_ge cx (tgt := 80) dX2_ideal_53 (by decide) (by omega) (by omega) (fun c53 => ?_) (fun c53 => ?_)
              · refine jg_aload_n cx dX2_ideal_80 rfl ?_
                refine jg_get cx jp_js_o rfl inX2 1 (by decide) f19 rfl dX2_ideal_81 ?_
                refine jg_callVNi cx (n := 0) (jc_measure_02 E l) gX2_ideal_X0_measure_n161 (by decide +kernel) (by decide +kernel) (by decide +kernel) (by decide +kernel) rfl ⟨rfl, rfl⟩ ⟨(Nat.le_of_ble_eq_true rfl), (Nat.le_of_ble_eq_true rfl)⟩ (by decide +kernel) (jp_net_o jp_net2) rfl rfl rfl (Nat.le_of_ble_eq_true rfl) dX2_ideal_84 ?_
                refine jg_istore cx (lv' := [(0, _), (1, _), (2, _), (3, _), (4, _)]) dX2_ideal_87 (by decide) rfl ?_
                refine jg_lconst cx (v := 1) dX2_ideal_89 rfl ?_
                refine jg_lstore cx (lv' := [(0, _), (1, _), (2, _), (3, _), (4, _), (5, _)]) dX2_ideal_90 (by decide) rfl ?_
                refine jg_iconst cx (v := nI 0) dX2_ideal_92 (by decide) ?_
                refine jg_istore cx (lv' := [(0, _), (1, _), (2, _), (3, _), (4, _), (5, _), (7, _)]) dX2_ideal_93 (by decide) rfl ?_
                have lp95 : ∀ (d95 q : Nat), q + d95 = k → X 95 [(0, .ref (E.2.1 0 0)), (1, .int (nI i)), (2, .int (nI k)), (3, .int pa), (4, .int (jf_measure (h.1 2))), (5, .long (jf_idD (h.1 2) q)), (7, .int (nI q))] [] (jp_u h 0 N (jf_idS (h.1 2) L q)) := by
                  intro d95
                  induction d95 with
                  | zero =>
                    intro q  hr95 
                    refine jg_iload cx dX2_ideal_95 rfl ?_
                    refine jg_iload_n cx dX2_ideal_97 rfl ?_
                    refine jg_icmpN_ge cx (tgt := 121) dX2_ideal_98 (by decide) (by omega) (by omega) (fun c98 => ?_) (fun c98 => ?_)
                    · refine jg_aload_n cx dX2_ideal_121 rfl ?_
                      refine jg_get cx jp_js_o rfl inX2 7 (by decide) f39 rfl dX2_ideal_122 ?_
                      refine jg_iload_n cx dX2_ideal_125 rfl ?_
                      refine jg_laldU cx dX2_ideal_126 (jp_js_1) rfl (by omega) ?_
                      refine jg_lload cx dX2_ideal_127 rfl ?_
                      refine jg_iload_n cx dX2_ideal_129 rfl ?_
                      refine jg_callSl cx (n := 3) (jc_X2_partOf E l) gX2_ideal_X2_partOf rfl ⟨rfl, rfl⟩ ⟨(Nat.le_of_ble_eq_true rfl), (Nat.le_of_ble_eq_true rfl)⟩ (by decide +kernel) rfl rfl (Nat.le_of_ble_eq_true rfl) dX2_ideal_130 ?_
                      exact jg_lret cx dX2_ideal_133 (by rw [show q = k by omega]; exact ⟨by simp only [jF_ideal, c4, c18, c25, if_pos c39, ei, ek, ↓reduceIte], by simp only [jF_ideal, c4, c18, c25, if_pos c39, ei, ek, ↓reduceIte]⟩)
                    · exact absurd hr95 (by omega)
                  | succ d95 ih95 =>
                    intro q  hr95 
                    refine jg_iload cx dX2_ideal_95 rfl ?_
                    refine jg_iload_n cx dX2_ideal_97 rfl ?_
                    refine jg_icmpN_ge cx (tgt := 121) dX2_ideal_98 (by decide) (by omega) (by omega) (fun c98 => ?_) (fun c98 => ?_)
                    · exact absurd hr95 (by omega)
                    · refine jg_aload_n cx dX2_ideal_101 rfl ?_
                      refine jg_iload cx dX2_ideal_102 rfl ?_
                      refine jg_callVv cx (n := 1) (jc_X2_flowUncut E l) gX2_ideal_X2_flowUncut rfl ⟨rfl, rfl⟩ ⟨(Nat.le_of_ble_eq_true rfl), (Nat.le_of_ble_eq_true rfl)⟩ (by decide +kernel) jp_js_o rfl rfl rfl (Nat.le_of_ble_eq_true rfl) dX2_ideal_104 ?_
                      refine jg_lload cx dX2_ideal_107 rfl ?_
                      refine jg_iload cx dX2_ideal_109 rfl ?_
                      refine jg_i2l cx dX2_ideal_111 ?_
                      refine jg_lmul cx dX2_ideal_112 ?_
                      refine jg_lstore cx (lv' := [(0, _), (1, _), (2, _), (3, _), (4, _), (5, _), (7, _)]) dX2_ideal_113 (by decide) rfl ?_
                      refine jg_iincN cx (d := 1) (lv' := [(0, _), (1, _), (2, _), (3, _), (4, _), (5, _), (7, _)]) dX2_ideal_115 rfl (by decide) (by decide) rfl ?_
                      refine jg_goto cx (tgt := 95) dX2_ideal_118 (by decide) ?_
                      exact jg_to (ih95 (q + 1)  (by omega) ) rfl rfl rfl
                exact jg_to (lp95 k 0  (by omega) ) rfl rfl rfl
              · exact absurd hr49 (by omega)
            | succ d49 ih49 =>
              intro j  hr49 
              refine jg_iload cx dX2_ideal_49 rfl ?_
              refine jg_bipush cx (v := nI 8) dX2_ideal_51 (by decide) ?_
              refine jg_icmpN_ge cx (tgt := 80) dX2_ideal_53 (by decide) (by omega) (by omega) (fun c53 => ?_) (fun c53 => ?_)
              · exact absurd hr49 (by omega)
              · refine jg_aload_n cx dX2_ideal_56 rfl ?_
                refine jg_get cx jp_js_o rfl inX2 7 (by decide) f39 rfl dX2_ideal_57 ?_
                refine jg_iload cx dX2_ideal_60 rfl ?_
                refine jg_aload_n cx dX2_ideal_62 rfl ?_
                refine jg_get cx jp_js_o rfl inX2 1 (by decide) f19 rfl dX2_ideal_63 ?_
                refine jg_getN cx (jp_net_o jp_net2) rfl inX0 1 (by decide) (by decide +kernel) rfl dX2_ideal_66 ?_
                refine jg_iload cx dX2_ideal_69 rfl ?_
                refine jg_iald cx dX2_ideal_71 ((jp_net_2 jp_net2)) rfl (by omega) ?_
                rw [jp_u_02]
                refine jg_i2l cx dX2_ideal_72 ?_
                refine jg_lastU cx dX2_ideal_73 (jp_js_1) rfl (by omega) ?_
                refine jg_iincN cx (d := 1) (lv' := [(0, _), (1, _), (2, _), (3, _), (4, _)]) dX2_ideal_74 rfl (by decide) (by decide) rfl ?_
                refine jg_goto cx (tgt := 49) dX2_ideal_77 (by decide) ?_
                exact jg_to (ih49 (j + 1)  (by omega) ) rfl rfl rfl
          exact jg_to (lp49 8 0  (by omega) ) rfl rfl rfl
        · refine jg_ldc2 cx (v := (-3)) (by decide +kernel) dX2_ideal_42 ?_
          exact jg_lret cx dX2_ideal_45 (⟨by simp only [jF_ideal, c4, c18, c25, if_neg c39, ↓reduceIte], by simp only [jF_ideal, c4, c18, c25, if_neg c39, ↓reduceIte]⟩)
      · refine jg_ldc2 cx (v := (-2)) (by decide +kernel) dX2_ideal_28 ?_
        exact jg_lret cx dX2_ideal_31 (⟨(by first | with_reducible rfl | (simp only [jF_ideal, c4, c18, c25, ↓reduceIte, Bool.false_eq_true, Bool.true_eq_false, reduceCtorEq, eq_self, if_true, if_false, Bool.not_true, Bool.not_false]; first | done | rfl)), (by first | with_reducible rfl | (simp only [jF_ideal, c4, c18, c25, ↓reduceIte, Bool.false_eq_true, Bool.true_eq_false, reduceCtorEq, eq_self, if_true, if_false, Bool.not_true, Bool.not_false]; first | done | rfl))⟩)
  · refine jg_ldc2 cx (v := (-1)) (by decide +kernel) dX2_ideal_7 ?_
    exact jg_lret cx dX2_ideal_10 (⟨(by first | with_reducible rfl | (simp only [jF_ideal, c4, ↓reduceIte, Bool.false_eq_true, Bool.true_eq_false, reduceCtorEq, eq_self, if_true, if_false, Bool.not_true, Bool.not_false]; first | done | rfl)), (by first | with_reducible rfl | (simp only [jF_ideal, c4, ↓reduceIte, Bool.false_eq_true, Bool.true_eq_false, reduceCtorEq, eq_self, if_true, if_false, Bool.not_true, Bool.not_false]; first | done | rfl))⟩)
theorem jc_X2_ideal_h (E : jp_E) (l : Launch) {h : jp_H} {x r pa : Int32} : jc_M E l yX2_ideal wsX2_ideal ({ frames := 3, cells := 0, slots := 0, locals := 77 } : Room) [.ref (E.2.1 0 0), .int x, .int r, .int pa] h (jp_R (some (.long (jF_ideal x r pa (h.1 2) (h.2 0)).1)) (jp_u h 0 (h.1 0) (jF_ideal x r pa (h.1 2) (h.2 0)).2)) := by
  have t9 := jc_X2_ideal E l (h := h) (N := h.1 0) (L := h.2 0) (x := x) (r := r) (pa := pa)
  rw [jp_u_self] at t9
  exact t9
