def jk_image (k : Int32) (M : jf_B) : Int32 × jf_B := if jf_within k (nI 0) (nI 1) then (nI 1, jf_w (jk_save k.toNatClampNeg M) 3 k.toNatClampNeg (jp_b true)) else (-2, M)
def jk_restore (k : Int32) (M : jf_B) : Int32 × jf_B := if jf_within k (nI 0) (nI 1) then (if M 3 k.toNatClampNeg = 0 then (-3, M) else (nI 1, jk_load k.toNatClampNeg M)) else (-2, M)
set_option maxHeartbeats 1000000 in
set_option maxRecDepth 100000 in
theorem jc_X3_image (E : jp_E) (l : Launch) {h : jp_H} {M : jf_B} {L : jf_L} {k : Int32} : jc_M E l yX3_image wsX3_image ({ frames := 1, cells := 0, slots := 0, locals := 22 } : Room) [.ref (E.2.1 7 0), .int k] (jp_u h 7 M L) (jp_R (some (.int (jk_image k M).1)) (jp_u h 7 (jk_image k M).2 L)) := by
  refine jc_of (cc := cX3_image) (maxL := 2) (ret := some .int) (own := RX3) (lv := [(0, _), (1, _)]) (by decide) rfl rfl (Nat.le_of_ble_eq_true rfl) rfl (fun X cx => ?_)
  have inX3 : ∀ w ∈ u_ws RX3 TX3 11, w ∈ wsX3_image := by decide +kernel
  have f16 : Cond.fieldLink RX3 16 "JobSpreadModel" "isKept" "[Z" ∈ wsX3_image := by decide +kernel
  refine jg_iload_n cx dX3_image_0 rfl ?_
  refine jg_iconst cx (v := nI 0) dX3_image_1 (by decide) ?_
  refine jg_iconst cx (v := nI 1) dX3_image_2 (by decide) ?_
  refine jg_callSi cx (n := 3) (jc_X3_in E l) gX3_image_X3_in rfl ⟨rfl, rfl⟩ ⟨(Nat.le_of_ble_eq_true rfl), (Nat.le_of_ble_eq_true rfl)⟩ (by decide +kernel) rfl rfl (Nat.le_of_ble_eq_true rfl) dX3_image_3 ?_
  refine jg_ifb_ne cx (tgt := 12) dX3_image_6 (by decide) (fun c6 => ?_) (fun c6 => ?_)
  · obtain ⟨i, hi, rfl⟩ := jf_within_of (by decide) c6
    have ei : (nI i).toNatClampNeg = i := nI_clamp (by omega)
    refine jg_aload_n cx dX3_image_12 rfl ?_
    refine jg_iload_n cx dX3_image_13 rfl ?_
    refine jg_callVv cx (n := 1) (jc_X3_save E l (by omega)) gX3_image_X3_save rfl ⟨rfl, rfl⟩ ⟨(Nat.le_of_ble_eq_true rfl), (Nat.le_of_ble_eq_true rfl)⟩ (by decide +kernel) jp_mo_o rfl rfl rfl (Nat.le_of_ble_eq_true rfl) dX3_image_14 ?_
    refine jg_aload_n cx dX3_image_17 rfl ?_
    refine jg_get cx jp_mo_o rfl inX3 2 (by decide) f16 rfl dX3_image_18 ?_
    refine jg_iload_n cx dX3_image_21 rfl ?_
    refine jg_iconst cx (v := jp_b true) dX3_image_22 (by decide) ?_
    refine jg_zastU cx dX3_image_23 (jp_mo_3) rfl (by omega) ?_
    refine jg_iconst cx (v := nI 1) dX3_image_24 (by decide) ?_
    exact jg_iret cx dX3_image_25 (⟨(by first | with_reducible rfl | (simp only [jk_image, ei, c6, ↓reduceIte, Bool.false_eq_true, Bool.true_eq_false, reduceCtorEq, eq_self, if_true, if_false, Bool.not_true, Bool.not_false]; first | done | rfl)), (by first | with_reducible rfl | (simp only [jk_image, ei, c6, ↓reduceIte, Bool.false_eq_true, Bool.true_eq_false, reduceCtorEq, eq_self, if_true, if_false, Bool.not_true, Bool.not_false]; first | done | rfl))⟩)
  · refine jg_bipush cx (v := (-2)) dX3_image_9 (by decide) ?_
    exact jg_iret cx dX3_image_11 (⟨(by first | with_reducible rfl | (simp only [jk_image, c6, ↓reduceIte, Bool.false_eq_true, Bool.true_eq_false, reduceCtorEq, eq_self, if_true, if_false, Bool.not_true, Bool.not_false]; first | done | rfl)), (by first | with_reducible rfl | (simp only [jk_image, c6, ↓reduceIte, Bool.false_eq_true, Bool.true_eq_false, reduceCtorEq, eq_self, if_true, if_false, Bool.not_true, Bool.not_false]; first | done | rfl))⟩)
set_option maxHeartbeats 1000000 in
set_option maxRecDepth 100000 in
theorem jc_X3_restore (E : jp_E) (l : Launch) {h : jp_H} {M : jf_B} {L : jf_L} {k : Int32} : jc_M E l yX3_restore wsX3_restore ({ frames := 1, cells := 0, slots := 0, locals := 22 } : Room) [.ref (E.2.1 7 0), .int k] (jp_u h 7 M L) (jp_R (some (.int (jk_restore k M).1)) (jp_u h 7 (jk_restore k M).2 L)) := by
  refine jc_of (cc := cX3_restore) (maxL := 2) (ret := some .int) (own := RX3) (lv := [(0, _), (1, _)]) (by decide) rfl rfl (Nat.le_of_ble_eq_true rfl) rfl (fun X cx => ?_)
  have inX3 : ∀ w ∈ u_ws RX3 TX3 11, w ∈ wsX3_restore := by decide +kernel
  have f16 : Cond.fieldLink RX3 16 "JobSpreadModel" "isKept" "[Z" ∈ wsX3_restore := by decide +kernel
  refine jg_iload_n cx dX3_restore_0 rfl ?_
  refine jg_iconst cx (v := nI 0) dX3_restore_1 (by decide) ?_
  refine jg_iconst cx (v := nI 1) dX3_restore_2 (by decide) ?_
  refine jg_callSi cx (n := 3) (jc_X3_in E l) gX3_restore_X3_in rfl ⟨rfl, rfl⟩ ⟨(Nat.le_of_ble_eq_true rfl), (Nat.le_of_ble_eq_true rfl)⟩ (by decide +kernel) rfl rfl (Nat.le_of_ble_eq_true rfl) dX3_restore_3 ?_
  refine jg_ifb_ne cx (tgt := 12) dX3_restore_6 (by decide) (fun c6 => ?_) (fun c6 => ?_)
  · obtain ⟨i, hi, rfl⟩ := jf_within_of (by decide) c6
    have ei : (nI i).toNatClampNeg = i := nI_clamp (by omega)
    refine jg_aload_n cx dX3_restore_12 rfl ?_
    refine jg_get cx jp_mo_o rfl inX3 2 (by decide) f16 rfl dX3_restore_13 ?_
    refine jg_iload_n cx dX3_restore_16 rfl ?_
    refine jg_zaldU cx dX3_restore_17 (jp_mo_3) rfl (by omega) ?_
    refine jg_if_ne cx (tgt := 24) dX3_restore_18 (by decide) (fun c18 => ?_) (fun c18 => ?_)
    · refine jg_aload_n cx dX3_restore_24 rfl ?_
      refine jg_iload_n cx dX3_restore_25 rfl ?_
      refine jg_callVv cx (n := 1) (jc_X3_load E l (by omega)) gX3_restore_X3_load rfl ⟨rfl, rfl⟩ ⟨(Nat.le_of_ble_eq_true rfl), (Nat.le_of_ble_eq_true rfl)⟩ (by decide +kernel) jp_mo_o rfl rfl rfl (Nat.le_of_ble_eq_true rfl) dX3_restore_26 ?_
      refine jg_iconst cx (v := nI 1) dX3_restore_29 (by decide) ?_
      exact jg_iret cx dX3_restore_30 (⟨(by first | with_reducible rfl | (simp only [jk_restore, ei, c6, if_neg c18, ↓reduceIte, Bool.false_eq_true, Bool.true_eq_false, reduceCtorEq, eq_self, if_true, if_false, Bool.not_true, Bool.not_false]; first | done | rfl)), (by first | with_reducible rfl | (simp only [jk_restore, ei, c6, if_neg c18, ↓reduceIte, Bool.false_eq_true, Bool.true_eq_false, reduceCtorEq, eq_self, if_true, if_false, Bool.not_true, Bool.not_false]; first | done | rfl))⟩)
    · refine jg_bipush cx (v := (-3)) dX3_restore_21 (by decide) ?_
      exact jg_iret cx dX3_restore_23 (⟨(by first | with_reducible rfl | (simp only [jk_restore, ei, c6, if_pos c18, ↓reduceIte, Bool.false_eq_true, Bool.true_eq_false, reduceCtorEq, eq_self, if_true, if_false, Bool.not_true, Bool.not_false]; first | done | rfl)), (by first | with_reducible rfl | (simp only [jk_restore, ei, c6, if_pos c18, ↓reduceIte, Bool.false_eq_true, Bool.true_eq_false, reduceCtorEq, eq_self, if_true, if_false, Bool.not_true, Bool.not_false]; first | done | rfl))⟩)
  · refine jg_bipush cx (v := (-2)) dX3_restore_9 (by decide) ?_
    exact jg_iret cx dX3_restore_11 (⟨(by first | with_reducible rfl | (simp only [jk_restore, c6, ↓reduceIte, Bool.false_eq_true, Bool.true_eq_false, reduceCtorEq, eq_self, if_true, if_false, Bool.not_true, Bool.not_false]; first | done | rfl)), (by first | with_reducible rfl | (simp only [jk_restore, c6, ↓reduceIte, Bool.false_eq_true, Bool.true_eq_false, reduceCtorEq, eq_self, if_true, if_false, Bool.not_true, Bool.not_false]; first | done | rfl))⟩)
def jk_bel (M : jf_B) : Nat → Nat
  | 0 => 0
  | i + 1 => if 0 ≤ M 1 (8 + i) then jk_bel M i + 0 else jk_bel M i + 1
set_option maxHeartbeats 1000000 in
set_option maxRecDepth 100000 in
theorem jc_X3_below (E : jp_E) (l : Launch) {h : jp_H} {M : jf_B} {L : jf_L}  : jc_M E l yX3_below wsX3_below ({ frames := 0, cells := 0, slots := 0, locals := 0 } : Room) [.ref (E.2.1 7 0)] (jp_u h 7 M L) (jp_R (some (.int (nI (jk_bel M 8)))) (jp_u h 7 (M) L)) := by
  refine jc_of (cc := cX3_below) (maxL := 3) (ret := some .int) (own := RX3) (lv := [(0, _)]) (by decide) rfl rfl (Nat.le_of_ble_eq_true rfl) rfl (fun X cx => ?_)
  have inX3 : ∀ w ∈ u_ws RX3 TX3 11, w ∈ wsX3_below := by decide +kernel
  have f7 : Cond.fieldLink RX3 7 "JobSpreadModel" "state" "[I" ∈ wsX3_below := by decide +kernel
  refine jg_iconst cx (v := nI 0) dX3_below_0 (by decide) ?_
  refine jg_istore_n cx (lv' := [(0, _), (1, _)]) dX3_below_1 (by decide) rfl ?_
  refine jg_iconst cx (v := nI 0) dX3_below_2 (by decide) ?_
  refine jg_istore_n cx (lv' := [(0, _), (1, _), (2, _)]) dX3_below_3 (by decide) rfl ?_
  have lp4 : ∀ (d4 i : Nat), i + d4 = 8 → X 4 [(0, .ref (E.2.1 7 0)), (1, .int (nI (jk_bel M i))), (2, .int (nI i))] [] (jp_u h 7 M L) := by
    intro d4
    induction d4 with
    | zero =>
      intro i  hr4 
      obtain rfl : i = 8 := by omega
      refine jg_iload_n cx dX3_below_4 rfl ?_
      refine jg_bipush cx (v := nI 8) dX3_below_5 (by decide) ?_
      refine jg_icmpN_ge cx (tgt := 36) dX3_below_7 (by decide) (by omega) (by omega) (fun c7 => ?_) (fun c7 => ?_)
      · refine jg_iload_n cx dX3_below_36 rfl ?_
        exact jg_iret cx dX3_below_37 (⟨rfl, rfl⟩)
      · exact absurd hr4 (by omega)
    | succ d4 ih4 =>
      intro i  hr4 
      refine jg_iload_n cx dX3_below_4 rfl ?_
      refine jg_bipush cx (v := nI 8) dX3_below_5 (by decide) ?_
      refine jg_icmpN_ge cx (tgt := 36) dX3_below_7 (by decide) (by omega) (by omega) (fun c7 => ?_) (fun c7 => ?_)
      · exact absurd hr4 (by omega)
      · refine jg_iload_n cx dX3_below_10 rfl ?_
        refine jg_aload_n cx dX3_below_11 rfl ?_
        refine jg_get cx jp_mo_o rfl inX3 0 (by decide) f7 rfl dX3_below_12 ?_
        refine jg_bipush cx (v := nI 8) dX3_below_15 (by decide) ?_
        refine jg_iload_n cx dX3_below_17 rfl ?_
        refine jg_iaddN cx dX3_below_18 ?_
        refine jg_ialdU cx dX3_below_19 (jp_mo_1) rfl (by omega) ?_
        refine jg_if_ge cx (tgt := 27) dX3_below_20 (by decide) (fun c20 => ?_) (fun c20 => ?_)
        · refine jg_iconst cx (v := nI 0) dX3_below_27 (by decide) ?_
          refine jg_iaddN cx dX3_below_28 ?_
          refine jg_istore_n cx (lv' := [(0, _), (1, _), (2, _)]) dX3_below_29 (by decide) rfl ?_
          refine jg_iincN cx (d := 1) (lv' := [(0, _), (1, _), (2, _)]) dX3_below_30 rfl (by decide) (by decide) rfl ?_
          refine jg_goto cx (tgt := 4) dX3_below_33 (by decide) ?_
          exact jg_to (ih4 (i + 1)  (by omega) ) (by first | with_reducible rfl | (simp only [jk_bel, if_pos c20, ↓reduceIte, Bool.false_eq_true, Bool.true_eq_false, reduceCtorEq, eq_self, if_true, if_false, Bool.not_true, Bool.not_false]; first | done | rfl)) (by first | with_reducible rfl | (simp only [jk_bel, if_pos c20, ↓reduceIte, Bool.false_eq_true, Bool.true_eq_false, reduceCtorEq, eq_self, if_true, if_false, Bool.not_true, Bool.not_false]; first | done | rfl)) (by first | with_reducible rfl | (simp only [jk_bel, if_pos c20, ↓reduceIte, Bool.false_eq_true, Bool.true_eq_false, reduceCtorEq, eq_self, if_true, if_false, Bool.not_true, Bool.not_false]; first | done | rfl))
        · refine jg_iconst cx (v := nI 1) dX3_below_23 (by decide) ?_
          refine jg_goto cx (tgt := 28) dX3_below_24 (by decide) ?_
          refine jg_iaddN cx dX3_below_28 ?_
          refine jg_istore_n cx (lv' := [(0, _), (1, _), (2, _)]) dX3_below_29 (by decide) rfl ?_
          refine jg_iincN cx (d := 1) (lv' := [(0, _), (1, _), (2, _)]) dX3_below_30 rfl (by decide) (by decide) rfl ?_
          refine jg_goto cx (tgt := 4) dX3_below_33 (by decide) ?_
          exact jg_to (ih4 (i + 1)  (by omega) ) (by first | with_reducible rfl | (simp only [jk_bel, if_neg c20, ↓reduceIte, Bool.false_eq_true, Bool.true_eq_false, reduceCtorEq, eq_self, if_true, if_false, Bool.not_true, Bool.not_false]; first | done | rfl)) (by first | with_reducible rfl | (simp only [jk_bel, if_neg c20, ↓reduceIte, Bool.false_eq_true, Bool.true_eq_false, reduceCtorEq, eq_self, if_true, if_false, Bool.not_true, Bool.not_false]; first | done | rfl)) (by first | with_reducible rfl | (simp only [jk_bel, if_neg c20, ↓reduceIte, Bool.false_eq_true, Bool.true_eq_false, reduceCtorEq, eq_self, if_true, if_false, Bool.not_true, Bool.not_false]; first | done | rfl))
  exact jg_to (lp4 8 0  (by omega) ) rfl rfl rfl
def jk_count (w : Int32) (M : jf_B) : Int32 := if w = nI 0 then nI (jk_cnt M 64) else if w = nI 1 then M 0 4 else if w = nI 2 then M 1 152 else if w = nI 3 then jk_sum M 8 8 + nI 10000 else if w = nI 4 then nI (jk_meas M) else if w = nI 5 then jk_col M else if w = nI 6 then nI (jk_bel M 8) else if w = nI 7 then (if M 3 0 = 0 then (if M 3 1 = 0 then nI (0 + 0) else nI (0 + 2)) else (if M 3 1 = 0 then nI (1 + 0) else nI (1 + 2))) else -2
set_option maxHeartbeats 1000000 in
set_option maxRecDepth 100000 in
theorem jc_X3_count (E : jp_E) (l : Launch) {h : jp_H} {M : jf_B} {L : jf_L} {w : Int32} : jc_M E l yX3_count wsX3_count ({ frames := 4, cells := 0, slots := 0, locals := 88 } : Room) [.ref (E.2.1 7 0), .int w] (jp_u h 7 M L) (jp_R (some (.int (jk_count w M))) (jp_u h 7 (M) L)) := by
  refine jc_of (cc := cX3_count) (maxL := 2) (ret := some .int) (own := RX3) (lv := [(0, _), (1, _)]) (by decide) rfl rfl (Nat.le_of_ble_eq_true rfl) rfl (fun X cx => ?_)
  have inX3 : ∀ w ∈ u_ws RX3 TX3 11, w ∈ wsX3_count := by decide +kernel
  have f7 : Cond.fieldLink RX3 7 "JobSpreadModel" "state" "[I" ∈ wsX3_count := by decide +kernel
  have f16 : Cond.fieldLink RX3 16 "JobSpreadModel" "isKept" "[Z" ∈ wsX3_count := by decide +kernel
  have f60 : Cond.fieldLink RX3 60 "JobSpreadModel" "said" "I" ∈ wsX3_count := by decide +kernel
  refine jg_iload_n cx dX3_count_0 rfl ?_
  rcases Classical.em (w = nI 0) with q0 | q0
  · subst q0
    refine jg_tableIn cx (off := 47) (tgt := 48) dX3_count_1 (by decide) (by decide) (by decide) (by decide) ?_
    refine jg_aload_n cx dX3_count_48 rfl ?_
    refine jg_callVi cx (n := 0) (jc_X3_edges E l) gX3_count_X3_edges rfl ⟨rfl, rfl⟩ ⟨(Nat.le_of_ble_eq_true rfl), (Nat.le_of_ble_eq_true rfl)⟩ (by decide +kernel) jp_mo_o rfl rfl rfl (Nat.le_of_ble_eq_true rfl) dX3_count_49 ?_
    exact jg_iret cx dX3_count_52 (⟨by simp only [jk_count, ↓reduceIte], rfl⟩)
  · rcases Classical.em (w = nI 1) with q1 | q1
    · subst q1
      refine jg_tableIn cx (off := 52) (tgt := 53) dX3_count_1 (by decide) (by decide) (by decide) (by decide) ?_
      refine jg_aload_n cx dX3_count_53 rfl ?_
      refine jg_getU cx jp_mo_o rfl inX3 4 (by decide) f60 rfl dX3_count_54 ?_
      exact jg_iret cx dX3_count_57 (⟨by simp only [jk_count, if_neg (show ¬ nI 1 = nI 0 by decide), ↓reduceIte], rfl⟩)
    · rcases Classical.em (w = nI 2) with q2 | q2
      · subst q2
        refine jg_tableIn cx (off := 57) (tgt := 58) dX3_count_1 (by decide) (by decide) (by decide) (by decide) ?_
        refine jg_aload_n cx dX3_count_58 rfl ?_
        refine jg_get cx jp_mo_o rfl inX3 0 (by decide) f7 rfl dX3_count_59 ?_
        refine jg_sipush cx (v := nI 152) dX3_count_62 (by decide) ?_
        refine jg_ialdU cx dX3_count_65 (jp_mo_1) rfl (by omega) ?_
        exact jg_iret cx dX3_count_66 (⟨by simp only [jk_count, if_neg (show ¬ nI 2 = nI 0 by decide), if_neg (show ¬ nI 2 = nI 1 by decide), ↓reduceIte], rfl⟩)
      · rcases Classical.em (w = nI 3) with q3 | q3
        · subst q3
          refine jg_tableIn cx (off := 66) (tgt := 67) dX3_count_1 (by decide) (by decide) (by decide) (by decide) ?_
          refine jg_aload_n cx dX3_count_67 rfl ?_
          refine jg_bipush cx (v := nI 8) dX3_count_68 (by decide) ?_
          refine jg_callVi cx (n := 1) (jc_X3_sumOf E l (by decide)) gX3_count_X3_sumOf rfl ⟨rfl, rfl⟩ ⟨(Nat.le_of_ble_eq_true rfl), (Nat.le_of_ble_eq_true rfl)⟩ (by decide +kernel) jp_mo_o rfl rfl rfl (Nat.le_of_ble_eq_true rfl) dX3_count_70 ?_
          refine jg_sipush cx (v := nI 10000) dX3_count_73 (by decide) ?_
          refine jg_iadd cx dX3_count_76 ?_
          exact jg_iret cx dX3_count_77 (⟨by simp only [jk_count, if_neg (show ¬ nI 3 = nI 0 by decide), if_neg (show ¬ nI 3 = nI 1 by decide), if_neg (show ¬ nI 3 = nI 2 by decide), ↓reduceIte], rfl⟩)
        · rcases Classical.em (w = nI 4) with q4 | q4
          · subst q4
            refine jg_tableIn cx (off := 77) (tgt := 78) dX3_count_1 (by decide) (by decide) (by decide) (by decide) ?_
            refine jg_aload_n cx dX3_count_78 rfl ?_
            refine jg_callVi cx (n := 0) (jc_X3_measure E l) gX3_count_X3_measure rfl ⟨rfl, rfl⟩ ⟨(Nat.le_of_ble_eq_true rfl), (Nat.le_of_ble_eq_true rfl)⟩ (by decide +kernel) jp_mo_o rfl rfl rfl (Nat.le_of_ble_eq_true rfl) dX3_count_79 ?_
            exact jg_iret cx dX3_count_82 (⟨by simp only [jk_count, if_neg (show ¬ nI 4 = nI 0 by decide), if_neg (show ¬ nI 4 = nI 1 by decide), if_neg (show ¬ nI 4 = nI 2 by decide), if_neg (show ¬ nI 4 = nI 3 by decide), ↓reduceIte], rfl⟩)
          · rcases Classical.em (w = nI 5) with q5 | q5
            · subst q5
              refine jg_tableIn cx (off := 82) (tgt := 83) dX3_count_1 (by decide) (by decide) (by decide) (by decide) ?_
              refine jg_aload_n cx dX3_count_83 rfl ?_
              refine jg_callVi cx (n := 0) (jc_X3_colours E l) gX3_count_X3_colours rfl ⟨rfl, rfl⟩ ⟨(Nat.le_of_ble_eq_true rfl), (Nat.le_of_ble_eq_true rfl)⟩ (by decide +kernel) jp_mo_o rfl rfl rfl (Nat.le_of_ble_eq_true rfl) dX3_count_84 ?_
              exact jg_iret cx dX3_count_87 (⟨by simp only [jk_count, if_neg (show ¬ nI 5 = nI 0 by decide), if_neg (show ¬ nI 5 = nI 1 by decide), if_neg (show ¬ nI 5 = nI 2 by decide), if_neg (show ¬ nI 5 = nI 3 by decide), if_neg (show ¬ nI 5 = nI 4 by decide), ↓reduceIte], rfl⟩)
            · rcases Classical.em (w = nI 6) with q6 | q6
              · subst q6
                refine jg_tableIn cx (off := 87) (tgt := 88) dX3_count_1 (by decide) (by decide) (by decide) (by decide) ?_
                refine jg_aload_n cx dX3_count_88 rfl ?_
                refine jg_callVi cx (n := 0) (jc_X3_below E l) gX3_count_X3_below rfl ⟨rfl, rfl⟩ ⟨(Nat.le_of_ble_eq_true rfl), (Nat.le_of_ble_eq_true rfl)⟩ (by decide +kernel) jp_mo_o rfl rfl rfl (Nat.le_of_ble_eq_true rfl) dX3_count_89 ?_
                exact jg_iret cx dX3_count_92 (⟨by simp only [jk_count, if_neg (show ¬ nI 6 = nI 0 by decide), if_neg (show ¬ nI 6 = nI 1 by decide), if_neg (show ¬ nI 6 = nI 2 by decide), if_neg (show ¬ nI 6 = nI 3 by decide), if_neg (show ¬ nI 6 = nI 4 by decide), if_neg (show ¬ nI 6 = nI 5 by decide), ↓reduceIte], rfl⟩)
              · rcases Classical.em (w = nI 7) with q7 | q7
                · subst q7
                  refine jg_tableIn cx (off := 92) (tgt := 93) dX3_count_1 (by decide) (by decide) (by decide) (by decide) ?_
                  refine jg_aload_n cx dX3_count_93 rfl ?_
                  refine jg_get cx jp_mo_o rfl inX3 2 (by decide) f16 rfl dX3_count_94 ?_
                  refine jg_iconst cx (v := nI 0) dX3_count_97 (by decide) ?_
                  refine jg_zaldU cx dX3_count_98 (jp_mo_3) rfl (by omega) ?_
                  refine jg_if_eq cx (tgt := 106) dX3_count_99 (by decide) (fun c99 => ?_) (fun c99 => ?_)
                  · refine jg_iconst cx (v := nI 0) dX3_count_106 (by decide) ?_
                    refine jg_aload_n cx dX3_count_107 rfl ?_
                    refine jg_get cx jp_mo_o rfl inX3 2 (by decide) f16 rfl dX3_count_108 ?_
                    refine jg_iconst cx (v := nI 1) dX3_count_111 (by decide) ?_
                    refine jg_zaldU cx dX3_count_112 (jp_mo_3) rfl (by omega) ?_
                    refine jg_if_eq cx (tgt := 120) dX3_count_113 (by decide) (fun c113 => ?_) (fun c113 => ?_)
                    · refine jg_iconst cx (v := nI 0) dX3_count_120 (by decide) ?_
                      refine jg_iaddN cx dX3_count_121 ?_
                      exact jg_iret cx dX3_count_122 (⟨by simp only [jk_count, if_neg (show ¬ nI 7 = nI 0 by decide), if_neg (show ¬ nI 7 = nI 1 by decide), if_neg (show ¬ nI 7 = nI 2 by decide), if_neg (show ¬ nI 7 = nI 3 by decide), if_neg (show ¬ nI 7 = nI 4 by decide), if_neg (show ¬ nI 7 = nI 5 by decide), if_neg (show ¬ nI 7 = nI 6 by decide), if_pos c99, if_pos c113, ↓reduceIte], rfl⟩)
                    · refine jg_iconst cx (v := nI 2) dX3_count_116 (by decide) ?_
                      refine jg_goto cx (tgt := 121) dX3_count_117 (by decide) ?_
                      refine jg_iaddN cx dX3_count_121 ?_
                      exact jg_iret cx dX3_count_122 (⟨by simp only [jk_count, if_neg (show ¬ nI 7 = nI 0 by decide), if_neg (show ¬ nI 7 = nI 1 by decide), if_neg (show ¬ nI 7 = nI 2 by decide), if_neg (show ¬ nI 7 = nI 3 by decide), if_neg (show ¬ nI 7 = nI 4 by decide), if_neg (show ¬ nI 7 = nI 5 by decide), if_neg (show ¬ nI 7 = nI 6 by decide), if_pos c99, if_neg c113, ↓reduceIte], rfl⟩)
                  · refine jg_iconst cx (v := nI 1) dX3_count_102 (by decide) ?_
                    refine jg_goto cx (tgt := 107) dX3_count_103 (by decide) ?_
                    refine jg_aload_n cx dX3_count_107 rfl ?_
                    refine jg_get cx jp_mo_o rfl inX3 2 (by decide) f16 rfl dX3_count_108 ?_
                    refine jg_iconst cx (v := nI 1) dX3_count_111 (by decide) ?_
                    refine jg_zaldU cx dX3_count_112 (jp_mo_3) rfl (by omega) ?_
                    refine jg_if_eq cx (tgt := 120) dX3_count_113 (by decide) (fun c113 => ?_) (fun c113 => ?_)
                    · refine jg_iconst cx (v := nI 0) dX3_count_120 (by decide) ?_
                      refine jg_iaddN cx dX3_count_121 ?_
                      exact jg_iret cx dX3_count_122 (⟨by simp only [jk_count, if_neg (show ¬ nI 7 = nI 0 by decide), if_neg (show ¬ nI 7 = nI 1 by decide), if_neg (show ¬ nI 7 = nI 2 by decide), if_neg (show ¬ nI 7 = nI 3 by decide), if_neg (show ¬ nI 7 = nI 4 by decide), if_neg (show ¬ nI 7 = nI 5 by decide), if_neg (show ¬ nI 7 = nI 6 by decide), if_neg c99, if_pos c113, ↓reduceIte], rfl⟩)
                    · refine jg_iconst cx (v := nI 2) dX3_count_116 (by decide) ?_
                      refine jg_goto cx (tgt := 121) dX3_count_117 (by decide) ?_
                      refine jg_iaddN cx dX3_count_121 ?_
                      exact jg_iret cx dX3_count_122 (⟨by simp only [jk_count, if_neg (show ¬ nI 7 = nI 0 by decide), if_neg (show ¬ nI 7 = nI 1 by decide), if_neg (show ¬ nI 7 = nI 2 by decide), if_neg (show ¬ nI 7 = nI 3 by decide), if_neg (show ¬ nI 7 = nI 4 by decide), if_neg (show ¬ nI 7 = nI 5 by decide), if_neg (show ¬ nI 7 = nI 6 by decide), if_neg c99, if_neg c113, ↓reduceIte], rfl⟩)
                · refine jg_tableOut cx (tgt := 123) dX3_count_1 (jf_out w 7 (by decide) (jf_lt8 q0 q1 q2 q3 q4 q5 q6 q7)) (by decide) ?_
                  refine jg_bipush cx (v := (-2)) dX3_count_123 (by decide) ?_
                  exact jg_iret cx dX3_count_125 (⟨by simp only [jk_count, if_neg q0, if_neg q1, if_neg q2, if_neg q3, if_neg q4, if_neg q5, if_neg q6, if_neg q7], rfl⟩)
