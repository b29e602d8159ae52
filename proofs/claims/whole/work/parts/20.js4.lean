theorem jf_two_of {k : Int32} (h : jf_within k (nI 0) (nI 1) = true) : k = nI 0 ∨ k = nI 1 := by
  obtain ⟨i, hi, rfl⟩ := jf_within_of (by decide) h
  rcases (show i = 0 ∨ i = 1 by omega) with rfl | rfl
  · exact Or.inl rfl
  · exact Or.inr rfl
set_option maxHeartbeats 1000000 in
set_option maxRecDepth 100000 in
theorem jc_X2_imageAt0 (E : jp_E) (l : Launch) {h : jp_H} : jc_M E l yX2_imageAt wsX2_imageAt ({ frames := 0, cells := 0, slots := 0, locals := 0 } : Room) [.ref (E.2.1 0 0), .int (nI 0)] h (jp_R (some (.ref (E.2.1 3 0))) h) := by
  refine jc_of (cc := cX2_imageAt) (maxL := 2) (ret := some (.object "JobSpread$Net")) (own := RX2) (lv := [(0, _), (1, _)]) (by decide) rfl rfl (Nat.le_of_ble_eq_true rfl) rfl (fun X cx => ?_)
  have inX2 : ∀ w ∈ u_ws RX2 TX2 9, w ∈ wsX2_imageAt := by decide +kernel
  have f23 : Cond.fieldLink RX2 23 "JobSpread" "firstImage" "LJobSpread$Net;" ∈ wsX2_imageAt := by decide +kernel
  refine jg_iload_n cx dX2_imageAt_0 rfl ?_
  refine jg_if_ne cx (tgt := 11) dX2_imageAt_1 (by decide) (fun c1 => ?_) (fun c1 => ?_)
  · exact absurd c1 (by decide)
  · refine jg_aload_n cx dX2_imageAt_4 rfl ?_
    refine jg_get cx jp_js_o rfl inX2 2 (by decide) f23 rfl dX2_imageAt_5 ?_
    refine jg_goto cx (tgt := 15) dX2_imageAt_8 (by decide) ?_
    exact jg_aret cx dX2_imageAt_15 (⟨rfl, rfl⟩)
set_option maxHeartbeats 1000000 in
set_option maxRecDepth 100000 in
theorem jc_X2_imageAt1 (E : jp_E) (l : Launch) {h : jp_H} : jc_M E l yX2_imageAt wsX2_imageAt ({ frames := 0, cells := 0, slots := 0, locals := 0 } : Room) [.ref (E.2.1 0 0), .int (nI 1)] h (jp_R (some (.ref (E.2.1 4 0))) h) := by
  refine jc_of (cc := cX2_imageAt) (maxL := 2) (ret := some (.object "JobSpread$Net")) (own := RX2) (lv := [(0, _), (1, _)]) (by decide) rfl rfl (Nat.le_of_ble_eq_true rfl) rfl (fun X cx => ?_)
  have inX2 : ∀ w ∈ u_ws RX2 TX2 9, w ∈ wsX2_imageAt := by decide +kernel
  have f26 : Cond.fieldLink RX2 26 "JobSpread" "secondImage" "LJobSpread$Net;" ∈ wsX2_imageAt := by decide +kernel
  refine jg_iload_n cx dX2_imageAt_0 rfl ?_
  refine jg_if_ne cx (tgt := 11) dX2_imageAt_1 (by decide) (fun c1 => ?_) (fun c1 => ?_)
  · refine jg_aload_n cx dX2_imageAt_11 rfl ?_
    refine jg_get cx jp_js_o rfl inX2 3 (by decide) f26 rfl dX2_imageAt_12 ?_
    exact jg_aret cx dX2_imageAt_15 (⟨rfl, rfl⟩)
  · exact absurd c1 (by decide)
def jf_ib (k : Int32) : Nat := if k = nI 0 then 3 else 4
def jF_image (k : Int32) (h : jp_H) : Int32 × jp_H :=
  if jf_within k (nI 0) (nI 1) then (nI 1, jp_s (jp_u h (jf_ib k) (jf_become (h.1 2) (h.1 (jf_ib k))) (h.2 (jf_ib k))) 0 0 4 ((jp_u h (jf_ib k) (jf_become (h.1 2) (h.1 (jf_ib k))) (h.2 (jf_ib k))).1 0 0 4 ||| nI 1 <<< (k &&& 31))) else (-2, h)
def jF_restore (k : Int32) (h : jp_H) : Int32 × jp_H :=
  if jf_within k (nI 0) (nI 1) then (if h.1 0 0 4 &&& nI 1 <<< (k &&& 31) = 0 then (-3, h) else (nI 1, jp_u h 2 (jf_become (h.1 (jf_ib k)) (h.1 2)) (h.2 2))) else (-2, h)
set_option maxHeartbeats 1000000 in
set_option maxRecDepth 100000 in
theorem jc_X2_image (E : jp_E) (l : Launch) {h : jp_H} {k : Int32} : jc_M E l yX2_image wsX2_image ({ frames := 2, cells := 0, slots := 0, locals := 61 } : Room) [.ref (E.2.1 0 0), .int k] h (jp_R (some (.int (jF_image k h).1)) (jF_image k h).2) := by
  refine jc_of (cc := cX2_image) (maxL := 2) (ret := some .int) (own := RX2) (lv := [(0, _), (1, _)]) (by decide) rfl rfl (Nat.le_of_ble_eq_true rfl) rfl (fun X cx => ?_)
  have inX2 : ∀ w ∈ u_ws RX2 TX2 9, w ∈ wsX2_image := by decide +kernel
  have f19 : Cond.fieldLink RX2 19 "JobSpread" "now" "LJobSpread$Net;" ∈ wsX2_image := by decide +kernel
  have f29 : Cond.fieldLink RX2 29 "JobSpread" "kept" "I" ∈ wsX2_image := by decide +kernel
  refine jg_iload_n cx dX2_image_0 rfl ?_
  refine jg_iconst cx (v := nI 0) dX2_image_1 (by decide) ?_
  refine jg_iconst cx (v := nI 1) dX2_image_2 (by decide) ?_
  refine jg_callSi cx (n := 3) (jc_X2_isWithin E l) gX2_image_X2_isWithin rfl ⟨rfl, rfl⟩ ⟨(Nat.le_of_ble_eq_true rfl), (Nat.le_of_ble_eq_true rfl)⟩ (by decide +kernel) rfl rfl (Nat.le_of_ble_eq_true rfl) dX2_image_3 ?_
  refine jg_ifb_ne cx (tgt := 12) dX2_image_6 (by decide) (fun c6 => ?_) (fun c6 => ?_)
  · rcases jf_two_of c6 with rfl | rfl
    · refine jg_aload_n cx dX2_image_12 rfl ?_
      refine jg_iload_n cx dX2_image_13 rfl ?_
      refine jg_callVr cx (n := 1) (jc_X2_imageAt0 E l) gX2_image_X2_imageAt rfl ⟨rfl, rfl⟩ ⟨(Nat.le_of_ble_eq_true rfl), (Nat.le_of_ble_eq_true rfl)⟩ (by decide +kernel) jp_js_o rfl rfl rfl (Nat.le_of_ble_eq_true rfl) dX2_image_14 ?_
      refine jg_aload_n cx dX2_image_17 rfl ?_
      refine jg_get cx jp_js_o rfl inX2 1 (by decide) f19 rfl dX2_image_18 ?_
      refine jg_callVNv cx (n := 1) (jc_X0_become_h E l jp_net3 jp_net2 (by decide)) gX2_image_X0_become_n173 (by decide +kernel) (by decide +kernel) (by decide +kernel) (by decide +kernel) rfl ⟨rfl, rfl⟩ ⟨(Nat.le_of_ble_eq_true rfl), (Nat.le_of_ble_eq_true rfl)⟩ (by decide +kernel) (jp_net_o jp_net3) rfl rfl rfl (Nat.le_of_ble_eq_true rfl) dX2_image_21 ?_
      refine jg_aload_n cx dX2_image_24 rfl ?_
      refine jg_dup cx dX2_image_25 rfl ?_
      refine jg_get cx jp_js_o rfl inX2 4 (by decide) f29 rfl dX2_image_26 ?_
      refine jg_iconst cx (v := 1) dX2_image_29 (by decide) ?_
      refine jg_iload_n cx dX2_image_30 rfl ?_
      refine jg_ishl cx dX2_image_31 ?_
      refine jg_ior cx dX2_image_32 ?_
      refine jg_put cx jp_js_o rfl inX2 tyX2 tyX2_ok nmX2 4 (by decide) f29 rfl (by decide +kernel) (Nat.le_of_ble_eq_true rfl) (jp_put2_4 _ _ _) dX2_image_33 ?_
      refine jg_iconst cx (v := nI 1) dX2_image_36 (by decide) ?_
      exact jg_iret cx dX2_image_37 (⟨by simp only [jF_image, c6, ↓reduceIte], by simp only [jF_image, c6, ↓reduceIte]; rfl⟩)
    · refine jg_aload_n cx dX2_image_12 rfl ?_
      refine jg_iload_n cx dX2_image_13 rfl ?_
      refine jg_callVr cx (n := 1) (jc_X2_imageAt1 E l) gX2_image_X2_imageAt rfl ⟨rfl, rfl⟩ ⟨(Nat.le_of_ble_eq_true rfl), (Nat.le_of_ble_eq_true rfl)⟩ (by decide +kernel) jp_js_o rfl rfl rfl (Nat.le_of_ble_eq_true rfl) dX2_image_14 ?_
      refine jg_aload_n cx dX2_image_17 rfl ?_
      refine jg_get cx jp_js_o rfl inX2 1 (by decide) f19 rfl dX2_image_18 ?_
      refine jg_callVNv cx (n := 1) (jc_X0_become_h E l jp_net4 jp_net2 (by decide)) gX2_image_X0_become_n173 (by decide +kernel) (by decide +kernel) (by decide +kernel) (by decide +kernel) rfl ⟨rfl, rfl⟩ ⟨(Nat.le_of_ble_eq_true rfl), (Nat.le_of_ble_eq_true rfl)⟩ (by decide +kernel) (jp_net_o jp_net4) rfl rfl rfl (Nat.le_of_ble_eq_true rfl) dX2_image_21 ?_
      refine jg_aload_n cx dX2_image_24 rfl ?_
      refine jg_dup cx dX2_image_25 rfl ?_
      refine jg_get cx jp_js_o rfl inX2 4 (by decide) f29 rfl dX2_image_26 ?_
      refine jg_iconst cx (v := 1) dX2_image_29 (by decide) ?_
      refine jg_iload_n cx dX2_image_30 rfl ?_
      refine jg_ishl cx dX2_image_31 ?_
      refine jg_ior cx dX2_image_32 ?_
      refine jg_put cx jp_js_o rfl inX2 tyX2 tyX2_ok nmX2 4 (by decide) f29 rfl (by decide +kernel) (Nat.le_of_ble_eq_true rfl) (jp_put2_4 _ _ _) dX2_image_33 ?_
      refine jg_iconst cx (v := nI 1) dX2_image_36 (by decide) ?_
      exact jg_iret cx dX2_image_37 (⟨by simp only [jF_image, c6, ↓reduceIte], by simp only [jF_image, c6, ↓reduceIte]; rfl⟩)
  · refine jg_bipush cx (v := (-2)) dX2_image_9 (by decide) ?_
    exact jg_iret cx dX2_image_11 (⟨(by first | with_reducible rfl | (simp only [jF_image, c6, ↓reduceIte, Bool.false_eq_true, Bool.true_eq_false, reduceCtorEq, eq_self, if_true, if_false, Bool.not_true, Bool.not_false]; first | done | rfl)), (by first | with_reducible rfl | (simp only [jF_image, c6, ↓reduceIte, Bool.false_eq_true, Bool.true_eq_false, reduceCtorEq, eq_self, if_true, if_false, Bool.not_true, Bool.not_false]; first | done | rfl))⟩)
set_option maxHeartbeats 1000000 in
set_option maxRecDepth 100000 in
theorem jc_X2_restore (E : jp_E) (l : Launch) {h : jp_H} {k : Int32} : jc_M E l yX2_restore wsX2_restore ({ frames := 2, cells := 0, slots := 0, locals := 61 } : Room) [.ref (E.2.1 0 0), .int k] h (jp_R (some (.int (jF_restore k h).1)) (jF_restore k h).2) := by
  refine jc_of (cc := cX2_restore) (maxL := 2) (ret := some .int) (own := RX2) (lv := [(0, _), (1, _)]) (by decide) rfl rfl (Nat.le_of_ble_eq_true rfl) rfl (fun X cx => ?_)
  have inX2 : ∀ w ∈ u_ws RX2 TX2 9, w ∈ wsX2_restore := by decide +kernel
  have f19 : Cond.fieldLink RX2 19 "JobSpread" "now" "LJobSpread$Net;" ∈ wsX2_restore := by decide +kernel
  have f29 : Cond.fieldLink RX2 29 "JobSpread" "kept" "I" ∈ wsX2_restore := by decide +kernel
  refine jg_iload_n cx dX2_restore_0 rfl ?_
  refine jg_iconst cx (v := nI 0) dX2_restore_1 (by decide) ?_
  refine jg_iconst cx (v := nI 1) dX2_restore_2 (by decide) ?_
  refine jg_callSi cx (n := 3) (jc_X2_isWithin E l) gX2_restore_X2_isWithin rfl ⟨rfl, rfl⟩ ⟨(Nat.le_of_ble_eq_true rfl), (Nat.le_of_ble_eq_true rfl)⟩ (by decide +kernel) rfl rfl (Nat.le_of_ble_eq_true rfl) dX2_restore_3 ?_
  refine jg_ifb_ne cx (tgt := 12) dX2_restore_6 (by decide) (fun c6 => ?_) (fun c6 => ?_)
  · rcases jf_two_of c6 with rfl | rfl
    · refine jg_aload_n cx dX2_restore_12 rfl ?_
      refine jg_get cx jp_js_o rfl inX2 4 (by decide) f29 rfl dX2_restore_13 ?_
      refine jg_iconst cx (v := nI 1) dX2_restore_16 (by decide) ?_
      refine jg_iload_n cx dX2_restore_17 rfl ?_
      refine jg_ishl cx dX2_restore_18 ?_
      refine jg_iand cx dX2_restore_19 ?_
      refine jg_if_ne cx (tgt := 26) dX2_restore_20 (by decide) (fun c20 => ?_) (fun c20 => ?_)
      · refine jg_aload_n cx dX2_restore_26 rfl ?_
        refine jg_get cx jp_js_o rfl inX2 1 (by decide) f19 rfl dX2_restore_27 ?_
        refine jg_aload_n cx dX2_restore_30 rfl ?_
        refine jg_iload_n cx dX2_restore_31 rfl ?_
        refine jg_callVr cx (n := 1) (jc_X2_imageAt0 E l) gX2_restore_X2_imageAt rfl ⟨rfl, rfl⟩ ⟨(Nat.le_of_ble_eq_true rfl), (Nat.le_of_ble_eq_true rfl)⟩ (by decide +kernel) jp_js_o rfl rfl rfl (Nat.le_of_ble_eq_true rfl) dX2_restore_32 ?_
        refine jg_callVNv cx (n := 1) (jc_X0_become_h E l jp_net2 jp_net3 (by decide)) gX2_restore_X0_become_n173 (by decide +kernel) (by decide +kernel) (by decide +kernel) (by decide +kernel) rfl ⟨rfl, rfl⟩ ⟨(Nat.le_of_ble_eq_true rfl), (Nat.le_of_ble_eq_true rfl)⟩ (by decide +kernel) (jp_net_o jp_net2) rfl rfl rfl (Nat.le_of_ble_eq_true rfl) dX2_restore_35 ?_
        refine jg_iconst cx (v := nI 1) dX2_restore_38 (by decide) ?_
        exact jg_iret cx dX2_restore_39 (⟨by simp only [jF_restore, c6, c6, if_neg c20, ↓reduceIte], by simp only [jF_restore, c6, c6, if_neg c20, ↓reduceIte]; rfl⟩)
      · refine jg_bipush cx (v := (-3)) dX2_restore_23 (by decide) ?_
        exact jg_iret cx dX2_restore_25 (⟨(by first | with_reducible rfl | (simp only [jF_restore, c6, if_pos c20, ↓reduceIte, Bool.false_eq_true, Bool.true_eq_false, reduceCtorEq, eq_self, if_true, if_false, Bool.not_true, Bool.not_false]; first | done | rfl)), (by first | with_reducible rfl | (simp only [jF_restore, c6, if_pos c20, ↓reduceIte, Bool.false_eq_true, Bool.true_eq_false, reduceCtorEq, eq_self, if_true, if_false, Bool.not_true, Bool.not_false]; first | done | rfl))⟩)
    · refine jg_aload_n cx dX2_restore_12 rfl ?_
      refine jg_get cx jp_js_o rfl inX2 4 (by decide) f29 rfl dX2_restore_13 ?_
      refine jg_iconst cx (v := nI 1) dX2_restore_16 (by decide) ?_
      refine jg_iload_n cx dX2_restore_17 rfl ?_
      refine jg_ishl cx dX2_restore_18 ?_
      refine jg_iand cx dX2_restore_19 ?_
      refine jg_if_ne cx (tgt := 26) dX2_restore_20 (by decide) (fun c20 => ?_) (fun c20 => ?_)
      · refine jg_aload_n cx dX2_restore_26 rfl ?_
        refine jg_get cx jp_js_o rfl inX2 1 (by decide) f19 rfl dX2_restore_27 ?_
        refine jg_aload_n cx dX2_restore_30 rfl ?_
        refine jg_iload_n cx dX2_restore_31 rfl ?_
        refine jg_callVr cx (n := 1) (jc_X2_imageAt1 E l) gX2_restore_X2_imageAt rfl ⟨rfl, rfl⟩ ⟨(Nat.le_of_ble_eq_true rfl), (Nat.le_of_ble_eq_true rfl)⟩ (by decide +kernel) jp_js_o rfl rfl rfl (Nat.le_of_ble_eq_true rfl) dX2_restore_32 ?_
        refine jg_callVNv cx (n := 1) (jc_X0_become_h E l jp_net2 jp_net4 (by decide)) gX2_restore_X0_become_n173 (by decide +kernel) (by decide +kernel) (by decide +kernel) (by decide +kernel) rfl ⟨rfl, rfl⟩ ⟨(Nat.le_of_ble_eq_true rfl), (Nat.le_of_ble_eq_true rfl)⟩ (by decide +kernel) (jp_net_o jp_net2) rfl rfl rfl (Nat.le_of_ble_eq_true rfl) dX2_restore_35 ?_
        refine jg_iconst cx (v := nI 1) dX2_restore_38 (by decide) ?_
        exact jg_iret cx dX2_restore_39 (⟨by simp only [jF_restore, c6, c6, if_neg c20, ↓reduceIte], by simp only [jF_restore, c6, c6, if_neg c20, ↓reduceIte]; rfl⟩)
      · refine jg_bipush cx (v := (-3)) dX2_restore_23 (by decide) ?_
        exact jg_iret cx dX2_restore_25 (⟨(by first | with_reducible rfl | (simp only [jF_restore, c6, if_pos c20, ↓reduceIte, Bool.false_eq_true, Bool.true_eq_false, reduceCtorEq, eq_self, if_true, if_false, Bool.not_true, Bool.not_false]; first | done | rfl)), (by first | with_reducible rfl | (simp only [jF_restore, c6, if_pos c20, ↓reduceIte, Bool.false_eq_true, Bool.true_eq_false, reduceCtorEq, eq_self, if_true, if_false, Bool.not_true, Bool.not_false]; first | done | rfl))⟩)
  · refine jg_bipush cx (v := (-2)) dX2_restore_9 (by decide) ?_
    exact jg_iret cx dX2_restore_11 (⟨(by first | with_reducible rfl | (simp only [jF_restore, c6, ↓reduceIte, Bool.false_eq_true, Bool.true_eq_false, reduceCtorEq, eq_self, if_true, if_false, Bool.not_true, Bool.not_false]; first | done | rfl)), (by first | with_reducible rfl | (simp only [jF_restore, c6, ↓reduceIte, Bool.false_eq_true, Bool.true_eq_false, reduceCtorEq, eq_self, if_true, if_false, Bool.not_true, Bool.not_false]; first | done | rfl))⟩)
def jF_count (w : Int32) (h : jp_H) : Int32 × jp_H := if w = nI 0 then (h.1 2 0 7, h) else if w = nI 1 then (h.1 1 0 1, h) else if w = nI 2 then (h.1 2 0 8, h) else if w = nI 3 then ((jf_sumJ (h.1 2) 8).toInt32 + nI 10000, h) else if w = nI 4 then (jf_measure (h.1 2), h) else if w = nI 5 then (jf_colours (h.1 2), h) else if w = nI 6 then (jf_below (h.1 2) 8, h) else if w = nI 7 then (h.1 0 0 4, h) else (-2, h)
theorem jf_lt8 {w : Int32} (q0 : ¬ w = nI 0) (q1 : ¬ w = nI 1) (q2 : ¬ w = nI 2) (q3 : ¬ w = nI 3) (q4 : ¬ w = nI 4) (q5 : ¬ w = nI 5) (q6 : ¬ w = nI 6) (q7 : ¬ w = nI 7) : ∀ j, j ≤ 7 → ¬ w = nI j := by
  intro j hj
  rcases (show j = 0 ∨ j = 1 ∨ j = 2 ∨ j = 3 ∨ j = 4 ∨ j = 5 ∨ j = 6 ∨ j = 7 by omega) with rfl | rfl | rfl | rfl | rfl | rfl | rfl | rfl <;> assumption
set_option maxHeartbeats 1000000 in
set_option maxRecDepth 100000 in
theorem jc_X2_count (E : jp_E) (l : Launch) {h : jp_H} {w : Int32} : jc_M E l yX2_count wsX2_count ({ frames := 2, cells := 0, slots := 0, locals := 43 } : Room) [.ref (E.2.1 0 0), .int w] h (jp_R (some (.int (jF_count w h).1)) (jF_count w h).2) := by
  refine jc_of (cc := cX2_count) (maxL := 2) (ret := some .int) (own := RX2) (lv := [(0, _), (1, _)]) (by decide) rfl rfl (Nat.le_of_ble_eq_true rfl) rfl (fun X cx => ?_)
  have inX0 : ∀ w ∈ u_ws RX0 TX0 9, w ∈ wsX2_count := by decide +kernel
  have inX1 : ∀ w ∈ u_ws RX1 TX1 2, w ∈ wsX2_count := by decide +kernel
  have inX2 : ∀ w ∈ u_ws RX2 TX2 9, w ∈ wsX2_count := by decide +kernel
  have f10 : Cond.fieldLink RX2 10 "JobSpread" "pad" "LJobSpread$Pad;" ∈ wsX2_count := by decide +kernel
  have f19 : Cond.fieldLink RX2 19 "JobSpread" "now" "LJobSpread$Net;" ∈ wsX2_count := by decide +kernel
  have f29 : Cond.fieldLink RX2 29 "JobSpread" "kept" "I" ∈ wsX2_count := by decide +kernel
  refine jg_iload_n cx dX2_count_0 rfl ?_
  rcases Classical.em (w = nI 0) with q0 | q0
  · subst q0
    refine jg_tableIn cx (off := 47) (tgt := 48) dX2_count_1 (by decide) (by decide) (by decide) (by decide) ?_
    refine jg_aload_n cx dX2_count_48 rfl ?_
    refine jg_get cx jp_js_o rfl inX2 1 (by decide) f19 rfl dX2_count_49 ?_
    refine jg_getN cx (jp_net_o jp_net2) rfl inX0 7 (by decide) (by decide +kernel) rfl dX2_count_52 ?_
    exact jg_iret cx dX2_count_55 (⟨by simp only [jF_count, ↓reduceIte], by simp only [jF_count, ↓reduceIte]⟩)
  · rcases Classical.em (w = nI 1) with q1 | q1
    · subst q1
      refine jg_tableIn cx (off := 55) (tgt := 56) dX2_count_1 (by decide) (by decide) (by decide) (by decide) ?_
      refine jg_aload_n cx dX2_count_56 rfl ?_
      refine jg_get cx jp_js_o rfl inX2 0 (by decide) f10 rfl dX2_count_57 ?_
      refine jg_getN cx jp_pad_o rfl inX1 1 (by decide) (by decide +kernel) rfl dX2_count_60 ?_
      exact jg_iret cx dX2_count_63 (⟨by simp only [jF_count, if_neg (show ¬ nI 1 = nI 0 by decide), ↓reduceIte], by simp only [jF_count, if_neg (show ¬ nI 1 = nI 0 by decide), ↓reduceIte]⟩)
    · rcases Classical.em (w = nI 2) with q2 | q2
      · subst q2
        refine jg_tableIn cx (off := 63) (tgt := 64) dX2_count_1 (by decide) (by decide) (by decide) (by decide) ?_
        refine jg_aload_n cx dX2_count_64 rfl ?_
        refine jg_get cx jp_js_o rfl inX2 1 (by decide) f19 rfl dX2_count_65 ?_
        refine jg_getN cx (jp_net_o jp_net2) rfl inX0 8 (by decide) (by decide +kernel) rfl dX2_count_68 ?_
        exact jg_iret cx dX2_count_71 (⟨by simp only [jF_count, if_neg (show ¬ nI 2 = nI 0 by decide), if_neg (show ¬ nI 2 = nI 1 by decide), ↓reduceIte], by simp only [jF_count, if_neg (show ¬ nI 2 = nI 0 by decide), if_neg (show ¬ nI 2 = nI 1 by decide), ↓reduceIte]⟩)
      · rcases Classical.em (w = nI 3) with q3 | q3
        · subst q3
          refine jg_tableIn cx (off := 71) (tgt := 72) dX2_count_1 (by decide) (by decide) (by decide) (by decide) ?_
          refine jg_aload_n cx dX2_count_72 rfl ?_
          refine jg_get cx jp_js_o rfl inX2 1 (by decide) f19 rfl dX2_count_73 ?_
          refine jg_callVNl cx (n := 0) (jc_X0_allJobs_h E l jp_net2 ) gX2_count_X0_allJobs_n145 (by decide +kernel) (by decide +kernel) (by decide +kernel) (by decide +kernel) rfl ⟨rfl, rfl⟩ ⟨(Nat.le_of_ble_eq_true rfl), (Nat.le_of_ble_eq_true rfl)⟩ (by decide +kernel) (jp_net_o jp_net2) rfl rfl rfl (Nat.le_of_ble_eq_true rfl) dX2_count_76 ?_
          refine jg_l2i cx dX2_count_79 ?_
          refine jg_sipush cx (v := nI 10000) dX2_count_80 (by decide) ?_
          refine jg_iadd cx dX2_count_83 ?_
          exact jg_iret cx dX2_count_84 (⟨by simp only [jF_count, if_neg (show ¬ nI 3 = nI 0 by decide), if_neg (show ¬ nI 3 = nI 1 by decide), if_neg (show ¬ nI 3 = nI 2 by decide), ↓reduceIte], by simp only [jF_count, if_neg (show ¬ nI 3 = nI 0 by decide), if_neg (show ¬ nI 3 = nI 1 by decide), if_neg (show ¬ nI 3 = nI 2 by decide), ↓reduceIte]⟩)
        · rcases Classical.em (w = nI 4) with q4 | q4
          · subst q4
            refine jg_tableIn cx (off := 84) (tgt := 85) dX2_count_1 (by decide) (by decide) (by decide) (by decide) ?_
            refine jg_aload_n cx dX2_count_85 rfl ?_
            refine jg_get cx jp_js_o rfl inX2 1 (by decide) f19 rfl dX2_count_86 ?_
            refine jg_callVNi cx (n := 0) (jc_X0_measure_h E l jp_net2 ) gX2_count_X0_measure_n161 (by decide +kernel) (by decide +kernel) (by decide +kernel) (by decide +kernel) rfl ⟨rfl, rfl⟩ ⟨(Nat.le_of_ble_eq_true rfl), (Nat.le_of_ble_eq_true rfl)⟩ (by decide +kernel) (jp_net_o jp_net2) rfl rfl rfl (Nat.le_of_ble_eq_true rfl) dX2_count_89 ?_
            exact jg_iret cx dX2_count_92 (⟨by simp only [jF_count, if_neg (show ¬ nI 4 = nI 0 by decide), if_neg (show ¬ nI 4 = nI 1 by decide), if_neg (show ¬ nI 4 = nI 2 by decide), if_neg (show ¬ nI 4 = nI 3 by decide), ↓reduceIte], by simp only [jF_count, if_neg (show ¬ nI 4 = nI 0 by decide), if_neg (show ¬ nI 4 = nI 1 by decide), if_neg (show ¬ nI 4 = nI 2 by decide), if_neg (show ¬ nI 4 = nI 3 by decide), ↓reduceIte]⟩)
          · rcases Classical.em (w = nI 5) with q5 | q5
            · subst q5
              refine jg_tableIn cx (off := 92) (tgt := 93) dX2_count_1 (by decide) (by decide) (by decide) (by decide) ?_
              refine jg_aload_n cx dX2_count_93 rfl ?_
              refine jg_get cx jp_js_o rfl inX2 1 (by decide) f19 rfl dX2_count_94 ?_
              refine jg_callVNi cx (n := 0) (jc_X0_colours_h E l jp_net2 ) gX2_count_X0_colours_n194 (by decide +kernel) (by decide +kernel) (by decide +kernel) (by decide +kernel) rfl ⟨rfl, rfl⟩ ⟨(Nat.le_of_ble_eq_true rfl), (Nat.le_of_ble_eq_true rfl)⟩ (by decide +kernel) (jp_net_o jp_net2) rfl rfl rfl (Nat.le_of_ble_eq_true rfl) dX2_count_97 ?_
              exact jg_iret cx dX2_count_100 (⟨by simp only [jF_count, if_neg (show ¬ nI 5 = nI 0 by decide), if_neg (show ¬ nI 5 = nI 1 by decide), if_neg (show ¬ nI 5 = nI 2 by decide), if_neg (show ¬ nI 5 = nI 3 by decide), if_neg (show ¬ nI 5 = nI 4 by decide), ↓reduceIte], by simp only [jF_count, if_neg (show ¬ nI 5 = nI 0 by decide), if_neg (show ¬ nI 5 = nI 1 by decide), if_neg (show ¬ nI 5 = nI 2 by decide), if_neg (show ¬ nI 5 = nI 3 by decide), if_neg (show ¬ nI 5 = nI 4 by decide), ↓reduceIte]⟩)
            · rcases Classical.em (w = nI 6) with q6 | q6
              · subst q6
                refine jg_tableIn cx (off := 100) (tgt := 101) dX2_count_1 (by decide) (by decide) (by decide) (by decide) ?_
                refine jg_aload_n cx dX2_count_101 rfl ?_
                refine jg_get cx jp_js_o rfl inX2 1 (by decide) f19 rfl dX2_count_102 ?_
                refine jg_callVNi cx (n := 0) (jc_X0_nodesBelowZero_h E l jp_net2 ) gX2_count_X0_nodesBelowZero_n156 (by decide +kernel) (by decide +kernel) (by decide +kernel) (by decide +kernel) rfl ⟨rfl, rfl⟩ ⟨(Nat.le_of_ble_eq_true rfl), (Nat.le_of_ble_eq_true rfl)⟩ (by decide +kernel) (jp_net_o jp_net2) rfl rfl rfl (Nat.le_of_ble_eq_true rfl) dX2_count_105 ?_
                exact jg_iret cx dX2_count_108 (⟨by simp only [jF_count, if_neg (show ¬ nI 6 = nI 0 by decide), if_neg (show ¬ nI 6 = nI 1 by decide), if_neg (show ¬ nI 6 = nI 2 by decide), if_neg (show ¬ nI 6 = nI 3 by decide), if_neg (show ¬ nI 6 = nI 4 by decide), if_neg (show ¬ nI 6 = nI 5 by decide), ↓reduceIte], by simp only [jF_count, if_neg (show ¬ nI 6 = nI 0 by decide), if_neg (show ¬ nI 6 = nI 1 by decide), if_neg (show ¬ nI 6 = nI 2 by decide), if_neg (show ¬ nI 6 = nI 3 by decide), if_neg (show ¬ nI 6 = nI 4 by decide), if_neg (show ¬ nI 6 = nI 5 by decide), ↓reduceIte]⟩)
              · rcases Classical.em (w = nI 7) with q7 | q7
                · subst q7
                  refine jg_tableIn cx (off := 108) (tgt := 109) dX2_count_1 (by decide) (by decide) (by decide) (by decide) ?_
                  refine jg_aload_n cx dX2_count_109 rfl ?_
                  refine jg_get cx jp_js_o rfl inX2 4 (by decide) f29 rfl dX2_count_110 ?_
                  exact jg_iret cx dX2_count_113 (⟨by simp only [jF_count, if_neg (show ¬ nI 7 = nI 0 by decide), if_neg (show ¬ nI 7 = nI 1 by decide), if_neg (show ¬ nI 7 = nI 2 by decide), if_neg (show ¬ nI 7 = nI 3 by decide), if_neg (show ¬ nI 7 = nI 4 by decide), if_neg (show ¬ nI 7 = nI 5 by decide), if_neg (show ¬ nI 7 = nI 6 by decide), ↓reduceIte], by simp only [jF_count, if_neg (show ¬ nI 7 = nI 0 by decide), if_neg (show ¬ nI 7 = nI 1 by decide), if_neg (show ¬ nI 7 = nI 2 by decide), if_neg (show ¬ nI 7 = nI 3 by decide), if_neg (show ¬ nI 7 = nI 4 by decide), if_neg (show ¬ nI 7 = nI 5 by decide), if_neg (show ¬ nI 7 = nI 6 by decide), ↓reduceIte]⟩)
                · refine jg_tableOut cx (tgt := 114) dX2_count_1 (jf_out w 7 (by decide) (jf_lt8 q0 q1 q2 q3 q4 q5 q6 q7)) (by decide) ?_
                  refine jg_bipush cx (v := (-2)) dX2_count_114 (by decide) ?_
                  exact jg_iret cx dX2_count_116 (⟨by simp only [jF_count, if_neg q0, if_neg q1, if_neg q2, if_neg q3, if_neg q4, if_neg q5, if_neg q6, if_neg q7], by simp only [jF_count, if_neg q0, if_neg q1, if_neg q2, if_neg q3, if_neg q4, if_neg q5, if_neg q6, if_neg q7]⟩)
