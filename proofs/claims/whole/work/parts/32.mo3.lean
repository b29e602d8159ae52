/-! ===== the model, exchange, rotor, rounds ===== -/
def jk_ok (M : jf_B) : Prop := ∀ a c, a < 8 → c < 8 → ¬ M 1 (0 + a) + M 1 (0 + c) = 0
theorem jk_ok_of {M M' : jf_B} (h : jk_ok M) (hs : ∀ j, j < 8 → M' 1 j = M 1 j) : jk_ok M' := by
  intro a c ha hc
  rw [hs (0 + a) (by omega), hs (0 + c) (by omega)]
  exact h a c ha hc
theorem jk_evM_sp (M : jf_B) (a c : Nat) {j : Nat} (hj : j < 8) : jk_evM M a c 1 j = M 1 j := by
  unfold jk_evM
  rw [jf_w_n _ _ (by omega), jf_w_n _ _ (by omega)]
def jk_exS (tu : Int32) (i : Nat) (S : jf_B × Int32) : jf_B × Int32 := if S.1 1 (24 + i) = tu then (jk_evM S.1 (i / 8) (i % 8), S.2 + jk_evR S.1 (i / 8) (i % 8)) else (S.1, S.2 + nI 0)
theorem jk_exS_sp (tu : Int32) (i : Nat) (S : jf_B × Int32) {j : Nat} (hj : j < 8) : (jk_exS tu i S).1 1 j = S.1 1 j := by
  unfold jk_exS
  split
  · exact jk_evM_sp _ _ _ hj
  · rfl
def jk_turn (M : jf_B) : Int32 := jf_rem (M 1 152) (jk_col M)
def jk_exT (M : jf_B) (i : Nat) : jf_B × Int32 := jf_it (jk_exS (jk_turn M)) (M, nI 0) i
theorem jk_exT_s (M : jf_B) (i : Nat) : jk_exT M (i + 1) = jk_exS (jk_turn M) i (jk_exT M i) := rfl
theorem jk_exT_sp (M : jf_B) (i : Nat) {j : Nat} (hj : j < 8) : (jk_exT M i).1 1 j = M 1 j := jf_it_row (fun S : jf_B × Int32 => S.1 1 j) (fun i S => jk_exS_sp _ i S hj) _ i
theorem jk_exT_ok {M : jf_B} (h : jk_ok M) (i : Nat) : jk_ok (jk_exT M i).1 := jk_ok_of h (fun j hj => jk_exT_sp M i hj)
def jk_exch (M : jf_B) : jf_B × Int32 := jk_exT M 64
set_option maxHeartbeats 1000000 in
set_option maxRecDepth 100000 in
theorem jc_X3_exchange (E : jp_E) (l : Launch) {h : jp_H} {M : jf_B} {L : jf_L} (hok : jk_ok M) : jc_M E l yX3_exchange wsX3_exchange ({ frames := 2, cells := 0, slots := 0, locals := 51 } : Room) [.ref (E.2.1 7 0)] (jp_u h 7 M L) (jp_R (some (.int ((jk_exch M).2))) (jp_u h 7 ((jk_exch M).1) L)) := by
  refine jc_of (cc := cX3_exchange) (maxL := 4) (ret := some .int) (own := RX3) (lv := [(0, _)]) (by decide) rfl rfl (Nat.le_of_ble_eq_true rfl) rfl (fun X cx => ?_)
  have inX3 : ∀ w ∈ u_ws RX3 TX3 11, w ∈ wsX3_exchange := by decide +kernel
  have f7 : Cond.fieldLink RX3 7 "JobSpreadModel" "state" "[I" ∈ wsX3_exchange := by decide +kernel
  refine jg_aload_n cx dX3_exchange_0 rfl ?_
  refine jg_get cx jp_mo_o rfl inX3 0 (by decide) f7 rfl dX3_exchange_1 ?_
  refine jg_sipush cx (v := nI 152) dX3_exchange_4 (by decide) ?_
  refine jg_ialdU cx dX3_exchange_7 (jp_mo_1) rfl (by omega) ?_
  refine jg_aload_n cx dX3_exchange_8 rfl ?_
  refine jg_callVi cx (n := 0) (jc_X3_colours E l) gX3_exchange_X3_colours rfl ⟨rfl, rfl⟩ ⟨(Nat.le_of_ble_eq_true rfl), (Nat.le_of_ble_eq_true rfl)⟩ (by decide +kernel) jp_mo_o rfl rfl rfl (Nat.le_of_ble_eq_true rfl) dX3_exchange_9 ?_
  refine jg_irem cx dX3_exchange_12 (jk_col_ne M) ?_
  change X _ _ (.int (jk_turn M) :: []) _
  refine jg_istore_n cx (lv' := [(0, _), (1, _)]) dX3_exchange_13 (by decide) rfl ?_
  refine jg_iconst cx (v := nI 0) dX3_exchange_14 (by decide) ?_
  refine jg_istore_n cx (lv' := [(0, _), (1, _), (2, _)]) dX3_exchange_15 (by decide) rfl ?_
  refine jg_iconst cx (v := nI 0) dX3_exchange_16 (by decide) ?_
  refine jg_istore_n cx (lv' := [(0, _), (1, _), (2, _), (3, _)]) dX3_exchange_17 (by decide) rfl ?_
  have lp18 : ∀ (d18 i : Nat), i + d18 = 64 → X 18 [(0, .ref (E.2.1 7 0)), (1, .int (jk_turn M)), (2, .int (jk_exT M i).2), (3, .int (nI i))] [] (jp_u h 7 (jk_exT M i).1 L) := by
    intro d18
    induction d18 with
    | zero =>
      intro i  hr18 
      obtain rfl : i = 64 := by omega
      refine jg_iload_n cx dX3_exchange_18 rfl ?_
      refine jg_bipush cx (v := nI 64) dX3_exchange_19 (by decide) ?_
      refine jg_icmpN_ge cx (tgt := 62) dX3_exchange_21 (by decide) (by omega) (by omega) (fun c21 => ?_) (fun c21 => ?_)
      · refine jg_iload_n cx dX3_exchange_62 rfl ?_
        exact jg_iret cx dX3_exchange_63 (⟨(by first | with_reducible rfl | (simp only [jk_exch, ↓reduceIte, Bool.false_eq_true, Bool.true_eq_false, reduceCtorEq, eq_self, if_true, if_false, Bool.not_true, Bool.not_false]; first | done | rfl)), (by first | with_reducible rfl | (simp only [jk_exch, ↓reduceIte, Bool.false_eq_true, Bool.true_eq_false, reduceCtorEq, eq_self, if_true, if_false, Bool.not_true, Bool.not_false]; first | done | rfl))⟩)
      · exact absurd hr18 (by omega)
    | succ d18 ih18 =>
      intro i  hr18 
      refine jg_iload_n cx dX3_exchange_18 rfl ?_
      refine jg_bipush cx (v := nI 64) dX3_exchange_19 (by decide) ?_
      refine jg_icmpN_ge cx (tgt := 62) dX3_exchange_21 (by decide) (by omega) (by omega) (fun c21 => ?_) (fun c21 => ?_)
      · exact absurd hr18 (by omega)
      · refine jg_iload_n cx dX3_exchange_24 rfl ?_
        refine jg_aload_n cx dX3_exchange_25 rfl ?_
        refine jg_get cx jp_mo_o rfl inX3 0 (by decide) f7 rfl dX3_exchange_26 ?_
        refine jg_bipush cx (v := nI 24) dX3_exchange_29 (by decide) ?_
        refine jg_iload_n cx dX3_exchange_31 rfl ?_
        refine jg_iaddN cx dX3_exchange_32 ?_
        refine jg_ialdU cx dX3_exchange_33 (jp_mo_1) rfl (by omega) ?_
        refine jg_iload_n cx dX3_exchange_34 rfl ?_
        refine jg_icmp_ne cx (tgt := 53) dX3_exchange_35 (by decide) (fun c35 => ?_) (fun c35 => ?_)
        · refine jg_iconst cx (v := nI 0) dX3_exchange_53 (by decide) ?_
          refine jg_iadd cx dX3_exchange_54 ?_
          refine jg_istore_n cx (lv' := [(0, _), (1, _), (2, _), (3, _)]) dX3_exchange_55 (by decide) rfl ?_
          refine jg_iincN cx (d := 1) (lv' := [(0, _), (1, _), (2, _), (3, _)]) dX3_exchange_56 rfl (by decide) (by decide) rfl ?_
          refine jg_goto cx (tgt := 18) dX3_exchange_59 (by decide) ?_
          exact jg_to (ih18 (i + 1)  (by omega) ) (by first | with_reducible rfl | (simp only [jk_exT_s, jk_exS, if_neg c35, ↓reduceIte, Bool.false_eq_true, Bool.true_eq_false, reduceCtorEq, eq_self, if_true, if_false, Bool.not_true, Bool.not_false]; first | done | rfl)) (by first | with_reducible rfl | (simp only [jk_exT_s, jk_exS, if_neg c35, ↓reduceIte, Bool.false_eq_true, Bool.true_eq_false, reduceCtorEq, eq_self, if_true, if_false, Bool.not_true, Bool.not_false]; first | done | rfl)) (by first | with_reducible rfl | (simp only [jk_exT_s, jk_exS, if_neg c35, ↓reduceIte, Bool.false_eq_true, Bool.true_eq_false, reduceCtorEq, eq_self, if_true, if_false, Bool.not_true, Bool.not_false]; first | done | rfl))
        · refine jg_aload_n cx dX3_exchange_38 rfl ?_
          refine jg_iload_n cx dX3_exchange_39 rfl ?_
          refine jg_bipush cx (v := nI 8) dX3_exchange_40 (by decide) ?_
          refine jg_idivN cx dX3_exchange_42 (by omega) (by omega) (by omega) ?_
          refine jg_iload_n cx dX3_exchange_43 rfl ?_
          refine jg_bipush cx (v := nI 8) dX3_exchange_44 (by decide) ?_
          refine jg_iremN cx dX3_exchange_46 (by omega) (by omega) (by omega) ?_
          refine jg_callVi cx (n := 2) (jc_X3_even E l (by omega) (by omega) (jk_exT_ok hok i _ _ (by omega) (by omega))) gX3_exchange_X3_even rfl ⟨rfl, rfl⟩ ⟨(Nat.le_of_ble_eq_true rfl), (Nat.le_of_ble_eq_true rfl)⟩ (by decide +kernel) jp_mo_o rfl rfl rfl (Nat.le_of_ble_eq_true rfl) dX3_exchange_47 ?_
          refine jg_goto cx (tgt := 54) dX3_exchange_50 (by decide) ?_
          refine jg_iadd cx dX3_exchange_54 ?_
          refine jg_istore_n cx (lv' := [(0, _), (1, _), (2, _), (3, _)]) dX3_exchange_55 (by decide) rfl ?_
          refine jg_iincN cx (d := 1) (lv' := [(0, _), (1, _), (2, _), (3, _)]) dX3_exchange_56 rfl (by decide) (by decide) rfl ?_
          refine jg_goto cx (tgt := 18) dX3_exchange_59 (by decide) ?_
          exact jg_to (ih18 (i + 1)  (by omega) ) (by first | with_reducible rfl | (simp only [jk_exT_s, jk_exS, if_pos c35, ↓reduceIte, Bool.false_eq_true, Bool.true_eq_false, reduceCtorEq, eq_self, if_true, if_false, Bool.not_true, Bool.not_false]; first | done | rfl)) (by first | with_reducible rfl | (simp only [jk_exT_s, jk_exS, if_pos c35, ↓reduceIte, Bool.false_eq_true, Bool.true_eq_false, reduceCtorEq, eq_self, if_true, if_false, Bool.not_true, Bool.not_false]; first | done | rfl)) (by first | with_reducible rfl | (simp only [jk_exT_s, jk_exS, if_pos c35, ↓reduceIte, Bool.false_eq_true, Bool.true_eq_false, reduceCtorEq, eq_self, if_true, if_false, Bool.not_true, Bool.not_false]; first | done | rfl))
  exact jg_to (lp18 64 0  (by omega) ) rfl rfl rfl
def jk_dG (sl ea re fr slot : Int32) : Int32 := if re ≤ jf_rem (slot - fr + sl) sl then ea + nI 0 else ea + nI 1
def jk_dS (sl ea re fr : Int32) (n k : Nat) (T : jf_B × Int32 × Int32) : jf_B × Int32 × Int32 :=
  if k = 8 then (jf_w T.1 5 n (T.1 5 n + jk_dG sl ea re fr T.2.2), T.2.1 + nI 0, T.2.2 + nI 1)
  else if jk_edge T.1 n k then (jf_w T.1 5 k (T.1 5 k + jk_dG sl ea re fr T.2.2), T.2.1 + jk_dG sl ea re fr T.2.2, T.2.2 + nI 1) else T
def jk_dT (M : jf_B) (n k : Nat) : jf_B × Int32 × Int32 := jf_it (jk_dS (nI (jk_deg M n 8 + 1)) (M 1 (8 + n) / nI (jk_deg M n 8 + 1)) (jf_rem (M 1 (8 + n)) (nI (jk_deg M n 8 + 1))) (jk_rlo M n) n) (M, nI 0, nI 0) k
theorem jk_dT_s (M : jf_B) (n k : Nat) : jk_dT M n (k + 1) = jk_dS (nI (jk_deg M n 8 + 1)) (M 1 (8 + n) / nI (jk_deg M n 8 + 1)) (jf_rem (M 1 (8 + n)) (nI (jk_deg M n 8 + 1))) (jk_rlo M n) n k (jk_dT M n k) := rfl
def jk_deal (M : jf_B) (n : Nat) : jf_B × Int32 := (jf_w (jk_dT M n 9).1 1 (16 + n) (jf_rem (jk_rlo M n + jf_rem (M 1 (8 + n)) (nI (jk_deg M n 8 + 1))) (nI (jk_deg M n 8 + 1))), (jk_dT M n 9).2.1)
set_option maxHeartbeats 1000000 in
set_option maxRecDepth 100000 in
theorem jc_X3_deal (E : jp_E) (l : Launch) {h : jp_H} {M : jf_B} {L : jf_L} {n : Nat} (hn : n < 8) : jc_M E l yX3_deal wsX3_deal ({ frames := 3, cells := 0, slots := 0, locals := 66 } : Room) [.ref (E.2.1 7 0), .int (nI n)] (jp_u h 7 M L) (jp_R (some (.int ((jk_deal M n).2))) (jp_u h 7 ((jk_deal M n).1) L)) := by
  refine jc_of (cc := cX3_deal) (maxL := 11) (ret := some .int) (own := RX3) (lv := [(0, _), (1, _)]) (by decide) rfl rfl (Nat.le_of_ble_eq_true rfl) rfl (fun X cx => ?_)
  have inX3 : ∀ w ∈ u_ws RX3 TX3 11, w ∈ wsX3_deal := by decide +kernel
  have f7 : Cond.fieldLink RX3 7 "JobSpreadModel" "state" "[I" ∈ wsX3_deal := by decide +kernel
  have f23 : Cond.fieldLink RX3 23 "JobSpreadModel" "next" "[I" ∈ wsX3_deal := by decide +kernel
  refine jg_aload_n cx dX3_deal_0 rfl ?_
  refine jg_iload_n cx dX3_deal_1 rfl ?_
  refine jg_callVi cx (n := 1) (jc_X3_edgesOf E l (by omega)) gX3_deal_X3_edgesOf rfl ⟨rfl, rfl⟩ ⟨(Nat.le_of_ble_eq_true rfl), (Nat.le_of_ble_eq_true rfl)⟩ (by decide +kernel) jp_mo_o rfl rfl rfl (Nat.le_of_ble_eq_true rfl) dX3_deal_2 ?_
  refine jg_iconst cx (v := nI 1) dX3_deal_5 (by decide) ?_
  refine jg_iaddN cx dX3_deal_6 ?_
  refine jg_istore_n cx (lv' := [(0, _), (1, _), (2, _)]) dX3_deal_7 (by decide) rfl ?_
  refine jg_aload_n cx dX3_deal_8 rfl ?_
  refine jg_get cx jp_mo_o rfl inX3 0 (by decide) f7 rfl dX3_deal_9 ?_
  refine jg_bipush cx (v := nI 8) dX3_deal_12 (by decide) ?_
  refine jg_iload_n cx dX3_deal_14 rfl ?_
  refine jg_iaddN cx dX3_deal_15 ?_
  refine jg_ialdU cx dX3_deal_16 (jp_mo_1) rfl (by omega) ?_
  refine jg_iload_n cx dX3_deal_17 rfl ?_
  refine jg_idiv cx dX3_deal_18 (jk_sl_ne M n) ?_
  refine jg_istore_n cx (lv' := [(0, _), (1, _), (2, _), (3, _)]) dX3_deal_19 (by decide) rfl ?_
  refine jg_aload_n cx dX3_deal_20 rfl ?_
  refine jg_get cx jp_mo_o rfl inX3 0 (by decide) f7 rfl dX3_deal_21 ?_
  refine jg_bipush cx (v := nI 8) dX3_deal_24 (by decide) ?_
  refine jg_iload_n cx dX3_deal_26 rfl ?_
  refine jg_iaddN cx dX3_deal_27 ?_
  refine jg_ialdU cx dX3_deal_28 (jp_mo_1) rfl (by omega) ?_
  refine jg_iload_n cx dX3_deal_29 rfl ?_
  refine jg_irem cx dX3_deal_30 (jk_sl_ne M n) ?_
  refine jg_istore cx (lv' := [(0, _), (1, _), (2, _), (3, _), (4, _)]) dX3_deal_31 (by decide) rfl ?_
  refine jg_aload_n cx dX3_deal_33 rfl ?_
  refine jg_get cx jp_mo_o rfl inX3 0 (by decide) f7 rfl dX3_deal_34 ?_
  refine jg_bipush cx (v := nI 16) dX3_deal_37 (by decide) ?_
  refine jg_iload_n cx dX3_deal_39 rfl ?_
  refine jg_iaddN cx dX3_deal_40 ?_
  refine jg_ialdU cx dX3_deal_41 (jp_mo_1) rfl (by omega) ?_
  refine jg_iload_n cx dX3_deal_42 rfl ?_
  refine jg_irem cx dX3_deal_43 (jk_sl_ne M n) ?_
  refine jg_istore cx (lv' := [(0, _), (1, _), (2, _), (3, _), (4, _), (5, _)]) dX3_deal_44 (by decide) rfl ?_
  refine jg_iconst cx (v := nI 0) dX3_deal_46 (by decide) ?_
  refine jg_istore cx (lv' := [(0, _), (1, _), (2, _), (3, _), (4, _), (5, _), (6, _)]) dX3_deal_47 (by decide) rfl ?_
  refine jg_iconst cx (v := nI 0) dX3_deal_49 (by decide) ?_
  refine jg_istore cx (lv' := [(0, _), (1, _), (2, _), (3, _), (4, _), (5, _), (6, _), (7, _)]) dX3_deal_50 (by decide) rfl ?_
  refine jg_iconst cx (v := nI 0) dX3_deal_52 (by decide) ?_
  refine jg_istore cx (lv' := [(0, _), (1, _), (2, _), (3, _), (4, _), (5, _), (6, _), (7, _), (8, _)]) dX3_deal_53 (by decide) rfl ?_
  have lp55 : ∀ (d55 k : Nat), k + d55 = 9 → X 55 [(0, .ref (E.2.1 7 0)), (1, .int (nI n)), (2, .int (nI (jk_deg M n 8 + 1))), (3, .int (M 1 (8 + n) / nI (jk_deg M n 8 + 1))), (4, .int (jf_rem (M 1 (8 + n)) (nI (jk_deg M n 8 + 1)))), (5, .int (jk_rlo M n)), (6, .int (jk_dT M n k).2.1), (7, .int (jk_dT M n k).2.2), (8, .int (nI k))] [] (jp_u h 7 (jk_dT M n k).1 L) := by
    intro d55
    induction d55 with
    | zero =>
      intro k  hr55 
      obtain rfl : k = 9 := by omega
      refine jg_iload cx dX3_deal_55 rfl ?_
      refine jg_bipush cx (v := nI 8) dX3_deal_57 (by decide) ?_
      refine jg_icmpN_gt cx (tgt := 160) dX3_deal_59 (by decide) (by omega) (by omega) (fun c59 => ?_) (fun c59 => ?_)
      · refine jg_aload_n cx dX3_deal_160 rfl ?_
        refine jg_get cx jp_mo_o rfl inX3 0 (by decide) f7 rfl dX3_deal_161 ?_
        refine jg_bipush cx (v := nI 16) dX3_deal_164 (by decide) ?_
        refine jg_iload_n cx dX3_deal_166 rfl ?_
        refine jg_iaddN cx dX3_deal_167 ?_
        refine jg_iload cx dX3_deal_168 rfl ?_
        refine jg_iload cx dX3_deal_170 rfl ?_
        refine jg_iadd cx dX3_deal_172 ?_
        refine jg_iload_n cx dX3_deal_173 rfl ?_
        refine jg_irem cx dX3_deal_174 (jk_sl_ne M n) ?_
        refine jg_iastU cx dX3_deal_175 (jp_mo_1) rfl (by omega) ?_
        refine jg_iload cx dX3_deal_176 rfl ?_
        exact jg_iret cx dX3_deal_178 (⟨(by first | with_reducible rfl | (simp only [jk_deal, ↓reduceIte, Bool.false_eq_true, Bool.true_eq_false, reduceCtorEq, eq_self, if_true, if_false, Bool.not_true, Bool.not_false]; first | done | rfl)), (by first | with_reducible rfl | (simp only [jk_deal, ↓reduceIte, Bool.false_eq_true, Bool.true_eq_false, reduceCtorEq, eq_self, if_true, if_false, Bool.not_true, Bool.not_false]; first | done | rfl))⟩)
      · exact absurd hr55 (by omega)
    | succ d55 ih55 =>
      intro k  hr55 
      refine jg_iload cx dX3_deal_55 rfl ?_
      refine jg_bipush cx (v := nI 8) dX3_deal_57 (by decide) ?_
      refine jg_icmpN_gt cx (tgt := 160) dX3_deal_59 (by decide) (by omega) (by omega) (fun c59 => ?_) (fun c59 => ?_)
      · exact absurd hr55 (by omega)
      · refine jg_iload cx dX3_deal_62 rfl ?_
        refine jg_bipush cx (v := nI 8) dX3_deal_64 (by decide) ?_
        refine jg_icmpN_ne cx (tgt := 73) dX3_deal_66 (by decide) (by omega) (by omega) (fun c66 => ?_) (fun c66 => ?_)
        · refine jg_iconst cx (v := jp_b false) dX3_deal_73 (by decide) ?_
          refine jg_istore cx (lv' := [(0, _), (1, _), (2, _), (3, _), (4, _), (5, _), (6, _), (7, _), (8, _), (9, _)]) dX3_deal_74 (by decide) rfl ?_
          refine jg_iload cx dX3_deal_76 rfl ?_
          refine jg_ifb_ne cx (tgt := 91) dX3_deal_78 (by decide) (fun c78 => ?_) (fun c78 => ?_)
          · exact absurd c78 (by decide)
          · refine jg_aload_n cx dX3_deal_81 rfl ?_
            refine jg_iload_n cx dX3_deal_82 rfl ?_
            refine jg_iload cx dX3_deal_83 rfl ?_
            refine jg_callVi cx (n := 2) (jc_X3_isEdge E l (by omega) (by omega)) gX3_deal_X3_isEdge rfl ⟨rfl, rfl⟩ ⟨(Nat.le_of_ble_eq_true rfl), (Nat.le_of_ble_eq_true rfl)⟩ (by decide +kernel) jp_mo_o rfl rfl rfl (Nat.le_of_ble_eq_true rfl) dX3_deal_85 ?_
            refine jg_ifb_eq cx (tgt := 154) dX3_deal_88 (by decide) (fun c88 => ?_) (fun c88 => ?_)
            · refine jg_iincN cx (d := 1) (lv' := [(0, _), (1, _), (2, _), (3, _), (4, _), (5, _), (6, _), (7, _), (8, _), (9, _)]) dX3_deal_154 rfl (by decide) (by decide) rfl ?_
              refine jg_goto cx (tgt := 55) dX3_deal_157 (by decide) ?_
              refine jg_sub cx (lv' := [(0, _), (1, _), (2, _), (3, _), (4, _), (5, _), (6, _), (7, _), (8, _)]) [0, 1, 2, 3, 4, 5, 6, 7, 8] rfl ?_
              exact jg_to (ih55 (k + 1)  (by omega) ) (by first | with_reducible rfl | (simp only [jk_dT_s, jk_dS, jk_dG, if_neg c66, c88, ↓reduceIte, Bool.false_eq_true, Bool.true_eq_false, reduceCtorEq, eq_self, if_true, if_false, Bool.not_true, Bool.not_false]; first | done | rfl)) (by first | with_reducible rfl | (simp only [jk_dT_s, jk_dS, jk_dG, if_neg c66, c88, ↓reduceIte, Bool.false_eq_true, Bool.true_eq_false, reduceCtorEq, eq_self, if_true, if_false, Bool.not_true, Bool.not_false]; first | done | rfl)) (by first | with_reducible rfl | (simp only [jk_dT_s, jk_dS, jk_dG, if_neg c66, c88, ↓reduceIte, Bool.false_eq_true, Bool.true_eq_false, reduceCtorEq, eq_self, if_true, if_false, Bool.not_true, Bool.not_false]; first | done | rfl))
            · refine jg_iload_n cx dX3_deal_91 rfl ?_
              refine jg_iload cx dX3_deal_92 rfl ?_
              refine jg_iload cx dX3_deal_94 rfl ?_
              refine jg_isub cx dX3_deal_96 ?_
              refine jg_iload_n cx dX3_deal_97 rfl ?_
              refine jg_iadd cx dX3_deal_98 ?_
              refine jg_iload_n cx dX3_deal_99 rfl ?_
              refine jg_irem cx dX3_deal_100 (jk_sl_ne M n) ?_
              refine jg_iload cx dX3_deal_101 rfl ?_
              refine jg_icmp_ge cx (tgt := 110) dX3_deal_103 (by decide) (fun c103 => ?_) (fun c103 => ?_)
              · refine jg_iconst cx (v := nI 0) dX3_deal_110 (by decide) ?_
                refine jg_iadd cx dX3_deal_111 ?_
                refine jg_istore cx (lv' := [(0, _), (1, _), (2, _), (3, _), (4, _), (5, _), (6, _), (7, _), (8, _), (9, _), (10, _)]) dX3_deal_112 (by decide) rfl ?_
                refine jg_aload_n cx dX3_deal_114 rfl ?_
                refine jg_get cx jp_mo_o rfl inX3 5 (by decide) f23 rfl dX3_deal_115 ?_
                refine jg_iload cx dX3_deal_118 rfl ?_
                refine jg_ifb_eq cx (tgt := 127) dX3_deal_120 (by decide) (fun c120 => ?_) (fun c120 => ?_)
                · refine jg_iload cx dX3_deal_127 rfl ?_
                  refine jg_dup2 cx dX3_deal_129 rfl rfl ?_
                  refine jg_ialdU cx dX3_deal_130 (jp_mo_5) rfl (by omega) ?_
                  refine jg_iload cx dX3_deal_131 rfl ?_
                  refine jg_iadd cx dX3_deal_133 ?_
                  refine jg_iastU cx dX3_deal_134 (jp_mo_5) rfl (by omega) ?_
                  refine jg_iload cx dX3_deal_135 rfl ?_
                  refine jg_iload cx dX3_deal_137 rfl ?_
                  refine jg_ifb_eq cx (tgt := 146) dX3_deal_139 (by decide) (fun c139 => ?_) (fun c139 => ?_)
                  · refine jg_iload cx dX3_deal_146 rfl ?_
                    refine jg_iadd cx dX3_deal_148 ?_
                    refine jg_istore cx (lv' := [(0, _), (1, _), (2, _), (3, _), (4, _), (5, _), (6, _), (7, _), (8, _), (9, _), (10, _)]) dX3_deal_149 (by decide) rfl ?_
                    refine jg_iincI cx (d := 1) (lv' := [(0, _), (1, _), (2, _), (3, _), (4, _), (5, _), (6, _), (7, _), (8, _), (9, _), (10, _)]) dX3_deal_151 rfl (by decide) (by decide) rfl ?_
                    refine jg_iincN cx (d := 1) (lv' := [(0, _), (1, _), (2, _), (3, _), (4, _), (5, _), (6, _), (7, _), (8, _), (9, _), (10, _)]) dX3_deal_154 rfl (by decide) (by decide) rfl ?_
                    refine jg_goto cx (tgt := 55) dX3_deal_157 (by decide) ?_
                    refine jg_sub cx (lv' := [(0, _), (1, _), (2, _), (3, _), (4, _), (5, _), (6, _), (7, _), (8, _)]) [0, 1, 2, 3, 4, 5, 6, 7, 8] rfl ?_
                    exact jg_to (ih55 (k + 1)  (by omega) ) (by first | with_reducible rfl | (simp only [jk_dT_s, jk_dS, jk_dG, if_neg c66, c88, if_pos c103, ↓reduceIte, Bool.false_eq_true, Bool.true_eq_false, reduceCtorEq, eq_self, if_true, if_false, Bool.not_true, Bool.not_false]; first | done | rfl)) (by first | with_reducible rfl | (simp only [jk_dT_s, jk_dS, jk_dG, if_neg c66, c88, if_pos c103, ↓reduceIte, Bool.false_eq_true, Bool.true_eq_false, reduceCtorEq, eq_self, if_true, if_false, Bool.not_true, Bool.not_false]; first | done | rfl)) (by first | with_reducible rfl | (simp only [jk_dT_s, jk_dS, jk_dG, if_neg c66, c88, if_pos c103, ↓reduceIte, Bool.false_eq_true, Bool.true_eq_false, reduceCtorEq, eq_self, if_true, if_false, Bool.not_true, Bool.not_false]; first | done | rfl))
                  · exact absurd c139 (by decide)
                · exact absurd c120 (by decide)
              · refine jg_iconst cx (v := nI 1) dX3_deal_106 (by decide) ?_
                refine jg_goto cx (tgt := 111) dX3_deal_107 (by decide) ?_
                refine jg_iadd cx dX3_deal_111 ?_
                refine jg_istore cx (lv' := [(0, _), (1, _), (2, _), (3, _), (4, _), (5, _), (6, _), (7, _), (8, _), (9, _), (10, _)]) dX3_deal_112 (by decide) rfl ?_
                refine jg_aload_n cx dX3_deal_114 rfl ?_
                refine jg_get cx jp_mo_o rfl inX3 5 (by decide) f23 rfl dX3_deal_115 ?_
                refine jg_iload cx dX3_deal_118 rfl ?_
                refine jg_ifb_eq cx (tgt := 127) dX3_deal_120 (by decide) (fun c120 => ?_) (fun c120 => ?_)
                · refine jg_iload cx dX3_deal_127 rfl ?_
                  refine jg_dup2 cx dX3_deal_129 rfl rfl ?_
                  refine jg_ialdU cx dX3_deal_130 (jp_mo_5) rfl (by omega) ?_
                  refine jg_iload cx dX3_deal_131 rfl ?_
                  refine jg_iadd cx dX3_deal_133 ?_
                  refine jg_iastU cx dX3_deal_134 (jp_mo_5) rfl (by omega) ?_
                  refine jg_iload cx dX3_deal_135 rfl ?_
                  refine jg_iload cx dX3_deal_137 rfl ?_
                  refine jg_ifb_eq cx (tgt := 146) dX3_deal_139 (by decide) (fun c139 => ?_) (fun c139 => ?_)
                  · refine jg_iload cx dX3_deal_146 rfl ?_
                    refine jg_iadd cx dX3_deal_148 ?_
                    refine jg_istore cx (lv' := [(0, _), (1, _), (2, _), (3, _), (4, _), (5, _), (6, _), (7, _), (8, _), (9, _), (10, _)]) dX3_deal_149 (by decide) rfl ?_
                    refine jg_iincI cx (d := 1) (lv' := [(0, _), (1, _), (2, _), (3, _), (4, _), (5, _), (6, _), (7, _), (8, _), (9, _), (10, _)]) dX3_deal_151 rfl (by decide) (by decide) rfl ?_
                    refine jg_iincN cx (d := 1) (lv' := [(0, _), (1, _), (2, _), (3, _), (4, _), (5, _), (6, _), (7, _), (8, _), (9, _), (10, _)]) dX3_deal_154 rfl (by decide) (by decide) rfl ?_
                    refine jg_goto cx (tgt := 55) dX3_deal_157 (by decide) ?_
                    refine jg_sub cx (lv' := [(0, _), (1, _), (2, _), (3, _), (4, _), (5, _), (6, _), (7, _), (8, _)]) [0, 1, 2, 3, 4, 5, 6, 7, 8] rfl ?_
                    exact jg_to (ih55 (k + 1)  (by omega) ) (by first | with_reducible rfl | (simp only [jk_dT_s, jk_dS, jk_dG, if_neg c66, c88, if_neg c103, ↓reduceIte, Bool.false_eq_true, Bool.true_eq_false, reduceCtorEq, eq_self, if_true, if_false, Bool.not_true, Bool.not_false]; first | done | rfl)) (by first | with_reducible rfl | (simp only [jk_dT_s, jk_dS, jk_dG, if_neg c66, c88, if_neg c103, ↓reduceIte, Bool.false_eq_true, Bool.true_eq_false, reduceCtorEq, eq_self, if_true, if_false, Bool.not_true, Bool.not_false]; first | done | rfl)) (by first | with_reducible rfl | (simp only [jk_dT_s, jk_dS, jk_dG, if_neg c66, c88, if_neg c103, ↓reduceIte, Bool.false_eq_true, Bool.true_eq_false, reduceCtorEq, eq_self, if_true, if_false, Bool.not_true, Bool.not_false]; first | done | rfl))
                  · exact absurd c139 (by decide)
                · exact absurd c120 (by decide)
        · refine jg_iconst cx (v := jp_b true) dX3_deal_69 (by decide) ?_
          refine jg_goto cx (tgt := 74) dX3_deal_70 (by decide) ?_
          refine jg_istore cx (lv' := [(0, _), (1, _), (2, _), (3, _), (4, _), (5, _), (6, _), (7, _), (8, _), (9, _)]) dX3_deal_74 (by decide) rfl ?_
          refine jg_iload cx dX3_deal_76 rfl ?_
          refine jg_ifb_ne cx (tgt := 91) dX3_deal_78 (by decide) (fun c78 => ?_) (fun c78 => ?_)
          · refine jg_iload_n cx dX3_deal_91 rfl ?_
            refine jg_iload cx dX3_deal_92 rfl ?_
            refine jg_iload cx dX3_deal_94 rfl ?_
            refine jg_isub cx dX3_deal_96 ?_
            refine jg_iload_n cx dX3_deal_97 rfl ?_
            refine jg_iadd cx dX3_deal_98 ?_
            refine jg_iload_n cx dX3_deal_99 rfl ?_
            refine jg_irem cx dX3_deal_100 (jk_sl_ne M n) ?_
            refine jg_iload cx dX3_deal_101 rfl ?_
            refine jg_icmp_ge cx (tgt := 110) dX3_deal_103 (by decide) (fun c103 => ?_) (fun c103 => ?_)
            · refine jg_iconst cx (v := nI 0) dX3_deal_110 (by decide) ?_
              refine jg_iadd cx dX3_deal_111 ?_
              refine jg_istore cx (lv' := [(0, _), (1, _), (2, _), (3, _), (4, _), (5, _), (6, _), (7, _), (8, _), (9, _), (10, _)]) dX3_deal_112 (by decide) rfl ?_
              refine jg_aload_n cx dX3_deal_114 rfl ?_
              refine jg_get cx jp_mo_o rfl inX3 5 (by decide) f23 rfl dX3_deal_115 ?_
              refine jg_iload cx dX3_deal_118 rfl ?_
              refine jg_ifb_eq cx (tgt := 127) dX3_deal_120 (by decide) (fun c120 => ?_) (fun c120 => ?_)
              · exact absurd c120 (by decide)
              · refine jg_iload_n cx dX3_deal_123 rfl ?_
                refine jg_goto cx (tgt := 129) dX3_deal_124 (by decide) ?_
                refine jg_dup2 cx dX3_deal_129 rfl rfl ?_
                refine jg_ialdU cx dX3_deal_130 (jp_mo_5) rfl (by omega) ?_
                refine jg_iload cx dX3_deal_131 rfl ?_
                refine jg_iadd cx dX3_deal_133 ?_
                refine jg_iastU cx dX3_deal_134 (jp_mo_5) rfl (by omega) ?_
                refine jg_iload cx dX3_deal_135 rfl ?_
                refine jg_iload cx dX3_deal_137 rfl ?_
                refine jg_ifb_eq cx (tgt := 146) dX3_deal_139 (by decide) (fun c139 => ?_) (fun c139 => ?_)
                · exact absurd c139 (by decide)
                · refine jg_iconst cx (v := nI 0) dX3_deal_142 (by decide) ?_
                  refine jg_goto cx (tgt := 148) dX3_deal_143 (by decide) ?_
                  refine jg_iadd cx dX3_deal_148 ?_
                  refine jg_istore cx (lv' := [(0, _), (1, _), (2, _), (3, _), (4, _), (5, _), (6, _), (7, _), (8, _), (9, _), (10, _)]) dX3_deal_149 (by decide) rfl ?_
                  refine jg_iincI cx (d := 1) (lv' := [(0, _), (1, _), (2, _), (3, _), (4, _), (5, _), (6, _), (7, _), (8, _), (9, _), (10, _)]) dX3_deal_151 rfl (by decide) (by decide) rfl ?_
                  refine jg_iincN cx (d := 1) (lv' := [(0, _), (1, _), (2, _), (3, _), (4, _), (5, _), (6, _), (7, _), (8, _), (9, _), (10, _)]) dX3_deal_154 rfl (by decide) (by decide) rfl ?_
                  refine jg_goto cx (tgt := 55) dX3_deal_157 (by decide) ?_
                  refine jg_sub cx (lv' := [(0, _), (1, _), (2, _), (3, _), (4, _), (5, _), (6, _), (7, _), (8, _)]) [0, 1, 2, 3, 4, 5, 6, 7, 8] rfl ?_
                  exact jg_to (ih55 (k + 1)  (by omega) ) (by first | with_reducible rfl | (simp only [jk_dT_s, jk_dS, jk_dG, if_pos c66, if_pos c103, ↓reduceIte, Bool.false_eq_true, Bool.true_eq_false, reduceCtorEq, eq_self, if_true, if_false, Bool.not_true, Bool.not_false]; first | done | rfl)) (by first | with_reducible rfl | (simp only [jk_dT_s, jk_dS, jk_dG, if_pos c66, if_pos c103, ↓reduceIte, Bool.false_eq_true, Bool.true_eq_false, reduceCtorEq, eq_self, if_true, if_false, Bool.not_true, Bool.not_false]; first | done | rfl)) (by first | with_reducible rfl | (simp only [jk_dT_s, jk_dS, jk_dG, if_pos c66, if_pos c103, ↓reduceIte, Bool.false_eq_true, Bool.true_eq_false, reduceCtorEq, eq_self, if_true, if_false, Bool.not_true, Bool.not_false]; first | done | rfl))
            · refine jg_iconst cx (v := nI 1) dX3_deal_106 (by decide) ?_
              refine jg_goto cx (tgt := 111) dX3_deal_107 (by decide) ?_
              refine jg_iadd cx dX3_deal_111 ?_
              refine jg_istore cx (lv' := [(0, _), (1, _), (2, _), (3, _), (4, _), (5, _), (6, _), (7, _), (8, _), (9, _), (10, _)]) dX3_deal_112 (by decide) rfl ?_
              refine jg_aload_n cx dX3_deal_114 rfl ?_
              refine jg_get cx jp_mo_o rfl inX3 5 (by decide) f23 rfl dX3_deal_115 ?_
              refine jg_iload cx dX3_deal_118 rfl ?_
              refine jg_ifb_eq cx (tgt := 127) dX3_deal_120 (by decide) (fun c120 => ?_) (fun c120 => ?_)
              · exact absurd c120 (by decide)
              · refine jg_iload_n cx dX3_deal_123 rfl ?_
                refine jg_goto cx (tgt := 129) dX3_deal_124 (by decide) ?_
                refine jg_dup2 cx dX3_deal_129 rfl rfl ?_
                refine jg_ialdU cx dX3_deal_130 (jp_mo_5) rfl (by omega) ?_
                refine jg_iload cx dX3_deal_131 rfl ?_
                refine jg_iadd cx dX3_deal_133 ?_
                refine jg_iastU cx dX3_deal_134 (jp_mo_5) rfl (by omega) ?_
                refine jg_iload cx dX3_deal_135 rfl ?_
                refine jg_iload cx dX3_deal_137 rfl ?_
                refine jg_ifb_eq cx (tgt := 146) dX3_deal_139 (by decide) (fun c139 => ?_) (fun c139 => ?_)
                · exact absurd c139 (by decide)
                · refine jg_iconst cx (v := nI 0) dX3_deal_142 (by decide) ?_
                  refine jg_goto cx (tgt := 148) dX3_deal_143 (by decide) ?_
                  refine jg_iadd cx dX3_deal_148 ?_
                  refine jg_istore cx (lv' := [(0, _), (1, _), (2, _), (3, _), (4, _), (5, _), (6, _), (7, _), (8, _), (9, _), (10, _)]) dX3_deal_149 (by decide) rfl ?_
                  refine jg_iincI cx (d := 1) (lv' := [(0, _), (1, _), (2, _), (3, _), (4, _), (5, _), (6, _), (7, _), (8, _), (9, _), (10, _)]) dX3_deal_151 rfl (by decide) (by decide) rfl ?_
                  refine jg_iincN cx (d := 1) (lv' := [(0, _), (1, _), (2, _), (3, _), (4, _), (5, _), (6, _), (7, _), (8, _), (9, _), (10, _)]) dX3_deal_154 rfl (by decide) (by decide) rfl ?_
                  refine jg_goto cx (tgt := 55) dX3_deal_157 (by decide) ?_
                  refine jg_sub cx (lv' := [(0, _), (1, _), (2, _), (3, _), (4, _), (5, _), (6, _), (7, _), (8, _)]) [0, 1, 2, 3, 4, 5, 6, 7, 8] rfl ?_
                  exact jg_to (ih55 (k + 1)  (by omega) ) (by first | with_reducible rfl | (simp only [jk_dT_s, jk_dS, jk_dG, if_pos c66, if_neg c103, ↓reduceIte, Bool.false_eq_true, Bool.true_eq_false, reduceCtorEq, eq_self, if_true, if_false, Bool.not_true, Bool.not_false]; first | done | rfl)) (by first | with_reducible rfl | (simp only [jk_dT_s, jk_dS, jk_dG, if_pos c66, if_neg c103, ↓reduceIte, Bool.false_eq_true, Bool.true_eq_false, reduceCtorEq, eq_self, if_true, if_false, Bool.not_true, Bool.not_false]; first | done | rfl)) (by first | with_reducible rfl | (simp only [jk_dT_s, jk_dS, jk_dG, if_pos c66, if_neg c103, ↓reduceIte, Bool.false_eq_true, Bool.true_eq_false, reduceCtorEq, eq_self, if_true, if_false, Bool.not_true, Bool.not_false]; first | done | rfl))
          · exact absurd c78 (by decide)
  exact jg_to (lp55 9 0  (by omega) ) rfl rfl rfl
def jk_r0 (n : Nat) (M : jf_B) : jf_B := jf_w M 5 n (if M 1 (8 + n) ≤ 0 then M 1 (8 + n) else nI 0)
def jk_r1 (n : Nat) (S : jf_B × Int32) : jf_B × Int32 := if S.1 1 (8 + n) ≤ 0 then (S.1, S.2 + nI 0) else ((jk_deal S.1 n).1, S.2 + (jk_deal S.1 n).2)
def jk_r0T (M : jf_B) (i : Nat) : jf_B := jf_it jk_r0 M i
theorem jk_r0T_s (M : jf_B) (i : Nat) : jk_r0T M (i + 1) = jk_r0 i (jk_r0T M i) := rfl
def jk_r1T (M : jf_B) (i : Nat) : jf_B × Int32 := jf_it jk_r1 (jk_r0T M 8, nI 0) i
theorem jk_r1T_s (M : jf_B) (i : Nat) : jk_r1T M (i + 1) = jk_r1 i (jk_r1T M i) := rfl
theorem jk_r1T_0 (M : jf_B) : jk_r1T M 0 = (jk_r0T M 8, nI 0) := rfl
def jk_rotor (M : jf_B) : jf_B × Int32 := (jk_tn (jk_r1T M 8).1, (jk_r1T M 8).2)
set_option maxHeartbeats 1000000 in
set_option maxRecDepth 100000 in
theorem jc_X3_rotor (E : jp_E) (l : Launch) {h : jp_H} {M : jf_B} {L : jf_L}  : jc_M E l yX3_rotor wsX3_rotor ({ frames := 4, cells := 0, slots := 0, locals := 96 } : Room) [.ref (E.2.1 7 0)] (jp_u h 7 M L) (jp_R (some (.int ((jk_rotor M).2))) (jp_u h 7 ((jk_rotor M).1) L)) := by
  refine jc_of (cc := cX3_rotor) (maxL := 3) (ret := some .int) (own := RX3) (lv := [(0, _)]) (by decide) rfl rfl (Nat.le_of_ble_eq_true rfl) rfl (fun X cx => ?_)
  have inX3 : ∀ w ∈ u_ws RX3 TX3 11, w ∈ wsX3_rotor := by decide +kernel
  have f7 : Cond.fieldLink RX3 7 "JobSpreadModel" "state" "[I" ∈ wsX3_rotor := by decide +kernel
  have f23 : Cond.fieldLink RX3 23 "JobSpreadModel" "next" "[I" ∈ wsX3_rotor := by decide +kernel
  refine jg_iconst cx (v := nI 0) dX3_rotor_0 (by decide) ?_
  refine jg_istore_n cx (lv' := [(0, _), (1, _)]) dX3_rotor_1 (by decide) rfl ?_
  refine jg_iconst cx (v := nI 0) dX3_rotor_2 (by decide) ?_
  refine jg_istore_n cx (lv' := [(0, _), (1, _), (2, _)]) dX3_rotor_3 (by decide) rfl ?_
  have lp4 : ∀ (d4 i : Nat), i + d4 = 8 → X 4 [(0, .ref (E.2.1 7 0)), (1, .int (nI 0)), (2, .int (nI i))] [] (jp_u h 7 (jk_r0T M i) L) := by
    intro d4
    induction d4 with
    | zero =>
      intro i  hr4 
      obtain rfl : i = 8 := by omega
      refine jg_iload_n cx dX3_rotor_4 rfl ?_
      refine jg_bipush cx (v := nI 8) dX3_rotor_5 (by decide) ?_
      refine jg_icmpN_ge cx (tgt := 47) dX3_rotor_7 (by decide) (by omega) (by omega) (fun c7 => ?_) (fun c7 => ?_)
      · refine jg_iconst cx (v := nI 0) dX3_rotor_47 (by decide) ?_
        refine jg_istore_n cx (lv' := [(0, _), (1, _), (2, _)]) dX3_rotor_48 (by decide) rfl ?_
        have lp49 : ∀ (d49 i : Nat), i + d49 = 8 → X 49 [(0, .ref (E.2.1 7 0)), (1, .int (jk_r1T M i).2), (2, .int (nI i))] [] (jp_u h 7 (jk_r1T M i).1 L) := by
          intro d49
          induction d49 with
          | zero =>
            intro i  hr49 
            obtain rfl : i = 8 := by omega
            refine jg_iload_n cx dX3_rotor_49 rfl ?_
            refine jg_bipush cx (v := nI 8) dX3_rotor_50 (by decide) ?_
            refine jg_icmpN_ge cx (tgt := 85) dX3_rotor_52 (by decide) (by omega) (by omega) (fun c52 => ?_) (fun c52 => ?_)
            · refine jg_aload_n cx dX3_rotor_85 rfl ?_
              refine jg_callVv cx (n := 0) (jc_X3_takeNext E l) gX3_rotor_X3_takeNext rfl ⟨rfl, rfl⟩ ⟨(Nat.le_of_ble_eq_true rfl), (Nat.le_of_ble_eq_true rfl)⟩ (by decide +kernel) jp_mo_o rfl rfl rfl (Nat.le_of_ble_eq_true rfl) dX3_rotor_86 ?_
              refine jg_iload_n cx dX3_rotor_89 rfl ?_
              exact jg_iret cx dX3_rotor_90 (⟨(by first | with_reducible rfl | (simp only [jk_rotor, ↓reduceIte, Bool.false_eq_true, Bool.true_eq_false, reduceCtorEq, eq_self, if_true, if_false, Bool.not_true, Bool.not_false]; first | done | rfl)), (by first | with_reducible rfl | (simp only [jk_rotor, ↓reduceIte, Bool.false_eq_true, Bool.true_eq_false, reduceCtorEq, eq_self, if_true, if_false, Bool.not_true, Bool.not_false]; first | done | rfl))⟩)
            · exact absurd hr49 (by omega)
          | succ d49 ih49 =>
            intro i  hr49 
            refine jg_iload_n cx dX3_rotor_49 rfl ?_
            refine jg_bipush cx (v := nI 8) dX3_rotor_50 (by decide) ?_
            refine jg_icmpN_ge cx (tgt := 85) dX3_rotor_52 (by decide) (by omega) (by omega) (fun c52 => ?_) (fun c52 => ?_)
            · exact absurd hr49 (by omega)
            · refine jg_iload_n cx dX3_rotor_55 rfl ?_
              refine jg_aload_n cx dX3_rotor_56 rfl ?_
              refine jg_get cx jp_mo_o rfl inX3 0 (by decide) f7 rfl dX3_rotor_57 ?_
              refine jg_bipush cx (v := nI 8) dX3_rotor_60 (by decide) ?_
              refine jg_iload_n cx dX3_rotor_62 rfl ?_
              refine jg_iaddN cx dX3_rotor_63 ?_
              refine jg_ialdU cx dX3_rotor_64 (jp_mo_1) rfl (by omega) ?_
              refine jg_if_le cx (tgt := 76) dX3_rotor_65 (by decide) (fun c65 => ?_) (fun c65 => ?_)
              · refine jg_iconst cx (v := nI 0) dX3_rotor_76 (by decide) ?_
                refine jg_iadd cx dX3_rotor_77 ?_
                refine jg_istore_n cx (lv' := [(0, _), (1, _), (2, _)]) dX3_rotor_78 (by decide) rfl ?_
                refine jg_iincN cx (d := 1) (lv' := [(0, _), (1, _), (2, _)]) dX3_rotor_79 rfl (by decide) (by decide) rfl ?_
                refine jg_goto cx (tgt := 49) dX3_rotor_82 (by decide) ?_
                exact jg_to (ih49 (i + 1)  (by omega) ) (by first | with_reducible rfl | (simp only [jk_r1T_s, jk_r1, if_pos c65, ↓reduceIte, Bool.false_eq_true, Bool.true_eq_false, reduceCtorEq, eq_self, if_true, if_false, Bool.not_true, Bool.not_false]; first | done | rfl)) (by first | with_reducible rfl | (simp only [jk_r1T_s, jk_r1, if_pos c65, ↓reduceIte, Bool.false_eq_true, Bool.true_eq_false, reduceCtorEq, eq_self, if_true, if_false, Bool.not_true, Bool.not_false]; first | done | rfl)) (by first | with_reducible rfl | (simp only [jk_r1T_s, jk_r1, if_pos c65, ↓reduceIte, Bool.false_eq_true, Bool.true_eq_false, reduceCtorEq, eq_self, if_true, if_false, Bool.not_true, Bool.not_false]; first | done | rfl))
              · refine jg_aload_n cx dX3_rotor_68 rfl ?_
                refine jg_iload_n cx dX3_rotor_69 rfl ?_
                refine jg_callVi cx (n := 1) (jc_X3_deal E l (by omega)) gX3_rotor_X3_deal rfl ⟨rfl, rfl⟩ ⟨(Nat.le_of_ble_eq_true rfl), (Nat.le_of_ble_eq_true rfl)⟩ (by decide +kernel) jp_mo_o rfl rfl rfl (Nat.le_of_ble_eq_true rfl) dX3_rotor_70 ?_
                refine jg_goto cx (tgt := 77) dX3_rotor_73 (by decide) ?_
                refine jg_iadd cx dX3_rotor_77 ?_
                refine jg_istore_n cx (lv' := [(0, _), (1, _), (2, _)]) dX3_rotor_78 (by decide) rfl ?_
                refine jg_iincN cx (d := 1) (lv' := [(0, _), (1, _), (2, _)]) dX3_rotor_79 rfl (by decide) (by decide) rfl ?_
                refine jg_goto cx (tgt := 49) dX3_rotor_82 (by decide) ?_
                exact jg_to (ih49 (i + 1)  (by omega) ) (by first | with_reducible rfl | (simp only [jk_r1T_s, jk_r1, if_neg c65, ↓reduceIte, Bool.false_eq_true, Bool.true_eq_false, reduceCtorEq, eq_self, if_true, if_false, Bool.not_true, Bool.not_false]; first | done | rfl)) (by first | with_reducible rfl | (simp only [jk_r1T_s, jk_r1, if_neg c65, ↓reduceIte, Bool.false_eq_true, Bool.true_eq_false, reduceCtorEq, eq_self, if_true, if_false, Bool.not_true, Bool.not_false]; first | done | rfl)) (by first | with_reducible rfl | (simp only [jk_r1T_s, jk_r1, if_neg c65, ↓reduceIte, Bool.false_eq_true, Bool.true_eq_false, reduceCtorEq, eq_self, if_true, if_false, Bool.not_true, Bool.not_false]; first | done | rfl))
        exact jg_to (lp49 8 0  (by omega) ) (by first | with_reducible rfl | (simp only [jk_r1T_0, ↓reduceIte, Bool.false_eq_true, Bool.true_eq_false, reduceCtorEq, eq_self, if_true, if_false, Bool.not_true, Bool.not_false]; first | done | rfl)) rfl (by first | with_reducible rfl | (simp only [jk_r1T_0, ↓reduceIte, Bool.false_eq_true, Bool.true_eq_false, reduceCtorEq, eq_self, if_true, if_false, Bool.not_true, Bool.not_false]; first | done | rfl))
      · exact absurd hr4 (by omega)
    | succ d4 ih4 =>
      intro i  hr4 
      refine jg_iload_n cx dX3_rotor_4 rfl ?_
      refine jg_bipush cx (v := nI 8) dX3_rotor_5 (by decide) ?_
      refine jg_icmpN_ge cx (tgt := 47) dX3_rotor_7 (by decide) (by omega) (by omega) (fun c7 => ?_) (fun c7 => ?_)
      · exact absurd hr4 (by omega)
      · refine jg_aload_n cx dX3_rotor_10 rfl ?_
        refine jg_get cx jp_mo_o rfl inX3 5 (by decide) f23 rfl dX3_rotor_11 ?_
        refine jg_iload_n cx dX3_rotor_14 rfl ?_
        refine jg_aload_n cx dX3_rotor_15 rfl ?_
        refine jg_get cx jp_mo_o rfl inX3 0 (by decide) f7 rfl dX3_rotor_16 ?_
        refine jg_bipush cx (v := nI 8) dX3_rotor_19 (by decide) ?_
        refine jg_iload_n cx dX3_rotor_21 rfl ?_
        refine jg_iaddN cx dX3_rotor_22 ?_
        refine jg_ialdU cx dX3_rotor_23 (jp_mo_1) rfl (by omega) ?_
        refine jg_if_le cx (tgt := 31) dX3_rotor_24 (by decide) (fun c24 => ?_) (fun c24 => ?_)
        · refine jg_aload_n cx dX3_rotor_31 rfl ?_
          refine jg_get cx jp_mo_o rfl inX3 0 (by decide) f7 rfl dX3_rotor_32 ?_
          refine jg_bipush cx (v := nI 8) dX3_rotor_35 (by decide) ?_
          refine jg_iload_n cx dX3_rotor_37 rfl ?_
          refine jg_iaddN cx dX3_rotor_38 ?_
          refine jg_ialdU cx dX3_rotor_39 (jp_mo_1) rfl (by omega) ?_
          refine jg_iastU cx dX3_rotor_40 (jp_mo_5) rfl (by omega) ?_
          refine jg_iincN cx (d := 1) (lv' := [(0, _), (1, _), (2, _)]) dX3_rotor_41 rfl (by decide) (by decide) rfl ?_
          refine jg_goto cx (tgt := 4) dX3_rotor_44 (by decide) ?_
          exact jg_to (ih4 (i + 1)  (by omega) ) (by first | with_reducible rfl | (simp only [jk_r0T_s, jk_r0, if_pos c24, ↓reduceIte, Bool.false_eq_true, Bool.true_eq_false, reduceCtorEq, eq_self, if_true, if_false, Bool.not_true, Bool.not_false]; first | done | rfl)) (by first | with_reducible rfl | (simp only [jk_r0T_s, jk_r0, if_pos c24, ↓reduceIte, Bool.false_eq_true, Bool.true_eq_false, reduceCtorEq, eq_self, if_true, if_false, Bool.not_true, Bool.not_false]; first | done | rfl)) (by first | with_reducible rfl | (simp only [jk_r0T_s, jk_r0, if_pos c24, ↓reduceIte, Bool.false_eq_true, Bool.true_eq_false, reduceCtorEq, eq_self, if_true, if_false, Bool.not_true, Bool.not_false]; first | done | rfl))
        · refine jg_iconst cx (v := nI 0) dX3_rotor_27 (by decide) ?_
          refine jg_goto cx (tgt := 40) dX3_rotor_28 (by decide) ?_
          refine jg_iastU cx dX3_rotor_40 (jp_mo_5) rfl (by omega) ?_
          refine jg_iincN cx (d := 1) (lv' := [(0, _), (1, _), (2, _)]) dX3_rotor_41 rfl (by decide) (by decide) rfl ?_
          refine jg_goto cx (tgt := 4) dX3_rotor_44 (by decide) ?_
          exact jg_to (ih4 (i + 1)  (by omega) ) (by first | with_reducible rfl | (simp only [jk_r0T_s, jk_r0, if_neg c24, ↓reduceIte, Bool.false_eq_true, Bool.true_eq_false, reduceCtorEq, eq_self, if_true, if_false, Bool.not_true, Bool.not_false]; first | done | rfl)) (by first | with_reducible rfl | (simp only [jk_r0T_s, jk_r0, if_neg c24, ↓reduceIte, Bool.false_eq_true, Bool.true_eq_false, reduceCtorEq, eq_self, if_true, if_false, Bool.not_true, Bool.not_false]; first | done | rfl)) (by first | with_reducible rfl | (simp only [jk_r0T_s, jk_r0, if_neg c24, ↓reduceIte, Bool.false_eq_true, Bool.true_eq_false, reduceCtorEq, eq_self, if_true, if_false, Bool.not_true, Bool.not_false]; first | done | rfl))
  exact jg_to (lp4 8 0  (by omega) ) rfl rfl rfl
def jk_one (ru : Int32) (M : jf_B) : jf_B × Int32 := if ru = 0 then jk_flow M else if ru = nI 1 then jk_exch M else jk_rotor M
def jk_round (ru : Int32) (M : jf_B) : jf_B × Int32 := (jf_w (jk_one ru M).1 1 152 ((jk_one ru M).1 1 152 + nI 1), (jk_one ru M).2)
set_option maxHeartbeats 1000000 in
set_option maxRecDepth 100000 in
theorem jc_X3_round (E : jp_E) (l : Launch) {h : jp_H} {M : jf_B} {L : jf_L} {ru : Int32} (hok : jk_ok M) : jc_M E l yX3_round wsX3_round ({ frames := 5, cells := 0, slots := 0, locals := 118 } : Room) [.ref (E.2.1 7 0), .int ru] (jp_u h 7 M L) (jp_R (some (.int ((jk_round ru M).2))) (jp_u h 7 ((jk_round ru M).1) L)) := by
  refine jc_of (cc := cX3_round) (maxL := 3) (ret := some .int) (own := RX3) (lv := [(0, _), (1, _)]) (by decide) rfl rfl (Nat.le_of_ble_eq_true rfl) rfl (fun X cx => ?_)
  have inX3 : ∀ w ∈ u_ws RX3 TX3 11, w ∈ wsX3_round := by decide +kernel
  have f7 : Cond.fieldLink RX3 7 "JobSpreadModel" "state" "[I" ∈ wsX3_round := by decide +kernel
  refine jg_iload_n cx dX3_round_0 rfl ?_
  refine jg_if_ne cx (tgt := 11) dX3_round_1 (by decide) (fun c1 => ?_) (fun c1 => ?_)
  · refine jg_iload_n cx dX3_round_11 rfl ?_
    refine jg_iconst cx (v := nI 1) dX3_round_12 (by decide) ?_
    refine jg_icmp_ne cx (tgt := 23) dX3_round_13 (by decide) (fun c13 => ?_) (fun c13 => ?_)
    · refine jg_aload_n cx dX3_round_23 rfl ?_
      refine jg_callVi cx (n := 0) (jc_X3_rotor E l) gX3_round_X3_rotor rfl ⟨rfl, rfl⟩ ⟨(Nat.le_of_ble_eq_true rfl), (Nat.le_of_ble_eq_true rfl)⟩ (by decide +kernel) jp_mo_o rfl rfl rfl (Nat.le_of_ble_eq_true rfl) dX3_round_24 ?_
      refine jg_istore_n cx (lv' := [(0, _), (1, _), (2, _)]) dX3_round_27 (by decide) rfl ?_
      refine jg_aload_n cx dX3_round_28 rfl ?_
      refine jg_get cx jp_mo_o rfl inX3 0 (by decide) f7 rfl dX3_round_29 ?_
      refine jg_sipush cx (v := nI 152) dX3_round_32 (by decide) ?_
      refine jg_dup2 cx dX3_round_35 rfl rfl ?_
      refine jg_ialdU cx dX3_round_36 (jp_mo_1) rfl (by omega) ?_
      refine jg_iconst cx (v := nI 1) dX3_round_37 (by decide) ?_
      refine jg_iadd cx dX3_round_38 ?_
      refine jg_iastU cx dX3_round_39 (jp_mo_1) rfl (by omega) ?_
      refine jg_iload_n cx dX3_round_40 rfl ?_
      exact jg_iret cx dX3_round_41 (⟨(by first | with_reducible rfl | (simp only [jk_round, jk_one, if_neg c1, if_neg c13, ↓reduceIte, Bool.false_eq_true, Bool.true_eq_false, reduceCtorEq, eq_self, if_true, if_false, Bool.not_true, Bool.not_false]; first | done | rfl)), (by first | with_reducible rfl | (simp only [jk_round, jk_one, if_neg c1, if_neg c13, ↓reduceIte, Bool.false_eq_true, Bool.true_eq_false, reduceCtorEq, eq_self, if_true, if_false, Bool.not_true, Bool.not_false]; first | done | rfl))⟩)
    · refine jg_aload_n cx dX3_round_16 rfl ?_
      refine jg_callVi cx (n := 0) (jc_X3_exchange E l hok) gX3_round_X3_exchange rfl ⟨rfl, rfl⟩ ⟨(Nat.le_of_ble_eq_true rfl), (Nat.le_of_ble_eq_true rfl)⟩ (by decide +kernel) jp_mo_o rfl rfl rfl (Nat.le_of_ble_eq_true rfl) dX3_round_17 ?_
      refine jg_goto cx (tgt := 27) dX3_round_20 (by decide) ?_
      refine jg_istore_n cx (lv' := [(0, _), (1, _), (2, _)]) dX3_round_27 (by decide) rfl ?_
      refine jg_aload_n cx dX3_round_28 rfl ?_
      refine jg_get cx jp_mo_o rfl inX3 0 (by decide) f7 rfl dX3_round_29 ?_
      refine jg_sipush cx (v := nI 152) dX3_round_32 (by decide) ?_
      refine jg_dup2 cx dX3_round_35 rfl rfl ?_
      refine jg_ialdU cx dX3_round_36 (jp_mo_1) rfl (by omega) ?_
      refine jg_iconst cx (v := nI 1) dX3_round_37 (by decide) ?_
      refine jg_iadd cx dX3_round_38 ?_
      refine jg_iastU cx dX3_round_39 (jp_mo_1) rfl (by omega) ?_
      refine jg_iload_n cx dX3_round_40 rfl ?_
      exact jg_iret cx dX3_round_41 (⟨(by first | with_reducible rfl | (simp only [jk_round, jk_one, if_neg c1, if_pos c13, ↓reduceIte, Bool.false_eq_true, Bool.true_eq_false, reduceCtorEq, eq_self, if_true, if_false, Bool.not_true, Bool.not_false]; first | done | rfl)), (by first | with_reducible rfl | (simp only [jk_round, jk_one, if_neg c1, if_pos c13, ↓reduceIte, Bool.false_eq_true, Bool.true_eq_false, reduceCtorEq, eq_self, if_true, if_false, Bool.not_true, Bool.not_false]; first | done | rfl))⟩)
  · refine jg_aload_n cx dX3_round_4 rfl ?_
    refine jg_callVi cx (n := 0) (jc_X3_flow E l) gX3_round_X3_flow rfl ⟨rfl, rfl⟩ ⟨(Nat.le_of_ble_eq_true rfl), (Nat.le_of_ble_eq_true rfl)⟩ (by decide +kernel) jp_mo_o rfl rfl rfl (Nat.le_of_ble_eq_true rfl) dX3_round_5 ?_
    refine jg_goto cx (tgt := 27) dX3_round_8 (by decide) ?_
    refine jg_istore_n cx (lv' := [(0, _), (1, _), (2, _)]) dX3_round_27 (by decide) rfl ?_
    refine jg_aload_n cx dX3_round_28 rfl ?_
    refine jg_get cx jp_mo_o rfl inX3 0 (by decide) f7 rfl dX3_round_29 ?_
    refine jg_sipush cx (v := nI 152) dX3_round_32 (by decide) ?_
    refine jg_dup2 cx dX3_round_35 rfl rfl ?_
    refine jg_ialdU cx dX3_round_36 (jp_mo_1) rfl (by omega) ?_
    refine jg_iconst cx (v := nI 1) dX3_round_37 (by decide) ?_
    refine jg_iadd cx dX3_round_38 ?_
    refine jg_iastU cx dX3_round_39 (jp_mo_1) rfl (by omega) ?_
    refine jg_iload_n cx dX3_round_40 rfl ?_
    exact jg_iret cx dX3_round_41 (⟨(by first | with_reducible rfl | (simp only [jk_round, jk_one, if_pos c1, ↓reduceIte, Bool.false_eq_true, Bool.true_eq_false, reduceCtorEq, eq_self, if_true, if_false, Bool.not_true, Bool.not_false]; first | done | rfl)), (by first | with_reducible rfl | (simp only [jk_round, jk_one, if_pos c1, ↓reduceIte, Bool.false_eq_true, Bool.true_eq_false, reduceCtorEq, eq_self, if_true, if_false, Bool.not_true, Bool.not_false]; first | done | rfl))⟩)
theorem jk_tn_sp (M : jf_B) {j : Nat} (hj : j < 8) : jk_tn M 1 j = M 1 j := jf_it_row (fun m : jf_B => m 1 j) (fun i m => by show jf_w m 1 (8 + i) _ 1 j = m 1 j; exact jf_w_n _ _ (by omega)) _ 8
theorem jk_ln_sp (M : jf_B) (j : Nat) : jk_ln M 1 j = M 1 j := jf_it_row (fun m : jf_B => m 1 j) (fun i m => by show jf_w m 5 i _ 1 j = m 1 j; exact jf_w_n _ _ (by omega)) _ 8
theorem jk_flS_sp (me : Int32) (i : Nat) (S : jf_B × Int32) {j : Nat} (hj : j < 8) : (jk_flS me i S).1 1 j = S.1 1 j := by
  unfold jk_flS
  split
  · rfl
  · show jk_flA me i S.1 1 j = S.1 1 j
    unfold jk_flA
    rw [jf_w_n _ _ (by omega), jf_w_n _ _ (by omega), jf_w_n _ _ (by omega)]
theorem jk_flT_sp (M : jf_B) (i : Nat) {j : Nat} (hj : j < 8) : (jk_flT M i).1 1 j = M 1 j := (jf_it_row (fun S : jf_B × Int32 => S.1 1 j) (fun i S => jk_flS_sp _ i S hj) _ i).trans (jk_ln_sp M j)
theorem jk_flow_sp (M : jf_B) {j : Nat} (hj : j < 8) : (jk_flow M).1 1 j = M 1 j := by
  unfold jk_flow
  dsimp only
  rw [jk_tn_sp _ hj, jk_flT_sp M 64 hj]
theorem jk_dS_sp (sl ea re fr : Int32) (n k : Nat) (T : jf_B × Int32 × Int32) (j : Nat) : (jk_dS sl ea re fr n k T).1 1 j = T.1 1 j := by
  unfold jk_dS
  split
  · dsimp only; rw [jf_w_o (r := 5) (r' := 1) _ _ _ _ (by decide)]
  · split
    · dsimp only; rw [jf_w_o (r := 5) (r' := 1) _ _ _ _ (by decide)]
    · rfl
theorem jk_dT_sp (M : jf_B) (n i j : Nat) : (jk_dT M n i).1 1 j = M 1 j := jf_it_row (fun S : jf_B × Int32 × Int32 => S.1 1 j) (fun i S => jk_dS_sp _ _ _ _ _ i S j) _ i
theorem jk_deal_sp (M : jf_B) (n : Nat) {j : Nat} (hj : j < 16) : (jk_deal M n).1 1 j = M 1 j := by
  unfold jk_deal
  dsimp only
  rw [jf_w_n _ _ (by omega), jk_dT_sp]
theorem jk_r0T_sp (M : jf_B) (i j : Nat) : jk_r0T M i 1 j = M 1 j := jf_it_row (fun m : jf_B => m 1 j) (fun i m => by show jf_w m 5 i _ 1 j = m 1 j; rw [jf_w_n _ _ (by omega)]) _ i
theorem jk_r1T_sp (M : jf_B) (i : Nat) {j : Nat} (hj : j < 16) : (jk_r1T M i).1 1 j = M 1 j := by
  refine (jf_it_row (fun S : jf_B × Int32 => S.1 1 j) (fun i S => ?_) (jk_r0T M 8, nI 0) i).trans (jk_r0T_sp M 8 j)
  show (jk_r1 i S).1 1 j = S.1 1 j
  unfold jk_r1
  split
  · rfl
  · exact jk_deal_sp _ _ hj
theorem jk_rotor_sp (M : jf_B) {j : Nat} (hj : j < 8) : (jk_rotor M).1 1 j = M 1 j := by
  unfold jk_rotor
  dsimp only
  rw [jk_tn_sp _ hj, jk_r1T_sp M 8 (by omega)]
theorem jk_one_sp (ru : Int32) (M : jf_B) {j : Nat} (hj : j < 8) : (jk_one ru M).1 1 j = M 1 j := by
  unfold jk_one
  split
  · exact jk_flow_sp M hj
  · split
    · unfold jk_exch; exact jk_exT_sp M 64 hj
    · exact jk_rotor_sp M hj
theorem jk_round_sp (ru : Int32) (M : jf_B) {j : Nat} (hj : j < 8) : (jk_round ru M).1 1 j = M 1 j := by
  unfold jk_round
  dsimp only
  rw [jf_w_n _ _ (by omega), jk_one_sp ru M hj]
def jk_goS (ru : Int32) (_ : Nat) (S : jf_B × Int32) : jf_B × Int32 := ((jk_round ru S.1).1, S.2 + (jk_round ru S.1).2)
def jk_go (ru : Int32) (M : jf_B) (i : Nat) : jf_B × Int32 := jf_it (jk_goS ru) (M, nI 0) i
theorem jk_go_s (ru : Int32) (M : jf_B) (i : Nat) : jk_go ru M (i + 1) = jk_goS ru i (jk_go ru M i) := rfl
theorem jk_go_ok {ru : Int32} {M : jf_B} (h : jk_ok M) (i : Nat) : jk_ok (jk_go ru M i).1 := jk_ok_of h (fun j hj => jf_it_row (f := jk_goS ru) (fun S : jf_B × Int32 => S.1 1 j) (fun i S => jk_round_sp ru S.1 hj) (M, nI 0) i)
def jk_run (ru k : Int32) (M : jf_B) : Int32 × jf_B :=
  if jf_within ru (nI 0) (nI 2) then
    (if jf_within k (nI 1) (nI 50) then ((jk_go ru M k.toNatClampNeg).2, (jk_go ru M k.toNatClampNeg).1) else (-2, M))
  else (-2, M)
set_option maxHeartbeats 1000000 in
set_option maxRecDepth 100000 in
theorem jc_X3_run (E : jp_E) (l : Launch) {h : jp_H} {M : jf_B} {L : jf_L} {ru k : Int32} (hok : jk_ok M) : jc_M E l yX3_run wsX3_run ({ frames := 6, cells := 0, slots := 0, locals := 140 } : Room) [.ref (E.2.1 7 0), .int ru, .int k] (jp_u h 7 M L) (jp_R (some (.int (jk_run ru k M).1)) (jp_u h 7 (jk_run ru k M).2 L)) := by
  refine jc_of (cc := cX3_run) (maxL := 5) (ret := some .int) (own := RX3) (lv := [(0, _), (1, _), (2, _)]) (by decide) rfl rfl (Nat.le_of_ble_eq_true rfl) rfl (fun X cx => ?_)
  refine jg_iload_n cx dX3_run_0 rfl ?_
  refine jg_iconst cx (v := nI 0) dX3_run_1 (by decide) ?_
  refine jg_iconst cx (v := nI 2) dX3_run_2 (by decide) ?_
  refine jg_callSi cx (n := 3) (jc_X3_in E l) gX3_run_X3_in rfl ⟨rfl, rfl⟩ ⟨(Nat.le_of_ble_eq_true rfl), (Nat.le_of_ble_eq_true rfl)⟩ (by decide +kernel) rfl rfl (Nat.le_of_ble_eq_true rfl) dX3_run_3 ?_
  refine jg_ifb_eq cx (tgt := 19) dX3_run_6 (by decide) (fun c6 => ?_) (fun c6 => ?_)
  · refine jg_bipush cx (v := (-2)) dX3_run_19 (by decide) ?_
    exact jg_iret cx dX3_run_21 (⟨(by first | with_reducible rfl | (simp only [jk_run, c6, ↓reduceIte, Bool.false_eq_true, Bool.true_eq_false, reduceCtorEq, eq_self, if_true, if_false, Bool.not_true, Bool.not_false]; first | done | rfl)), (by first | with_reducible rfl | (simp only [jk_run, c6, ↓reduceIte, Bool.false_eq_true, Bool.true_eq_false, reduceCtorEq, eq_self, if_true, if_false, Bool.not_true, Bool.not_false]; first | done | rfl))⟩)
  · refine jg_iload_n cx dX3_run_9 rfl ?_
    refine jg_iconst cx (v := nI 1) dX3_run_10 (by decide) ?_
    refine jg_bipush cx (v := nI 50) dX3_run_11 (by decide) ?_
    refine jg_callSi cx (n := 3) (jc_X3_in E l) gX3_run_X3_in rfl ⟨rfl, rfl⟩ ⟨(Nat.le_of_ble_eq_true rfl), (Nat.le_of_ble_eq_true rfl)⟩ (by decide +kernel) rfl rfl (Nat.le_of_ble_eq_true rfl) dX3_run_13 ?_
    refine jg_ifb_ne cx (tgt := 22) dX3_run_16 (by decide) (fun c16 => ?_) (fun c16 => ?_)
    · obtain ⟨i, hi1, hi2, rfl⟩ := jf_within_lo (by decide) (by decide) c16
      have ei : (nI i).toNatClampNeg = i := nI_clamp (by omega)
      refine jg_iconst cx (v := nI 0) dX3_run_22 (by decide) ?_
      refine jg_istore_n cx (lv' := [(0, _), (1, _), (2, _), (3, _)]) dX3_run_23 (by decide) rfl ?_
      refine jg_iconst cx (v := nI 0) dX3_run_24 (by decide) ?_
      refine jg_istore cx (lv' := [(0, _), (1, _), (2, _), (3, _), (4, _)]) dX3_run_25 (by decide) rfl ?_
      have lp27 : ∀ (d27 j : Nat), j + d27 = i → X 27 [(0, .ref (E.2.1 7 0)), (1, .int ru), (2, .int (nI i)), (3, .int (jk_go ru M j).2), (4, .int (nI j))] [] (jp_u h 7 (jk_go ru M j).1 L) := by
        intro d27
        induction d27 with
        | zero =>
          intro j  hr27 
          refine jg_iload cx dX3_run_27 rfl ?_
          refine jg_iload_n cx dX3_run_29 rfl ?_
          refine jg_icmpN_ge cx (tgt := 47) dX3_run_30 (by decide) (by omega) (by omega) (fun c30 => ?_) (fun c30 => ?_)
          · refine jg_iload_n cx dX3_run_47 rfl ?_
            exact jg_iret cx dX3_run_48 (by rw [show j = i by omega]; exact ⟨by simp only [jk_run, c6, c16, ei, ↓reduceIte], by simp only [jk_run, c6, c16, ei, ↓reduceIte]⟩)
          · exact absurd hr27 (by omega)
        | succ d27 ih27 =>
          intro j  hr27 
          refine jg_iload cx dX3_run_27 rfl ?_
          refine jg_iload_n cx dX3_run_29 rfl ?_
          refine jg_icmpN_ge cx (tgt := 47) dX3_run_30 (by decide) (by omega) (by omega) (fun c30 => ?_) (fun c30 => ?_)
          · exact absurd hr27 (by omega)
          · refine jg_iload_n cx dX3_run_33 rfl ?_
            refine jg_aload_n cx dX3_run_34 rfl ?_
            refine jg_iload_n cx dX3_run_35 rfl ?_
            refine jg_callVi cx (n := 1) (jc_X3_round E l (jk_go_ok hok j)) gX3_run_X3_round rfl ⟨rfl, rfl⟩ ⟨(Nat.le_of_ble_eq_true rfl), (Nat.le_of_ble_eq_true rfl)⟩ (by decide +kernel) jp_mo_o rfl rfl rfl (Nat.le_of_ble_eq_true rfl) dX3_run_36 ?_
            refine jg_iadd cx dX3_run_39 ?_
            refine jg_istore_n cx (lv' := [(0, _), (1, _), (2, _), (3, _), (4, _)]) dX3_run_40 (by decide) rfl ?_
            refine jg_iincN cx (d := 1) (lv' := [(0, _), (1, _), (2, _), (3, _), (4, _)]) dX3_run_41 rfl (by decide) (by decide) rfl ?_
            refine jg_goto cx (tgt := 27) dX3_run_44 (by decide) ?_
            exact jg_to (ih27 (j + 1)  (by omega) ) (by first | with_reducible rfl | (simp only [jk_go_s, jk_goS, c6, c16, ↓reduceIte, Bool.false_eq_true, Bool.true_eq_false, reduceCtorEq, eq_self, if_true, if_false, Bool.not_true, Bool.not_false]; first | done | rfl)) (by first | with_reducible rfl | (simp only [jk_go_s, jk_goS, c6, c16, ↓reduceIte, Bool.false_eq_true, Bool.true_eq_false, reduceCtorEq, eq_self, if_true, if_false, Bool.not_true, Bool.not_false]; first | done | rfl)) (by first | with_reducible rfl | (simp only [jk_go_s, jk_goS, c6, c16, ↓reduceIte, Bool.false_eq_true, Bool.true_eq_false, reduceCtorEq, eq_self, if_true, if_false, Bool.not_true, Bool.not_false]; first | done | rfl))
      exact jg_to (lp27 i 0  (by omega) ) rfl rfl rfl
    · refine jg_bipush cx (v := (-2)) dX3_run_19 (by decide) ?_
      exact jg_iret cx dX3_run_21 (⟨(by first | with_reducible rfl | (simp only [jk_run, c6, c16, ↓reduceIte, Bool.false_eq_true, Bool.true_eq_false, reduceCtorEq, eq_self, if_true, if_false, Bool.not_true, Bool.not_false]; first | done | rfl)), (by first | with_reducible rfl | (simp only [jk_run, c6, c16, ↓reduceIte, Bool.false_eq_true, Bool.true_eq_false, reduceCtorEq, eq_self, if_true, if_false, Bool.not_true, Bool.not_false]; first | done | rfl))⟩)
def jk_z (o : Nat) (i : Nat) (M : jf_B) : jf_B := jf_w M 1 (o + i) (nI 0)
def jk_reset (M : jf_B) : jf_B := jf_it (jk_z 88) (jf_it (jk_z 16) (jf_w M 1 152 (nI 0)) 8) 64
set_option maxHeartbeats 1000000 in
set_option maxRecDepth 100000 in
theorem jc_X3_reset (E : jp_E) (l : Launch) {h : jp_H} {M : jf_B} {L : jf_L}  : jc_M E l yX3_reset wsX3_reset ({ frames := 0, cells := 0, slots := 0, locals := 0 } : Room) [.ref (E.2.1 7 0)] (jp_u h 7 M L) (jp_R (some (.int (M 1 152))) (jp_u h 7 (jk_reset M) L)) := by
  refine jc_of (cc := cX3_reset) (maxL := 3) (ret := some .int) (own := RX3) (lv := [(0, _)]) (by decide) rfl rfl (Nat.le_of_ble_eq_true rfl) rfl (fun X cx => ?_)
  have inX3 : ∀ w ∈ u_ws RX3 TX3 11, w ∈ wsX3_reset := by decide +kernel
  have f7 : Cond.fieldLink RX3 7 "JobSpreadModel" "state" "[I" ∈ wsX3_reset := by decide +kernel
  refine jg_aload_n cx dX3_reset_0 rfl ?_
  refine jg_get cx jp_mo_o rfl inX3 0 (by decide) f7 rfl dX3_reset_1 ?_
  refine jg_sipush cx (v := nI 152) dX3_reset_4 (by decide) ?_
  refine jg_ialdU cx dX3_reset_7 (jp_mo_1) rfl (by omega) ?_
  refine jg_istore_n cx (lv' := [(0, _), (1, _)]) dX3_reset_8 (by decide) rfl ?_
  refine jg_aload_n cx dX3_reset_9 rfl ?_
  refine jg_get cx jp_mo_o rfl inX3 0 (by decide) f7 rfl dX3_reset_10 ?_
  refine jg_sipush cx (v := nI 152) dX3_reset_13 (by decide) ?_
  refine jg_iconst cx (v := nI 0) dX3_reset_16 (by decide) ?_
  refine jg_iastU cx dX3_reset_17 (jp_mo_1) rfl (by omega) ?_
  refine jg_iconst cx (v := nI 0) dX3_reset_18 (by decide) ?_
  refine jg_istore_n cx (lv' := [(0, _), (1, _), (2, _)]) dX3_reset_19 (by decide) rfl ?_
  have lp20 : ∀ (d20 i : Nat), i + d20 = 8 → X 20 [(0, .ref (E.2.1 7 0)), (1, .int (M 1 152)), (2, .int (nI i))] [] (jp_u h 7 (jf_it (jk_z 16) (jf_w M 1 152 (nI 0)) i) L) := by
    intro d20
    induction d20 with
    | zero =>
      intro i  hr20 
      obtain rfl : i = 8 := by omega
      refine jg_iload_n cx dX3_reset_20 rfl ?_
      refine jg_bipush cx (v := nI 8) dX3_reset_21 (by decide) ?_
      refine jg_icmpN_ge cx (tgt := 42) dX3_reset_23 (by decide) (by omega) (by omega) (fun c23 => ?_) (fun c23 => ?_)
      · refine jg_iconst cx (v := nI 0) dX3_reset_42 (by decide) ?_
        refine jg_istore_n cx (lv' := [(0, _), (1, _), (2, _)]) dX3_reset_43 (by decide) rfl ?_
        have lp44 : ∀ (d44 i : Nat), i + d44 = 64 → X 44 [(0, .ref (E.2.1 7 0)), (1, .int (M 1 152)), (2, .int (nI i))] [] (jp_u h 7 (jf_it (jk_z 88) (jf_it (jk_z 16) (jf_w M 1 152 (nI 0)) 8) i) L) := by
          intro d44
          induction d44 with
          | zero =>
            intro i  hr44 
            obtain rfl : i = 64 := by omega
            refine jg_iload_n cx dX3_reset_44 rfl ?_
            refine jg_bipush cx (v := nI 64) dX3_reset_45 (by decide) ?_
            refine jg_icmpN_ge cx (tgt := 66) dX3_reset_47 (by decide) (by omega) (by omega) (fun c47 => ?_) (fun c47 => ?_)
            · refine jg_iload_n cx dX3_reset_66 rfl ?_
              exact jg_iret cx dX3_reset_67 (⟨rfl, (by first | with_reducible rfl | (simp only [jk_reset, ↓reduceIte, Bool.false_eq_true, Bool.true_eq_false, reduceCtorEq, eq_self, if_true, if_false, Bool.not_true, Bool.not_false]; first | done | rfl))⟩)
            · exact absurd hr44 (by omega)
          | succ d44 ih44 =>
            intro i  hr44 
            refine jg_iload_n cx dX3_reset_44 rfl ?_
            refine jg_bipush cx (v := nI 64) dX3_reset_45 (by decide) ?_
            refine jg_icmpN_ge cx (tgt := 66) dX3_reset_47 (by decide) (by omega) (by omega) (fun c47 => ?_) (fun c47 => ?_)
            · exact absurd hr44 (by omega)
            · refine jg_aload_n cx dX3_reset_50 rfl ?_
              refine jg_get cx jp_mo_o rfl inX3 0 (by decide) f7 rfl dX3_reset_51 ?_
              refine jg_bipush cx (v := nI 88) dX3_reset_54 (by decide) ?_
              refine jg_iload_n cx dX3_reset_56 rfl ?_
              refine jg_iaddN cx dX3_reset_57 ?_
              refine jg_iconst cx (v := nI 0) dX3_reset_58 (by decide) ?_
              refine jg_iastU cx dX3_reset_59 (jp_mo_1) rfl (by omega) ?_
              refine jg_iincN cx (d := 1) (lv' := [(0, _), (1, _), (2, _)]) dX3_reset_60 rfl (by decide) (by decide) rfl ?_
              refine jg_goto cx (tgt := 44) dX3_reset_63 (by decide) ?_
              exact jg_to (ih44 (i + 1)  (by omega) ) rfl rfl rfl
        exact jg_to (lp44 64 0  (by omega) ) rfl rfl (by first | with_reducible rfl | (simp only [jf_it, ↓reduceIte, Bool.false_eq_true, Bool.true_eq_false, reduceCtorEq, eq_self, if_true, if_false, Bool.not_true, Bool.not_false]; first | done | rfl))
      · exact absurd hr20 (by omega)
    | succ d20 ih20 =>
      intro i  hr20 
      refine jg_iload_n cx dX3_reset_20 rfl ?_
      refine jg_bipush cx (v := nI 8) dX3_reset_21 (by decide) ?_
      refine jg_icmpN_ge cx (tgt := 42) dX3_reset_23 (by decide) (by omega) (by omega) (fun c23 => ?_) (fun c23 => ?_)
      · exact absurd hr20 (by omega)
      · refine jg_aload_n cx dX3_reset_26 rfl ?_
        refine jg_get cx jp_mo_o rfl inX3 0 (by decide) f7 rfl dX3_reset_27 ?_
        refine jg_bipush cx (v := nI 16) dX3_reset_30 (by decide) ?_
        refine jg_iload_n cx dX3_reset_32 rfl ?_
        refine jg_iaddN cx dX3_reset_33 ?_
        refine jg_iconst cx (v := nI 0) dX3_reset_34 (by decide) ?_
        refine jg_iastU cx dX3_reset_35 (jp_mo_1) rfl (by omega) ?_
        refine jg_iincN cx (d := 1) (lv' := [(0, _), (1, _), (2, _)]) dX3_reset_36 rfl (by decide) (by decide) rfl ?_
        refine jg_goto cx (tgt := 20) dX3_reset_39 (by decide) ?_
        exact jg_to (ih20 (i + 1)  (by omega) ) rfl rfl rfl
  exact jg_to (lp20 8 0  (by omega) ) rfl rfl rfl
