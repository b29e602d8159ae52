def jf_two (N : jf_B) (a c : Nat) : Int32 := if N 1 a + N 1 c < nI 1 then nI 1 else N 1 a + N 1 c
theorem jf_two_ne (N : jf_B) (a c : Nat) : ¬ jf_two N a c = 0 := by
  unfold jf_two
  split
  · decide
  · next q => intro e; apply q; rw [e]; decide
def jf_exF (N : jf_B) (a c : Nat) : Int32 := if N 2 a < N 2 c then jf_fdiv ((N 2 a + N 2 c) * N 1 a) (jf_two N a c) else N 2 a + N 2 c - jf_fdiv ((N 2 a + N 2 c) * N 1 c) (jf_two N a c)
def jf_exA (N : jf_B) (a c : Nat) : jf_B := jf_w (jf_w N 2 a (jf_exF N a c)) 2 c (N 2 a + N 2 c - jf_exF N a c)
set_option maxHeartbeats 1000000 in
set_option maxRecDepth 100000 in
theorem jc_X0_exchangeAlong (E : jp_E) (l : Launch) {b : Nat} {h : jp_H} {N : jf_B} {L : jf_L} (hb : jp_net b) {a c : Nat} (ha : a < 8) (hc : c < 8) : jc_M E l yX0_exchangeAlong wsX0_exchangeAlong ({ frames := 1, cells := 0, slots := 0, locals := 22 } : Room) [.ref (E.2.1 b 0), .int (nI a), .int (nI c)] (jp_u h b N L) (jp_R (some (.int (jf_absI (jf_exF N a c - N 2 a)))) (jp_u h b (jf_exA N a c) L)) := by
  refine jc_of (cc := cX0_exchangeAlong) (maxL := 8) (ret := some .int) (own := RX0) (lv := [(0, _), (1, _), (2, _)]) (by decide) rfl rfl (Nat.le_of_ble_eq_true rfl) rfl (fun X cx => ?_)
  have inX0 : ∀ w ∈ u_ws RX0 TX0 9, w ∈ wsX0_exchangeAlong := by decide +kernel
  have f9 : Cond.fieldLink RX0 9 "JobSpread$Net" "speed" "[I" ∈ wsX0_exchangeAlong := by decide +kernel
  have f15 : Cond.fieldLink RX0 15 "JobSpread$Net" "jobs" "[I" ∈ wsX0_exchangeAlong := by decide +kernel
  refine jg_aload_n cx dX0_exchangeAlong_0 rfl ?_
  refine jg_get cx (jp_net_o hb) rfl inX0 1 (by decide) f15 rfl dX0_exchangeAlong_1 ?_
  refine jg_iload_n cx dX0_exchangeAlong_4 rfl ?_
  refine jg_ialdU cx dX0_exchangeAlong_5 ((jp_net_2 hb)) rfl (by omega) ?_
  refine jg_aload_n cx dX0_exchangeAlong_6 rfl ?_
  refine jg_get cx (jp_net_o hb) rfl inX0 1 (by decide) f15 rfl dX0_exchangeAlong_7 ?_
  refine jg_iload_n cx dX0_exchangeAlong_10 rfl ?_
  refine jg_ialdU cx dX0_exchangeAlong_11 ((jp_net_2 hb)) rfl (by omega) ?_
  refine jg_iadd cx dX0_exchangeAlong_12 ?_
  refine jg_istore_n cx (lv' := [(0, _), (1, _), (2, _), (3, _)]) dX0_exchangeAlong_13 (by decide) rfl ?_
  refine jg_aload_n cx dX0_exchangeAlong_14 rfl ?_
  refine jg_get cx (jp_net_o hb) rfl inX0 0 (by decide) f9 rfl dX0_exchangeAlong_15 ?_
  refine jg_iload_n cx dX0_exchangeAlong_18 rfl ?_
  refine jg_ialdU cx dX0_exchangeAlong_19 ((jp_net_1 hb)) rfl (by omega) ?_
  refine jg_aload_n cx dX0_exchangeAlong_20 rfl ?_
  refine jg_get cx (jp_net_o hb) rfl inX0 0 (by decide) f9 rfl dX0_exchangeAlong_21 ?_
  refine jg_iload_n cx dX0_exchangeAlong_24 rfl ?_
  refine jg_ialdU cx dX0_exchangeAlong_25 ((jp_net_1 hb)) rfl (by omega) ?_
  refine jg_iadd cx dX0_exchangeAlong_26 ?_
  refine jg_iconst cx (v := nI 1) dX0_exchangeAlong_27 (by decide) ?_
  refine jg_max cx (by decide +kernel) (by decide +kernel) (by decide +kernel) (by decide +kernel) (Nat.le_of_ble_eq_true rfl) (Nat.le_of_ble_eq_true rfl) dX0_exchangeAlong_28 ?_
  refine jg_istore cx (lv' := [(0, _), (1, _), (2, _), (3, _), (4, _)]) dX0_exchangeAlong_31 (by decide) rfl ?_
  refine jg_iload_n cx dX0_exchangeAlong_33 rfl ?_
  refine jg_aload_n cx dX0_exchangeAlong_34 rfl ?_
  refine jg_get cx (jp_net_o hb) rfl inX0 0 (by decide) f9 rfl dX0_exchangeAlong_35 ?_
  refine jg_iload_n cx dX0_exchangeAlong_38 rfl ?_
  refine jg_ialdU cx dX0_exchangeAlong_39 ((jp_net_1 hb)) rfl (by omega) ?_
  refine jg_imul cx dX0_exchangeAlong_40 ?_
  refine jg_iload cx dX0_exchangeAlong_41 rfl ?_
  refine jg_callSi cx (n := 2) (jc_J9_floorDiv_7cf53 E l (jf_two_ne N a c)) gX0_exchangeAlong_J9_floorDiv_7cf53 rfl ⟨rfl, rfl⟩ ⟨(Nat.le_of_ble_eq_true rfl), (Nat.le_of_ble_eq_true rfl)⟩ (by decide +kernel) rfl rfl (Nat.le_of_ble_eq_true rfl) dX0_exchangeAlong_43 ?_
  refine jg_istore cx (lv' := [(0, _), (1, _), (2, _), (3, _), (4, _), (5, _)]) dX0_exchangeAlong_46 (by decide) rfl ?_
  refine jg_iload_n cx dX0_exchangeAlong_48 rfl ?_
  refine jg_aload_n cx dX0_exchangeAlong_49 rfl ?_
  refine jg_get cx (jp_net_o hb) rfl inX0 0 (by decide) f9 rfl dX0_exchangeAlong_50 ?_
  refine jg_iload_n cx dX0_exchangeAlong_53 rfl ?_
  refine jg_ialdU cx dX0_exchangeAlong_54 ((jp_net_1 hb)) rfl (by omega) ?_
  refine jg_imul cx dX0_exchangeAlong_55 ?_
  refine jg_iload cx dX0_exchangeAlong_56 rfl ?_
  refine jg_callSi cx (n := 2) (jc_J9_floorDiv_7cf53 E l (jf_two_ne N a c)) gX0_exchangeAlong_J9_floorDiv_7cf53 rfl ⟨rfl, rfl⟩ ⟨(Nat.le_of_ble_eq_true rfl), (Nat.le_of_ble_eq_true rfl)⟩ (by decide +kernel) rfl rfl (Nat.le_of_ble_eq_true rfl) dX0_exchangeAlong_58 ?_
  refine jg_istore cx (lv' := [(0, _), (1, _), (2, _), (3, _), (4, _), (5, _), (6, _)]) dX0_exchangeAlong_61 (by decide) rfl ?_
  refine jg_aload_n cx dX0_exchangeAlong_63 rfl ?_
  refine jg_get cx (jp_net_o hb) rfl inX0 1 (by decide) f15 rfl dX0_exchangeAlong_64 ?_
  refine jg_iload_n cx dX0_exchangeAlong_67 rfl ?_
  refine jg_ialdU cx dX0_exchangeAlong_68 ((jp_net_2 hb)) rfl (by omega) ?_
  refine jg_aload_n cx dX0_exchangeAlong_69 rfl ?_
  refine jg_get cx (jp_net_o hb) rfl inX0 1 (by decide) f15 rfl dX0_exchangeAlong_70 ?_
  refine jg_iload_n cx dX0_exchangeAlong_73 rfl ?_
  refine jg_ialdU cx dX0_exchangeAlong_74 ((jp_net_2 hb)) rfl (by omega) ?_
  refine jg_icmp_lt cx (tgt := 84) dX0_exchangeAlong_75 (by decide) (fun c75 => ?_) (fun c75 => ?_)
  · refine jg_iload cx dX0_exchangeAlong_84 rfl ?_
    refine jg_aload_n cx dX0_exchangeAlong_86 rfl ?_
    refine jg_get cx (jp_net_o hb) rfl inX0 1 (by decide) f15 rfl dX0_exchangeAlong_87 ?_
    refine jg_iload_n cx dX0_exchangeAlong_90 rfl ?_
    refine jg_ialdU cx dX0_exchangeAlong_91 ((jp_net_2 hb)) rfl (by omega) ?_
    refine jg_isub cx dX0_exchangeAlong_92 ?_
    refine jg_abs cx (by decide +kernel) (by decide +kernel) (by decide +kernel) (by decide +kernel) (Nat.le_of_ble_eq_true rfl) (Nat.le_of_ble_eq_true rfl) dX0_exchangeAlong_93 ?_
    refine jg_istore cx (lv' := [(0, _), (1, _), (2, _), (3, _), (4, _), (5, _), (6, _), (7, _)]) dX0_exchangeAlong_96 (by decide) rfl ?_
    refine jg_aload_n cx dX0_exchangeAlong_98 rfl ?_
    refine jg_get cx (jp_net_o hb) rfl inX0 1 (by decide) f15 rfl dX0_exchangeAlong_99 ?_
    refine jg_iload_n cx dX0_exchangeAlong_102 rfl ?_
    refine jg_iload cx dX0_exchangeAlong_103 rfl ?_
    refine jg_iastU cx dX0_exchangeAlong_105 ((jp_net_2 hb)) rfl (by omega) ?_
    refine jg_aload_n cx dX0_exchangeAlong_106 rfl ?_
    refine jg_get cx (jp_net_o hb) rfl inX0 1 (by decide) f15 rfl dX0_exchangeAlong_107 ?_
    refine jg_iload_n cx dX0_exchangeAlong_110 rfl ?_
    refine jg_iload_n cx dX0_exchangeAlong_111 rfl ?_
    refine jg_iload cx dX0_exchangeAlong_112 rfl ?_
    refine jg_isub cx dX0_exchangeAlong_114 ?_
    refine jg_iastU cx dX0_exchangeAlong_115 ((jp_net_2 hb)) rfl (by omega) ?_
    refine jg_iload cx dX0_exchangeAlong_116 rfl ?_
    exact jg_iret cx dX0_exchangeAlong_118 (⟨(by first | with_reducible rfl | (simp only [jf_absI, jf_exF, if_pos c75, ↓reduceIte, Bool.false_eq_true, Bool.true_eq_false, reduceCtorEq, eq_self, if_true, if_false, Bool.not_true, Bool.not_false]; first | done | rfl)), (by first | with_reducible rfl | (simp only [jf_exA, jf_exF, if_pos c75, ↓reduceIte, Bool.false_eq_true, Bool.true_eq_false, reduceCtorEq, eq_self, if_true, if_false, Bool.not_true, Bool.not_false]; first | done | rfl))⟩)
  · refine jg_iload_n cx dX0_exchangeAlong_78 rfl ?_
    refine jg_iload cx dX0_exchangeAlong_79 rfl ?_
    refine jg_isub cx dX0_exchangeAlong_81 ?_
    refine jg_istore cx (lv' := [(0, _), (1, _), (2, _), (3, _), (4, _), (5, _), (6, _)]) dX0_exchangeAlong_82 (by decide) rfl ?_
    refine jg_iload cx dX0_exchangeAlong_84 rfl ?_
    refine jg_aload_n cx dX0_exchangeAlong_86 rfl ?_
    refine jg_get cx (jp_net_o hb) rfl inX0 1 (by decide) f15 rfl dX0_exchangeAlong_87 ?_
    refine jg_iload_n cx dX0_exchangeAlong_90 rfl ?_
    refine jg_ialdU cx dX0_exchangeAlong_91 ((jp_net_2 hb)) rfl (by omega) ?_
    refine jg_isub cx dX0_exchangeAlong_92 ?_
    refine jg_abs cx (by decide +kernel) (by decide +kernel) (by decide +kernel) (by decide +kernel) (Nat.le_of_ble_eq_true rfl) (Nat.le_of_ble_eq_true rfl) dX0_exchangeAlong_93 ?_
    refine jg_istore cx (lv' := [(0, _), (1, _), (2, _), (3, _), (4, _), (5, _), (6, _), (7, _)]) dX0_exchangeAlong_96 (by decide) rfl ?_
    refine jg_aload_n cx dX0_exchangeAlong_98 rfl ?_
    refine jg_get cx (jp_net_o hb) rfl inX0 1 (by decide) f15 rfl dX0_exchangeAlong_99 ?_
    refine jg_iload_n cx dX0_exchangeAlong_102 rfl ?_
    refine jg_iload cx dX0_exchangeAlong_103 rfl ?_
    refine jg_iastU cx dX0_exchangeAlong_105 ((jp_net_2 hb)) rfl (by omega) ?_
    refine jg_aload_n cx dX0_exchangeAlong_106 rfl ?_
    refine jg_get cx (jp_net_o hb) rfl inX0 1 (by decide) f15 rfl dX0_exchangeAlong_107 ?_
    refine jg_iload_n cx dX0_exchangeAlong_110 rfl ?_
    refine jg_iload_n cx dX0_exchangeAlong_111 rfl ?_
    refine jg_iload cx dX0_exchangeAlong_112 rfl ?_
    refine jg_isub cx dX0_exchangeAlong_114 ?_
    refine jg_iastU cx dX0_exchangeAlong_115 ((jp_net_2 hb)) rfl (by omega) ?_
    refine jg_iload cx dX0_exchangeAlong_116 rfl ?_
    exact jg_iret cx dX0_exchangeAlong_118 (⟨(by first | with_reducible rfl | (simp only [jf_absI, jf_exF, if_neg c75, ↓reduceIte, Bool.false_eq_true, Bool.true_eq_false, reduceCtorEq, eq_self, if_true, if_false, Bool.not_true, Bool.not_false]; first | done | rfl)), (by first | with_reducible rfl | (simp only [jf_exA, jf_exF, if_neg c75, ↓reduceIte, Bool.false_eq_true, Bool.true_eq_false, reduceCtorEq, eq_self, if_true, if_false, Bool.not_true, Bool.not_false]; first | done | rfl))⟩)
def jf_exS (tu : Int32) (a c : Nat) (S : jf_B × Int32) : jf_B × Int32 := if jf_joins S.1 a c then (if S.1 5 (jf_spot a c) = tu then (jf_exA S.1 a c, S.2 + jf_absI (jf_exF S.1 a c - S.1 2 a)) else S) else S
def jf_exR (tu : Int32) (a : Nat) (S : jf_B × Int32) : jf_B × Int32 := jf_fr (jf_exS tu a) S (a + 1) (8 - (a + 1))
def jf_turn (N : jf_B) : Int32 := jf_rem (N 0 8) (jf_colours N)
def jf_exch (N : jf_B) : jf_B × Int32 := jf_it (jf_exR (jf_turn N)) (N, nI 0) 8
set_option maxHeartbeats 1000000 in
set_option maxRecDepth 100000 in
theorem jc_X0_exchange (E : jp_E) (l : Launch) {b : Nat} {h : jp_H} {N : jf_B} {L : jf_L} (hb : jp_net b)  : jc_M E l yX0_exchange wsX0_exchange ({ frames := 2, cells := 0, slots := 0, locals := 49 } : Room) [.ref (E.2.1 b 0)] (jp_u h b N L) (jp_R (some (.int ((jf_exch N).2))) (jp_u h b ((jf_exch N).1) L)) := by
  refine jc_of (cc := cX0_exchange) (maxL := 5) (ret := some .int) (own := RX0) (lv := [(0, _)]) (by decide) rfl rfl (Nat.le_of_ble_eq_true rfl) rfl (fun X cx => ?_)
  have inX0 : ∀ w ∈ u_ws RX0 TX0 9, w ∈ wsX0_exchange := by decide +kernel
  have f24 : Cond.fieldLink RX0 24 "JobSpread$Net" "colour" "[I" ∈ wsX0_exchange := by decide +kernel
  have f37 : Cond.fieldLink RX0 37 "JobSpread$Net" "rounds" "I" ∈ wsX0_exchange := by decide +kernel
  refine jg_aload_n cx dX0_exchange_0 rfl ?_
  refine jg_getU cx (jp_net_o hb) rfl inX0 8 (by decide) f37 rfl dX0_exchange_1 ?_
  refine jg_aload_n cx dX0_exchange_4 rfl ?_
  refine jg_callVi cx (n := 0) (jc_X0_colours E l hb) gX0_exchange_X0_colours rfl ⟨rfl, rfl⟩ ⟨(Nat.le_of_ble_eq_true rfl), (Nat.le_of_ble_eq_true rfl)⟩ (by decide +kernel) (jp_net_o hb) rfl rfl rfl (Nat.le_of_ble_eq_true rfl) dX0_exchange_5 ?_
  refine jg_irem cx dX0_exchange_8 (jf_colours_ne N) ?_
  refine jg_istore_n cx (lv' := [(0, _), (1, _)]) dX0_exchange_9 (by decide) rfl ?_
  refine jg_iconst cx (v := nI 0) dX0_exchange_10 (by decide) ?_
  refine jg_istore_n cx (lv' := [(0, _), (1, _), (2, _)]) dX0_exchange_11 (by decide) rfl ?_
  refine jg_iconst cx (v := nI 0) dX0_exchange_12 (by decide) ?_
  refine jg_istore_n cx (lv' := [(0, _), (1, _), (2, _), (3, _)]) dX0_exchange_13 (by decide) rfl ?_
  have lp14 : ∀ (d14 a : Nat), a + d14 = 8 → X 14 [(0, .ref (E.2.1 b 0)), (1, .int (jf_turn N)), (2, .int (jf_it (jf_exR (jf_turn N)) (N, nI 0) a).2), (3, .int (nI a))] [] (jp_u h b (jf_it (jf_exR (jf_turn N)) (N, nI 0) a).1 L) := by
    intro d14
    induction d14 with
    | zero =>
      intro a  hr14 
      obtain rfl : a = 8 := by omega
      refine jg_iload_n cx dX0_exchange_14 rfl ?_
      refine jg_bipush cx (v := nI 8) dX0_exchange_15 (by decide) ?_
      refine jg_icmpN_ge cx (tgt := 79) dX0_exchange_17 (by decide) (by omega) (by omega) (fun c17 => ?_) (fun c17 => ?_)
      · refine jg_iload_n cx dX0_exchange_79 rfl ?_
        exact jg_iret cx dX0_exchange_80 (⟨(by first | with_reducible rfl | (simp only [jf_exch, ↓reduceIte, Bool.false_eq_true, Bool.true_eq_false, reduceCtorEq, eq_self, if_true, if_false, Bool.not_true, Bool.not_false]; first | done | rfl)), (by first | with_reducible rfl | (simp only [jf_exch, ↓reduceIte, Bool.false_eq_true, Bool.true_eq_false, reduceCtorEq, eq_self, if_true, if_false, Bool.not_true, Bool.not_false]; first | done | rfl))⟩)
      · exact absurd hr14 (by omega)
    | succ d14 ih14 =>
      intro a  hr14 
      refine jg_iload_n cx dX0_exchange_14 rfl ?_
      refine jg_bipush cx (v := nI 8) dX0_exchange_15 (by decide) ?_
      refine jg_icmpN_ge cx (tgt := 79) dX0_exchange_17 (by decide) (by omega) (by omega) (fun c17 => ?_) (fun c17 => ?_)
      · exact absurd hr14 (by omega)
      · refine jg_iload_n cx dX0_exchange_20 rfl ?_
        refine jg_iconst cx (v := nI 1) dX0_exchange_21 (by decide) ?_
        refine jg_iaddN cx dX0_exchange_22 ?_
        refine jg_istore cx (lv' := [(0, _), (1, _), (2, _), (3, _), (4, _)]) dX0_exchange_23 (by decide) rfl ?_
        have lp25 : ∀ (d25 n : Nat), a + 1 + n + d25 = 8 → X 25 [(0, .ref (E.2.1 b 0)), (1, .int (jf_turn N)), (2, .int (jf_fr (jf_exS (jf_turn N) a) (jf_it (jf_exR (jf_turn N)) (N, nI 0) a) (a + 1) n).2), (3, .int (nI a)), (4, .int (nI (a + 1 + n)))] [] (jp_u h b (jf_fr (jf_exS (jf_turn N) a) (jf_it (jf_exR (jf_turn N)) (N, nI 0) a) (a + 1) n).1 L) := by
          intro d25
          induction d25 with
          | zero =>
            intro n  hr25 
            obtain rfl : n = 8 - (a + 1) := by omega
            refine jg_iload cx dX0_exchange_25 rfl ?_
            refine jg_bipush cx (v := nI 8) dX0_exchange_27 (by decide) ?_
            refine jg_icmpN_ge cx (tgt := 73) dX0_exchange_29 (by decide) (by omega) (by omega) (fun c29 => ?_) (fun c29 => ?_)
            · refine jg_iincN cx (d := 1) (lv' := [(0, _), (1, _), (2, _), (3, _), (4, _)]) dX0_exchange_73 rfl (by decide) (by decide) rfl ?_
              refine jg_goto cx (tgt := 14) dX0_exchange_76 (by decide) ?_
              refine jg_sub cx (lv' := [(0, _), (1, _), (2, _), (3, _)]) [0, 1, 2, 3] rfl ?_
              exact jg_to (ih14 (a + 1)  (by omega) ) rfl rfl rfl
            · exact absurd hr25 (by omega)
          | succ d25 ih25 =>
            intro n  hr25 
            refine jg_iload cx dX0_exchange_25 rfl ?_
            refine jg_bipush cx (v := nI 8) dX0_exchange_27 (by decide) ?_
            refine jg_icmpN_ge cx (tgt := 73) dX0_exchange_29 (by decide) (by omega) (by omega) (fun c29 => ?_) (fun c29 => ?_)
            · exact absurd hr25 (by omega)
            · refine jg_aload_n cx dX0_exchange_32 rfl ?_
              refine jg_iload_n cx dX0_exchange_33 rfl ?_
              refine jg_iload cx dX0_exchange_34 rfl ?_
              refine jg_callVi cx (n := 2) (jc_X0_joins E l hb (by omega) (by omega)) gX0_exchange_X0_joins rfl ⟨rfl, rfl⟩ ⟨(Nat.le_of_ble_eq_true rfl), (Nat.le_of_ble_eq_true rfl)⟩ (by decide +kernel) (jp_net_o hb) rfl rfl rfl (Nat.le_of_ble_eq_true rfl) dX0_exchange_36 ?_
              refine jg_ifb_eq cx (tgt := 67) dX0_exchange_39 (by decide) (fun c39 => ?_) (fun c39 => ?_)
              · refine jg_iincN cx (d := 1) (lv' := [(0, _), (1, _), (2, _), (3, _), (4, _)]) dX0_exchange_67 rfl (by decide) (by decide) rfl ?_
                refine jg_goto cx (tgt := 25) dX0_exchange_70 (by decide) ?_
                exact jg_to (ih25 (n + 1)  (by omega) ) (by first | with_reducible rfl | (simp only [jf_fr, jf_exS, c39, ↓reduceIte, Bool.false_eq_true, Bool.true_eq_false, reduceCtorEq, eq_self, if_true, if_false, Bool.not_true, Bool.not_false]; first | done | rfl)) (by first | with_reducible rfl | (simp only [jf_fr, jf_exS, c39, ↓reduceIte, Bool.false_eq_true, Bool.true_eq_false, reduceCtorEq, eq_self, if_true, if_false, Bool.not_true, Bool.not_false]; first | done | rfl)) (by first | with_reducible rfl | (simp only [jf_fr, jf_exS, c39, ↓reduceIte, Bool.false_eq_true, Bool.true_eq_false, reduceCtorEq, eq_self, if_true, if_false, Bool.not_true, Bool.not_false]; first | done | rfl))
              · refine jg_aload_n cx dX0_exchange_42 rfl ?_
                refine jg_get cx (jp_net_o hb) rfl inX0 4 (by decide) f24 rfl dX0_exchange_43 ?_
                refine jg_iload_n cx dX0_exchange_46 rfl ?_
                refine jg_iload cx dX0_exchange_47 rfl ?_
                refine jg_callSNi cx (n := 2) (jc_X2_spotN E l (by omega) (by omega)) gX0_exchange_X2_spot_n46 (by decide +kernel) (by decide +kernel) (by decide +kernel) rfl ⟨rfl, rfl⟩ ⟨(Nat.le_of_ble_eq_true rfl), (Nat.le_of_ble_eq_true rfl)⟩ (by decide +kernel) rfl rfl (Nat.le_of_ble_eq_true rfl) dX0_exchange_49 ?_
                refine jg_ialdU cx dX0_exchange_52 ((jp_net_5 hb)) rfl (jf_spot_lt (by omega) (by omega)) ?_
                refine jg_iload_n cx dX0_exchange_53 rfl ?_
                refine jg_icmp_ne cx (tgt := 67) dX0_exchange_54 (by decide) (fun c54 => ?_) (fun c54 => ?_)
                · refine jg_iincN cx (d := 1) (lv' := [(0, _), (1, _), (2, _), (3, _), (4, _)]) dX0_exchange_67 rfl (by decide) (by decide) rfl ?_
                  refine jg_goto cx (tgt := 25) dX0_exchange_70 (by decide) ?_
                  exact jg_to (ih25 (n + 1)  (by omega) ) (by first | with_reducible rfl | (simp only [jf_fr, jf_exS, c39, if_neg c54, ↓reduceIte, Bool.false_eq_true, Bool.true_eq_false, reduceCtorEq, eq_self, if_true, if_false, Bool.not_true, Bool.not_false]; first | done | rfl)) (by first | with_reducible rfl | (simp only [jf_fr, jf_exS, c39, if_neg c54, ↓reduceIte, Bool.false_eq_true, Bool.true_eq_false, reduceCtorEq, eq_self, if_true, if_false, Bool.not_true, Bool.not_false]; first | done | rfl)) (by first | with_reducible rfl | (simp only [jf_fr, jf_exS, c39, if_neg c54, ↓reduceIte, Bool.false_eq_true, Bool.true_eq_false, reduceCtorEq, eq_self, if_true, if_false, Bool.not_true, Bool.not_false]; first | done | rfl))
                · refine jg_iload_n cx dX0_exchange_57 rfl ?_
                  refine jg_aload_n cx dX0_exchange_58 rfl ?_
                  refine jg_iload_n cx dX0_exchange_59 rfl ?_
                  refine jg_iload cx dX0_exchange_60 rfl ?_
                  refine jg_callVi cx (n := 2) (jc_X0_exchangeAlong E l hb (by omega) (by omega)) gX0_exchange_X0_exchangeAlong rfl ⟨rfl, rfl⟩ ⟨(Nat.le_of_ble_eq_true rfl), (Nat.le_of_ble_eq_true rfl)⟩ (by decide +kernel) (jp_net_o hb) rfl rfl rfl (Nat.le_of_ble_eq_true rfl) dX0_exchange_62 ?_
                  refine jg_iadd cx dX0_exchange_65 ?_
                  refine jg_istore_n cx (lv' := [(0, _), (1, _), (2, _), (3, _), (4, _)]) dX0_exchange_66 (by decide) rfl ?_
                  refine jg_iincN cx (d := 1) (lv' := [(0, _), (1, _), (2, _), (3, _), (4, _)]) dX0_exchange_67 rfl (by decide) (by decide) rfl ?_
                  refine jg_goto cx (tgt := 25) dX0_exchange_70 (by decide) ?_
                  exact jg_to (ih25 (n + 1)  (by omega) ) (by first | with_reducible rfl | (simp only [jf_fr, jf_exS, c39, if_pos c54, ↓reduceIte, Bool.false_eq_true, Bool.true_eq_false, reduceCtorEq, eq_self, if_true, if_false, Bool.not_true, Bool.not_false]; first | done | rfl)) (by first | with_reducible rfl | (simp only [jf_fr, jf_exS, c39, if_pos c54, ↓reduceIte, Bool.false_eq_true, Bool.true_eq_false, reduceCtorEq, eq_self, if_true, if_false, Bool.not_true, Bool.not_false]; first | done | rfl)) (by first | with_reducible rfl | (simp only [jf_fr, jf_exS, c39, if_pos c54, ↓reduceIte, Bool.false_eq_true, Bool.true_eq_false, reduceCtorEq, eq_self, if_true, if_false, Bool.not_true, Bool.not_false]; first | done | rfl))
        exact jg_to (lp25 (8 - (a + 1)) 0  (by omega) ) rfl rfl rfl
  exact jg_to (lp14 8 0  (by omega) ) rfl rfl rfl
