def jf_absI (x : Int32) : Int32 := if 0 ≤ x then x else 0 - x
def jf_want (N : jf_B) (a c : Nat) : Int32 := N 6 (jf_spot a c) + N 2 a * N 1 c - N 2 c * N 1 a
def jf_goes (me want : Int32) : Int32 := if me ≤ 0 then nI 0 else want / me
def jf_along (N : jf_B) (a c : Nat) (me : Int32) : jf_B :=
  let go := jf_goes me (jf_want N a c)
  let N1 := jf_w N 6 (jf_spot a c) (jf_want N a c - me * go)
  let N2 := jf_w N1 7 a (N1 7 a - go)
  jf_w N2 7 c (N2 7 c + go)
set_option maxHeartbeats 1000000 in
set_option maxRecDepth 100000 in
theorem jc_X0_flowAlong (E : jp_E) (l : Launch) {b : Nat} {h : jp_H} {N : jf_B} {L : jf_L} (hb : jp_net b) {a c : Nat} {me : Int32} (ha : a < 8) (hc : c < 8) : jc_M E l yX0_flowAlong wsX0_flowAlong ({ frames := 1, cells := 0, slots := 0, locals := 21 } : Room) [.ref (E.2.1 b 0), .int (nI a), .int (nI c), .int me] (jp_u h b N L) (jp_R (some (.int (jf_absI (jf_goes me (jf_want N a c))))) (jp_u h b (jf_along N a c me) L)) := by
  refine jc_of (cc := cX0_flowAlong) (maxL := 7) (ret := some .int) (own := RX0) (lv := [(0, _), (1, _), (2, _), (3, _)]) (by decide) rfl rfl (Nat.le_of_ble_eq_true rfl) rfl (fun X cx => ?_)
  have inX0 : ∀ w ∈ u_ws RX0 TX0 9, w ∈ wsX0_flowAlong := by decide +kernel
  have f9 : Cond.fieldLink RX0 9 "JobSpread$Net" "speed" "[I" ∈ wsX0_flowAlong := by decide +kernel
  have f15 : Cond.fieldLink RX0 15 "JobSpread$Net" "jobs" "[I" ∈ wsX0_flowAlong := by decide +kernel
  have f27 : Cond.fieldLink RX0 27 "JobSpread$Net" "carry" "[I" ∈ wsX0_flowAlong := by decide +kernel
  have f30 : Cond.fieldLink RX0 30 "JobSpread$Net" "change" "[I" ∈ wsX0_flowAlong := by decide +kernel
  refine jg_iload_n cx dX0_flowAlong_0 rfl ?_
  refine jg_iload_n cx dX0_flowAlong_1 rfl ?_
  refine jg_callSNi cx (n := 2) (jc_X2_spotN E l (by omega) (by omega)) gX0_flowAlong_X2_spot_n46 (by decide +kernel) (by decide +kernel) (by decide +kernel) rfl ⟨rfl, rfl⟩ ⟨(Nat.le_of_ble_eq_true rfl), (Nat.le_of_ble_eq_true rfl)⟩ (by decide +kernel) rfl rfl (Nat.le_of_ble_eq_true rfl) dX0_flowAlong_2 ?_
  refine jg_istore cx (lv' := [(0, _), (1, _), (2, _), (3, _), (4, _)]) dX0_flowAlong_5 (by decide) rfl ?_
  refine jg_aload_n cx dX0_flowAlong_7 rfl ?_
  refine jg_get cx (jp_net_o hb) rfl inX0 5 (by decide) f27 rfl dX0_flowAlong_8 ?_
  refine jg_iload cx dX0_flowAlong_11 rfl ?_
  refine jg_ialdU cx dX0_flowAlong_13 ((jp_net_6 hb)) rfl (jf_spot_lt (by omega) (by omega)) ?_
  refine jg_aload_n cx dX0_flowAlong_14 rfl ?_
  refine jg_get cx (jp_net_o hb) rfl inX0 1 (by decide) f15 rfl dX0_flowAlong_15 ?_
  refine jg_iload_n cx dX0_flowAlong_18 rfl ?_
  refine jg_ialdU cx dX0_flowAlong_19 ((jp_net_2 hb)) rfl (by omega) ?_
  refine jg_aload_n cx dX0_flowAlong_20 rfl ?_
  refine jg_get cx (jp_net_o hb) rfl inX0 0 (by decide) f9 rfl dX0_flowAlong_21 ?_
  refine jg_iload_n cx dX0_flowAlong_24 rfl ?_
  refine jg_ialdU cx dX0_flowAlong_25 ((jp_net_1 hb)) rfl (by omega) ?_
  refine jg_imul cx dX0_flowAlong_26 ?_
  refine jg_iadd cx dX0_flowAlong_27 ?_
  refine jg_aload_n cx dX0_flowAlong_28 rfl ?_
  refine jg_get cx (jp_net_o hb) rfl inX0 1 (by decide) f15 rfl dX0_flowAlong_29 ?_
  refine jg_iload_n cx dX0_flowAlong_32 rfl ?_
  refine jg_ialdU cx dX0_flowAlong_33 ((jp_net_2 hb)) rfl (by omega) ?_
  refine jg_aload_n cx dX0_flowAlong_34 rfl ?_
  refine jg_get cx (jp_net_o hb) rfl inX0 0 (by decide) f9 rfl dX0_flowAlong_35 ?_
  refine jg_iload_n cx dX0_flowAlong_38 rfl ?_
  refine jg_ialdU cx dX0_flowAlong_39 ((jp_net_1 hb)) rfl (by omega) ?_
  refine jg_imul cx dX0_flowAlong_40 ?_
  refine jg_isub cx dX0_flowAlong_41 ?_
  refine jg_istore cx (lv' := [(0, _), (1, _), (2, _), (3, _), (4, _), (5, _)]) dX0_flowAlong_42 (by decide) rfl ?_
  refine jg_iload_n cx dX0_flowAlong_44 rfl ?_
  refine jg_if_le cx (tgt := 55) dX0_flowAlong_45 (by decide) (fun c45 => ?_) (fun c45 => ?_)
  · refine jg_iconst cx (v := nI 0) dX0_flowAlong_55 (by decide) ?_
    refine jg_istore cx (lv' := [(0, _), (1, _), (2, _), (3, _), (4, _), (5, _), (6, _)]) dX0_flowAlong_56 (by decide) rfl ?_
    refine jg_aload_n cx dX0_flowAlong_58 rfl ?_
    refine jg_get cx (jp_net_o hb) rfl inX0 5 (by decide) f27 rfl dX0_flowAlong_59 ?_
    refine jg_iload cx dX0_flowAlong_62 rfl ?_
    refine jg_iload cx dX0_flowAlong_64 rfl ?_
    refine jg_iload_n cx dX0_flowAlong_66 rfl ?_
    refine jg_iload cx dX0_flowAlong_67 rfl ?_
    refine jg_imul cx dX0_flowAlong_69 ?_
    refine jg_isub cx dX0_flowAlong_70 ?_
    refine jg_iastU cx dX0_flowAlong_71 ((jp_net_6 hb)) rfl (jf_spot_lt (by omega) (by omega)) ?_
    refine jg_aload_n cx dX0_flowAlong_72 rfl ?_
    refine jg_get cx (jp_net_o hb) rfl inX0 6 (by decide) f30 rfl dX0_flowAlong_73 ?_
    refine jg_iload_n cx dX0_flowAlong_76 rfl ?_
    refine jg_dup2 cx dX0_flowAlong_77 rfl rfl ?_
    refine jg_ialdU cx dX0_flowAlong_78 ((jp_net_7 hb)) rfl (by omega) ?_
    refine jg_iload cx dX0_flowAlong_79 rfl ?_
    refine jg_isub cx dX0_flowAlong_81 ?_
    refine jg_iastU cx dX0_flowAlong_82 ((jp_net_7 hb)) rfl (by omega) ?_
    refine jg_aload_n cx dX0_flowAlong_83 rfl ?_
    refine jg_get cx (jp_net_o hb) rfl inX0 6 (by decide) f30 rfl dX0_flowAlong_84 ?_
    refine jg_iload_n cx dX0_flowAlong_87 rfl ?_
    refine jg_dup2 cx dX0_flowAlong_88 rfl rfl ?_
    refine jg_ialdU cx dX0_flowAlong_89 ((jp_net_7 hb)) rfl (by omega) ?_
    refine jg_iload cx dX0_flowAlong_90 rfl ?_
    refine jg_iadd cx dX0_flowAlong_92 ?_
    refine jg_iastU cx dX0_flowAlong_93 ((jp_net_7 hb)) rfl (by omega) ?_
    refine jg_iload cx dX0_flowAlong_94 rfl ?_
    refine jg_abs cx (by decide +kernel) (by decide +kernel) (by decide +kernel) (by decide +kernel) (Nat.le_of_ble_eq_true rfl) (Nat.le_of_ble_eq_true rfl) dX0_flowAlong_96 ?_
    exact jg_iret cx dX0_flowAlong_99 (⟨(by first | with_reducible rfl | (simp only [jf_absI, jf_goes, jf_want, if_pos c45, ↓reduceIte, Bool.false_eq_true, Bool.true_eq_false, reduceCtorEq, eq_self, if_true, if_false, Bool.not_true, Bool.not_false]; first | done | rfl)), (by first | with_reducible rfl | (simp only [jf_along, jf_goes, jf_want, if_pos c45, ↓reduceIte, Bool.false_eq_true, Bool.true_eq_false, reduceCtorEq, eq_self, if_true, if_false, Bool.not_true, Bool.not_false]; first | done | rfl))⟩)
  · refine jg_iload cx dX0_flowAlong_48 rfl ?_
    refine jg_iload_n cx dX0_flowAlong_50 rfl ?_
    refine jg_idiv cx dX0_flowAlong_51 (fun q => c45 (by rw [q]; decide)) ?_
    refine jg_goto cx (tgt := 56) dX0_flowAlong_52 (by decide) ?_
    refine jg_istore cx (lv' := [(0, _), (1, _), (2, _), (3, _), (4, _), (5, _), (6, _)]) dX0_flowAlong_56 (by decide) rfl ?_
    refine jg_aload_n cx dX0_flowAlong_58 rfl ?_
    refine jg_get cx (jp_net_o hb) rfl inX0 5 (by decide) f27 rfl dX0_flowAlong_59 ?_
    refine jg_iload cx dX0_flowAlong_62 rfl ?_
    refine jg_iload cx dX0_flowAlong_64 rfl ?_
    refine jg_iload_n cx dX0_flowAlong_66 rfl ?_
    refine jg_iload cx dX0_flowAlong_67 rfl ?_
    refine jg_imul cx dX0_flowAlong_69 ?_
    refine jg_isub cx dX0_flowAlong_70 ?_
    refine jg_iastU cx dX0_flowAlong_71 ((jp_net_6 hb)) rfl (jf_spot_lt (by omega) (by omega)) ?_
    refine jg_aload_n cx dX0_flowAlong_72 rfl ?_
    refine jg_get cx (jp_net_o hb) rfl inX0 6 (by decide) f30 rfl dX0_flowAlong_73 ?_
    refine jg_iload_n cx dX0_flowAlong_76 rfl ?_
    refine jg_dup2 cx dX0_flowAlong_77 rfl rfl ?_
    refine jg_ialdU cx dX0_flowAlong_78 ((jp_net_7 hb)) rfl (by omega) ?_
    refine jg_iload cx dX0_flowAlong_79 rfl ?_
    refine jg_isub cx dX0_flowAlong_81 ?_
    refine jg_iastU cx dX0_flowAlong_82 ((jp_net_7 hb)) rfl (by omega) ?_
    refine jg_aload_n cx dX0_flowAlong_83 rfl ?_
    refine jg_get cx (jp_net_o hb) rfl inX0 6 (by decide) f30 rfl dX0_flowAlong_84 ?_
    refine jg_iload_n cx dX0_flowAlong_87 rfl ?_
    refine jg_dup2 cx dX0_flowAlong_88 rfl rfl ?_
    refine jg_ialdU cx dX0_flowAlong_89 ((jp_net_7 hb)) rfl (by omega) ?_
    refine jg_iload cx dX0_flowAlong_90 rfl ?_
    refine jg_iadd cx dX0_flowAlong_92 ?_
    refine jg_iastU cx dX0_flowAlong_93 ((jp_net_7 hb)) rfl (by omega) ?_
    refine jg_iload cx dX0_flowAlong_94 rfl ?_
    refine jg_abs cx (by decide +kernel) (by decide +kernel) (by decide +kernel) (by decide +kernel) (Nat.le_of_ble_eq_true rfl) (Nat.le_of_ble_eq_true rfl) dX0_flowAlong_96 ?_
    exact jg_iret cx dX0_flowAlong_99 (⟨(by first | with_reducible rfl | (simp only [jf_absI, jf_goes, jf_want, if_neg c45, ↓reduceIte, Bool.false_eq_true, Bool.true_eq_false, reduceCtorEq, eq_self, if_true, if_false, Bool.not_true, Bool.not_false]; first | done | rfl)), (by first | with_reducible rfl | (simp only [jf_along, jf_goes, jf_want, if_neg c45, ↓reduceIte, Bool.false_eq_true, Bool.true_eq_false, reduceCtorEq, eq_self, if_true, if_false, Bool.not_true, Bool.not_false]; first | done | rfl))⟩)
def jf_flS (me : Int32) (a c : Nat) (S : jf_B × Int32) : jf_B × Int32 := if jf_joins S.1 a c then (jf_along S.1 a c me, S.2 + jf_absI (jf_goes me (jf_want S.1 a c))) else S
def jf_flR (me : Int32) (a : Nat) (S : jf_B × Int32) : jf_B × Int32 := jf_fr (jf_flS me a) S (a + 1) (8 - (a + 1))
def jf_flow (N : jf_B) : jf_B × Int32 := (jf_settle (jf_it (jf_flR (jf_measure N)) (N, nI 0) 8).1, (jf_it (jf_flR (jf_measure N)) (N, nI 0) 8).2)
set_option maxHeartbeats 1000000 in
set_option maxRecDepth 100000 in
theorem jc_X0_flow (E : jp_E) (l : Launch) {b : Nat} {h : jp_H} {N : jf_B} {L : jf_L} (hb : jp_net b)  : jc_M E l yX0_flow wsX0_flow ({ frames := 2, cells := 0, slots := 0, locals := 47 } : Room) [.ref (E.2.1 b 0)] (jp_u h b N L) (jp_R (some (.int ((jf_flow N).2))) (jp_u h b ((jf_flow N).1) L)) := by
  refine jc_of (cc := cX0_flow) (maxL := 5) (ret := some .int) (own := RX0) (lv := [(0, _)]) (by decide) rfl rfl (Nat.le_of_ble_eq_true rfl) rfl (fun X cx => ?_)
  refine jg_aload_n cx dX0_flow_0 rfl ?_
  refine jg_callVi cx (n := 0) (jc_X0_measure E l hb) gX0_flow_X0_measure rfl ⟨rfl, rfl⟩ ⟨(Nat.le_of_ble_eq_true rfl), (Nat.le_of_ble_eq_true rfl)⟩ (by decide +kernel) (jp_net_o hb) rfl rfl rfl (Nat.le_of_ble_eq_true rfl) dX0_flow_1 ?_
  refine jg_istore_n cx (lv' := [(0, _), (1, _)]) dX0_flow_4 (by decide) rfl ?_
  refine jg_iconst cx (v := nI 0) dX0_flow_5 (by decide) ?_
  refine jg_istore_n cx (lv' := [(0, _), (1, _), (2, _)]) dX0_flow_6 (by decide) rfl ?_
  refine jg_iconst cx (v := nI 0) dX0_flow_7 (by decide) ?_
  refine jg_istore_n cx (lv' := [(0, _), (1, _), (2, _), (3, _)]) dX0_flow_8 (by decide) rfl ?_
  have lp9 : ∀ (d9 a : Nat), a + d9 = 8 → X 9 [(0, .ref (E.2.1 b 0)), (1, .int (jf_measure N)), (2, .int (jf_it (jf_flR (jf_measure N)) (N, nI 0) a).2), (3, .int (nI a))] [] (jp_u h b (jf_it (jf_flR (jf_measure N)) (N, nI 0) a).1 L) := by
    intro d9
    induction d9 with
    | zero =>
      intro a  hr9 
      obtain rfl : a = 8 := by omega
      refine jg_iload_n cx dX0_flow_9 rfl ?_
      refine jg_bipush cx (v := nI 8) dX0_flow_10 (by decide) ?_
      refine jg_icmpN_ge cx (tgt := 60) dX0_flow_12 (by decide) (by omega) (by omega) (fun c12 => ?_) (fun c12 => ?_)
      · refine jg_aload_n cx dX0_flow_60 rfl ?_
        refine jg_callVv cx (n := 0) (jc_X0_settle E l hb) gX0_flow_X0_settle rfl ⟨rfl, rfl⟩ ⟨(Nat.le_of_ble_eq_true rfl), (Nat.le_of_ble_eq_true rfl)⟩ (by decide +kernel) (jp_net_o hb) rfl rfl rfl (Nat.le_of_ble_eq_true rfl) dX0_flow_61 ?_
        refine jg_iload_n cx dX0_flow_64 rfl ?_
        exact jg_iret cx dX0_flow_65 (⟨(by first | with_reducible rfl | (simp only [jf_flow, ↓reduceIte, Bool.false_eq_true, Bool.true_eq_false, reduceCtorEq, eq_self, if_true, if_false, Bool.not_true, Bool.not_false]; first | done | rfl)), (by first | with_reducible rfl | (simp only [jf_flow, ↓reduceIte, Bool.false_eq_true, Bool.true_eq_false, reduceCtorEq, eq_self, if_true, if_false, Bool.not_true, Bool.not_false]; first | done | rfl))⟩)
      · exact absurd hr9 (by omega)
    | succ d9 ih9 =>
      intro a  hr9 
      refine jg_iload_n cx dX0_flow_9 rfl ?_
      refine jg_bipush cx (v := nI 8) dX0_flow_10 (by decide) ?_
      refine jg_icmpN_ge cx (tgt := 60) dX0_flow_12 (by decide) (by omega) (by omega) (fun c12 => ?_) (fun c12 => ?_)
      · exact absurd hr9 (by omega)
      · refine jg_iload_n cx dX0_flow_15 rfl ?_
        refine jg_iconst cx (v := nI 1) dX0_flow_16 (by decide) ?_
        refine jg_iaddN cx dX0_flow_17 ?_
        refine jg_istore cx (lv' := [(0, _), (1, _), (2, _), (3, _), (4, _)]) dX0_flow_18 (by decide) rfl ?_
        have lp20 : ∀ (d20 n : Nat), a + 1 + n + d20 = 8 → X 20 [(0, .ref (E.2.1 b 0)), (1, .int (jf_measure N)), (2, .int (jf_fr (jf_flS (jf_measure N) a) (jf_it (jf_flR (jf_measure N)) (N, nI 0) a) (a + 1) n).2), (3, .int (nI a)), (4, .int (nI (a + 1 + n)))] [] (jp_u h b (jf_fr (jf_flS (jf_measure N) a) (jf_it (jf_flR (jf_measure N)) (N, nI 0) a) (a + 1) n).1 L) := by
          intro d20
          induction d20 with
          | zero =>
            intro n  hr20 
            obtain rfl : n = 8 - (a + 1) := by omega
            refine jg_iload cx dX0_flow_20 rfl ?_
            refine jg_bipush cx (v := nI 8) dX0_flow_22 (by decide) ?_
            refine jg_icmpN_ge cx (tgt := 54) dX0_flow_24 (by decide) (by omega) (by omega) (fun c24 => ?_) (fun c24 => ?_)
            · refine jg_iincN cx (d := 1) (lv' := [(0, _), (1, _), (2, _), (3, _), (4, _)]) dX0_flow_54 rfl (by decide) (by decide) rfl ?_
              refine jg_goto cx (tgt := 9) dX0_flow_57 (by decide) ?_
              refine jg_sub cx (lv' := [(0, _), (1, _), (2, _), (3, _)]) [0, 1, 2, 3] rfl ?_
              exact jg_to (ih9 (a + 1)  (by omega) ) rfl rfl rfl
            · exact absurd hr20 (by omega)
          | succ d20 ih20 =>
            intro n  hr20 
            refine jg_iload cx dX0_flow_20 rfl ?_
            refine jg_bipush cx (v := nI 8) dX0_flow_22 (by decide) ?_
            refine jg_icmpN_ge cx (tgt := 54) dX0_flow_24 (by decide) (by omega) (by omega) (fun c24 => ?_) (fun c24 => ?_)
            · exact absurd hr20 (by omega)
            · refine jg_aload_n cx dX0_flow_27 rfl ?_
              refine jg_iload_n cx dX0_flow_28 rfl ?_
              refine jg_iload cx dX0_flow_29 rfl ?_
              refine jg_callVi cx (n := 2) (jc_X0_joins E l hb (by omega) (by omega)) gX0_flow_X0_joins rfl ⟨rfl, rfl⟩ ⟨(Nat.le_of_ble_eq_true rfl), (Nat.le_of_ble_eq_true rfl)⟩ (by decide +kernel) (jp_net_o hb) rfl rfl rfl (Nat.le_of_ble_eq_true rfl) dX0_flow_31 ?_
              refine jg_ifb_eq cx (tgt := 48) dX0_flow_34 (by decide) (fun c34 => ?_) (fun c34 => ?_)
              · refine jg_iincN cx (d := 1) (lv' := [(0, _), (1, _), (2, _), (3, _), (4, _)]) dX0_flow_48 rfl (by decide) (by decide) rfl ?_
                refine jg_goto cx (tgt := 20) dX0_flow_51 (by decide) ?_
                exact jg_to (ih20 (n + 1)  (by omega) ) (by first | with_reducible rfl | (simp only [jf_fr, jf_flS, c34, ↓reduceIte, Bool.false_eq_true, Bool.true_eq_false, reduceCtorEq, eq_self, if_true, if_false, Bool.not_true, Bool.not_false]; first | done | rfl)) (by first | with_reducible rfl | (simp only [jf_fr, jf_flS, c34, ↓reduceIte, Bool.false_eq_true, Bool.true_eq_false, reduceCtorEq, eq_self, if_true, if_false, Bool.not_true, Bool.not_false]; first | done | rfl)) (by first | with_reducible rfl | (simp only [jf_fr, jf_flS, c34, ↓reduceIte, Bool.false_eq_true, Bool.true_eq_false, reduceCtorEq, eq_self, if_true, if_false, Bool.not_true, Bool.not_false]; first | done | rfl))
              · refine jg_iload_n cx dX0_flow_37 rfl ?_
                refine jg_aload_n cx dX0_flow_38 rfl ?_
                refine jg_iload_n cx dX0_flow_39 rfl ?_
                refine jg_iload cx dX0_flow_40 rfl ?_
                refine jg_iload_n cx dX0_flow_42 rfl ?_
                refine jg_callVi cx (n := 3) (jc_X0_flowAlong E l hb (by omega) (by omega)) gX0_flow_X0_flowAlong rfl ⟨rfl, rfl⟩ ⟨(Nat.le_of_ble_eq_true rfl), (Nat.le_of_ble_eq_true rfl)⟩ (by decide +kernel) (jp_net_o hb) rfl rfl rfl (Nat.le_of_ble_eq_true rfl) dX0_flow_43 ?_
                refine jg_iadd cx dX0_flow_46 ?_
                refine jg_istore_n cx (lv' := [(0, _), (1, _), (2, _), (3, _), (4, _)]) dX0_flow_47 (by decide) rfl ?_
                refine jg_iincN cx (d := 1) (lv' := [(0, _), (1, _), (2, _), (3, _), (4, _)]) dX0_flow_48 rfl (by decide) (by decide) rfl ?_
                refine jg_goto cx (tgt := 20) dX0_flow_51 (by decide) ?_
                exact jg_to (ih20 (n + 1)  (by omega) ) (by first | with_reducible rfl | (simp only [jf_fr, jf_flS, c34, ↓reduceIte, Bool.false_eq_true, Bool.true_eq_false, reduceCtorEq, eq_self, if_true, if_false, Bool.not_true, Bool.not_false]; first | done | rfl)) (by first | with_reducible rfl | (simp only [jf_fr, jf_flS, c34, ↓reduceIte, Bool.false_eq_true, Bool.true_eq_false, reduceCtorEq, eq_self, if_true, if_false, Bool.not_true, Bool.not_false]; first | done | rfl)) (by first | with_reducible rfl | (simp only [jf_fr, jf_flS, c34, ↓reduceIte, Bool.false_eq_true, Bool.true_eq_false, reduceCtorEq, eq_self, if_true, if_false, Bool.not_true, Bool.not_false]; first | done | rfl))
        exact jg_to (lp20 (8 - (a + 1)) 0  (by omega) ) rfl rfl rfl
  exact jg_to (lp9 8 0  (by omega) ) rfl rfl rfl
