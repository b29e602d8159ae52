def jf_dfG (sl ea le fi slot : Int32) : Int32 := if le ≤ jf_rem (slot - fi + sl) sl then ea else ea + nI 1
def jf_dfS (sl ea le fi : Int32) (n o : Nat) (T : jf_B × Int32 × Int32) : jf_B × Int32 × Int32 := if jf_joins T.1 n o then (jf_w T.1 7 o (T.1 7 o + jf_dfG sl ea le fi T.2.1), T.2.1 + nI 1, T.2.2 + jf_dfG sl ea le fi T.2.1) else T
def jf_dfT (N : jf_B) (n : Nat) (i : Nat) : jf_B × Int32 × Int32 := jf_it (jf_dfS (jf_slots N n) (N 2 n / jf_slots N n) (jf_rem (N 2 n) (jf_slots N n)) (jf_rlo N n) n) (N, nI 0, nI 0) i
theorem jf_dfT_s (N : jf_B) (n i : Nat) : jf_dfT N n (i + 1) = jf_dfS (jf_slots N n) (N 2 n / jf_slots N n) (jf_rem (N 2 n) (jf_slots N n)) (jf_rlo N n) n i (jf_dfT N n i) := rfl
def jf_dealF (N : jf_B) (n : Nat) : jf_B × Int32 :=
  let T := jf_dfT N n 8
  let N1 := jf_w T.1 7 n (T.1 7 n - T.2.2)
  (jf_w N1 3 n (jf_rem (jf_rlo N n + jf_rem (N 2 n) (jf_slots N n)) (jf_slots N n)), T.2.2)
set_option maxHeartbeats 1000000 in
set_option maxRecDepth 100000 in
theorem jc_X0_dealFrom (E : jp_E) (l : Launch) {b : Nat} {h : jp_H} {N : jf_B} {L : jf_L} (hb : jp_net b) {n : Nat} (hn : n < 8) : jc_M E l yX0_dealFrom wsX0_dealFrom ({ frames := 2, cells := 0, slots := 0, locals := 43 } : Room) [.ref (E.2.1 b 0), .int (nI n)] (jp_u h b N L) (jp_R (some (.int ((jf_dealF N n).2))) (jp_u h b ((jf_dealF N n).1) L)) := by
  refine jc_of (cc := cX0_dealFrom) (maxL := 11) (ret := some .int) (own := RX0) (lv := [(0, _), (1, _)]) (by decide) rfl rfl (Nat.le_of_ble_eq_true rfl) rfl (fun X cx => ?_)
  have inX0 : ∀ w ∈ u_ws RX0 TX0 9, w ∈ wsX0_dealFrom := by decide +kernel
  have f15 : Cond.fieldLink RX0 15 "JobSpread$Net" "jobs" "[I" ∈ wsX0_dealFrom := by decide +kernel
  have f18 : Cond.fieldLink RX0 18 "JobSpread$Net" "rotor" "[I" ∈ wsX0_dealFrom := by decide +kernel
  have f30 : Cond.fieldLink RX0 30 "JobSpread$Net" "change" "[I" ∈ wsX0_dealFrom := by decide +kernel
  refine jg_aload_n cx dX0_dealFrom_0 rfl ?_
  refine jg_iload_n cx dX0_dealFrom_1 rfl ?_
  refine jg_callVi cx (n := 1) (jc_X0_slots E l hb (by omega)) gX0_dealFrom_X0_slots rfl ⟨rfl, rfl⟩ ⟨(Nat.le_of_ble_eq_true rfl), (Nat.le_of_ble_eq_true rfl)⟩ (by decide +kernel) (jp_net_o hb) rfl rfl rfl (Nat.le_of_ble_eq_true rfl) dX0_dealFrom_2 ?_
  refine jg_istore_n cx (lv' := [(0, _), (1, _), (2, _)]) dX0_dealFrom_5 (by decide) rfl ?_
  refine jg_aload_n cx dX0_dealFrom_6 rfl ?_
  refine jg_get cx (jp_net_o hb) rfl inX0 1 (by decide) f15 rfl dX0_dealFrom_7 ?_
  refine jg_iload_n cx dX0_dealFrom_10 rfl ?_
  refine jg_ialdU cx dX0_dealFrom_11 ((jp_net_2 hb)) rfl (by omega) ?_
  refine jg_iload_n cx dX0_dealFrom_12 rfl ?_
  refine jg_idiv cx dX0_dealFrom_13 (jf_slots_ne N n) ?_
  refine jg_istore_n cx (lv' := [(0, _), (1, _), (2, _), (3, _)]) dX0_dealFrom_14 (by decide) rfl ?_
  refine jg_aload_n cx dX0_dealFrom_15 rfl ?_
  refine jg_get cx (jp_net_o hb) rfl inX0 1 (by decide) f15 rfl dX0_dealFrom_16 ?_
  refine jg_iload_n cx dX0_dealFrom_19 rfl ?_
  refine jg_ialdU cx dX0_dealFrom_20 ((jp_net_2 hb)) rfl (by omega) ?_
  refine jg_iload_n cx dX0_dealFrom_21 rfl ?_
  refine jg_irem cx dX0_dealFrom_22 (jf_slots_ne N n) ?_
  refine jg_istore cx (lv' := [(0, _), (1, _), (2, _), (3, _), (4, _)]) dX0_dealFrom_23 (by decide) rfl ?_
  refine jg_aload_n cx dX0_dealFrom_25 rfl ?_
  refine jg_iload_n cx dX0_dealFrom_26 rfl ?_
  refine jg_callVi cx (n := 1) (jc_X0_rotorLeftOver E l hb (by omega)) gX0_dealFrom_X0_rotorLeftOver rfl ⟨rfl, rfl⟩ ⟨(Nat.le_of_ble_eq_true rfl), (Nat.le_of_ble_eq_true rfl)⟩ (by decide +kernel) (jp_net_o hb) rfl rfl rfl (Nat.le_of_ble_eq_true rfl) dX0_dealFrom_27 ?_
  refine jg_istore cx (lv' := [(0, _), (1, _), (2, _), (3, _), (4, _), (5, _)]) dX0_dealFrom_30 (by decide) rfl ?_
  refine jg_iconst cx (v := nI 0) dX0_dealFrom_32 (by decide) ?_
  refine jg_istore cx (lv' := [(0, _), (1, _), (2, _), (3, _), (4, _), (5, _), (6, _)]) dX0_dealFrom_33 (by decide) rfl ?_
  refine jg_iconst cx (v := nI 0) dX0_dealFrom_35 (by decide) ?_
  refine jg_istore cx (lv' := [(0, _), (1, _), (2, _), (3, _), (4, _), (5, _), (6, _), (7, _)]) dX0_dealFrom_36 (by decide) rfl ?_
  refine jg_iconst cx (v := nI 0) dX0_dealFrom_38 (by decide) ?_
  refine jg_istore cx (lv' := [(0, _), (1, _), (2, _), (3, _), (4, _), (5, _), (6, _), (7, _), (8, _)]) dX0_dealFrom_39 (by decide) rfl ?_
  have lp41 : ∀ (d41 i : Nat), i + d41 = 8 → X 41 [(0, .ref (E.2.1 b 0)), (1, .int (nI n)), (2, .int (jf_slots N n)), (3, .int (N 2 n / jf_slots N n)), (4, .int (jf_rem (N 2 n) (jf_slots N n))), (5, .int (jf_rlo N n)), (6, .int (jf_dfT N n i).2.1), (7, .int (jf_dfT N n i).2.2), (8, .int (nI i))] [] (jp_u h b (jf_dfT N n i).1 L) := by
    intro d41
    induction d41 with
    | zero =>
      intro i  hr41 
      obtain rfl : i = 8 := by omega
      refine jg_iload cx dX0_dealFrom_41 rfl ?_
      refine jg_bipush cx (v := nI 8) dX0_dealFrom_43 (by decide) ?_
      refine jg_icmpN_ge cx (tgt := 113) dX0_dealFrom_45 (by decide) (by omega) (by omega) (fun c45 => ?_) (fun c45 => ?_)
      · refine jg_aload_n cx dX0_dealFrom_113 rfl ?_
        refine jg_get cx (jp_net_o hb) rfl inX0 6 (by decide) f30 rfl dX0_dealFrom_114 ?_
        refine jg_iload_n cx dX0_dealFrom_117 rfl ?_
        refine jg_dup2 cx dX0_dealFrom_118 rfl rfl ?_
        refine jg_ialdU cx dX0_dealFrom_119 ((jp_net_7 hb)) rfl (by omega) ?_
        refine jg_iload cx dX0_dealFrom_120 rfl ?_
        refine jg_isub cx dX0_dealFrom_122 ?_
        refine jg_iastU cx dX0_dealFrom_123 ((jp_net_7 hb)) rfl (by omega) ?_
        refine jg_aload_n cx dX0_dealFrom_124 rfl ?_
        refine jg_get cx (jp_net_o hb) rfl inX0 2 (by decide) f18 rfl dX0_dealFrom_125 ?_
        refine jg_iload_n cx dX0_dealFrom_128 rfl ?_
        refine jg_iload cx dX0_dealFrom_129 rfl ?_
        refine jg_iload cx dX0_dealFrom_131 rfl ?_
        refine jg_iadd cx dX0_dealFrom_133 ?_
        refine jg_iload_n cx dX0_dealFrom_134 rfl ?_
        refine jg_irem cx dX0_dealFrom_135 (jf_slots_ne N n) ?_
        refine jg_iastU cx dX0_dealFrom_136 ((jp_net_3 hb)) rfl (by omega) ?_
        refine jg_iload cx dX0_dealFrom_137 rfl ?_
        exact jg_iret cx dX0_dealFrom_139 (⟨(by first | with_reducible rfl | (simp only [jf_dealF, ↓reduceIte, Bool.false_eq_true, Bool.true_eq_false, reduceCtorEq, eq_self, if_true, if_false, Bool.not_true, Bool.not_false]; first | done | rfl)), (by first | with_reducible rfl | (simp only [jf_dealF, ↓reduceIte, Bool.false_eq_true, Bool.true_eq_false, reduceCtorEq, eq_self, if_true, if_false, Bool.not_true, Bool.not_false]; first | done | rfl))⟩)
      · exact absurd hr41 (by omega)
    | succ d41 ih41 =>
      intro i  hr41 
      refine jg_iload cx dX0_dealFrom_41 rfl ?_
      refine jg_bipush cx (v := nI 8) dX0_dealFrom_43 (by decide) ?_
      refine jg_icmpN_ge cx (tgt := 113) dX0_dealFrom_45 (by decide) (by omega) (by omega) (fun c45 => ?_) (fun c45 => ?_)
      · exact absurd hr41 (by omega)
      · refine jg_aload_n cx dX0_dealFrom_48 rfl ?_
        refine jg_iload_n cx dX0_dealFrom_49 rfl ?_
        refine jg_iload cx dX0_dealFrom_50 rfl ?_
        refine jg_callVi cx (n := 2) (jc_X0_joins E l hb (by omega) (by omega)) gX0_dealFrom_X0_joins rfl ⟨rfl, rfl⟩ ⟨(Nat.le_of_ble_eq_true rfl), (Nat.le_of_ble_eq_true rfl)⟩ (by decide +kernel) (jp_net_o hb) rfl rfl rfl (Nat.le_of_ble_eq_true rfl) dX0_dealFrom_52 ?_
        refine jg_ifb_eq cx (tgt := 107) dX0_dealFrom_55 (by decide) (fun c55 => ?_) (fun c55 => ?_)
        · refine jg_iincN cx (d := 1) (lv' := [(0, _), (1, _), (2, _), (3, _), (4, _), (5, _), (6, _), (7, _), (8, _)]) dX0_dealFrom_107 rfl (by decide) (by decide) rfl ?_
          refine jg_goto cx (tgt := 41) dX0_dealFrom_110 (by decide) ?_
          exact jg_to (ih41 (i + 1)  (by omega) ) (by first | with_reducible rfl | (simp only [jf_dfT_s, jf_dfS, jf_dfG, c55, ↓reduceIte, Bool.false_eq_true, Bool.true_eq_false, reduceCtorEq, eq_self, if_true, if_false, Bool.not_true, Bool.not_false]; first | done | rfl)) (by first | with_reducible rfl | (simp only [jf_dfT_s, jf_dfS, jf_dfG, c55, ↓reduceIte, Bool.false_eq_true, Bool.true_eq_false, reduceCtorEq, eq_self, if_true, if_false, Bool.not_true, Bool.not_false]; first | done | rfl)) (by first | with_reducible rfl | (simp only [jf_dfT_s, jf_dfS, jf_dfG, c55, ↓reduceIte, Bool.false_eq_true, Bool.true_eq_false, reduceCtorEq, eq_self, if_true, if_false, Bool.not_true, Bool.not_false]; first | done | rfl))
        · refine jg_iload cx dX0_dealFrom_58 rfl ?_
          refine jg_iload cx dX0_dealFrom_60 rfl ?_
          refine jg_isub cx dX0_dealFrom_62 ?_
          refine jg_iload_n cx dX0_dealFrom_63 rfl ?_
          refine jg_iadd cx dX0_dealFrom_64 ?_
          refine jg_iload_n cx dX0_dealFrom_65 rfl ?_
          refine jg_irem cx dX0_dealFrom_66 (jf_slots_ne N n) ?_
          refine jg_istore cx (lv' := [(0, _), (1, _), (2, _), (3, _), (4, _), (5, _), (6, _), (7, _), (8, _), (9, _)]) dX0_dealFrom_67 (by decide) rfl ?_
          refine jg_iload cx dX0_dealFrom_69 rfl ?_
          refine jg_iload cx dX0_dealFrom_71 rfl ?_
          refine jg_icmp_ge cx (tgt := 82) dX0_dealFrom_73 (by decide) (fun c73 => ?_) (fun c73 => ?_)
          · refine jg_iload_n cx dX0_dealFrom_82 rfl ?_
            refine jg_istore cx (lv' := [(0, _), (1, _), (2, _), (3, _), (4, _), (5, _), (6, _), (7, _), (8, _), (9, _), (10, _)]) dX0_dealFrom_83 (by decide) rfl ?_
            refine jg_aload_n cx dX0_dealFrom_85 rfl ?_
            refine jg_get cx (jp_net_o hb) rfl inX0 6 (by decide) f30 rfl dX0_dealFrom_86 ?_
            refine jg_iload cx dX0_dealFrom_89 rfl ?_
            refine jg_dup2 cx dX0_dealFrom_91 rfl rfl ?_
            refine jg_ialdU cx dX0_dealFrom_92 ((jp_net_7 hb)) rfl (by omega) ?_
            refine jg_iload cx dX0_dealFrom_93 rfl ?_
            refine jg_iadd cx dX0_dealFrom_95 ?_
            refine jg_iastU cx dX0_dealFrom_96 ((jp_net_7 hb)) rfl (by omega) ?_
            refine jg_iload cx dX0_dealFrom_97 rfl ?_
            refine jg_iload cx dX0_dealFrom_99 rfl ?_
            refine jg_iadd cx dX0_dealFrom_101 ?_
            refine jg_istore cx (lv' := [(0, _), (1, _), (2, _), (3, _), (4, _), (5, _), (6, _), (7, _), (8, _), (9, _), (10, _)]) dX0_dealFrom_102 (by decide) rfl ?_
            refine jg_iincI cx (d := 1) (lv' := [(0, _), (1, _), (2, _), (3, _), (4, _), (5, _), (6, _), (7, _), (8, _), (9, _), (10, _)]) dX0_dealFrom_104 rfl (by decide) (by decide) rfl ?_
            refine jg_iincN cx (d := 1) (lv' := [(0, _), (1, _), (2, _), (3, _), (4, _), (5, _), (6, _), (7, _), (8, _), (9, _), (10, _)]) dX0_dealFrom_107 rfl (by decide) (by decide) rfl ?_
            refine jg_goto cx (tgt := 41) dX0_dealFrom_110 (by decide) ?_
            refine jg_sub cx (lv' := [(0, _), (1, _), (2, _), (3, _), (4, _), (5, _), (6, _), (7, _), (8, _)]) [0, 1, 2, 3, 4, 5, 6, 7, 8] rfl ?_
            exact jg_to (ih41 (i + 1)  (by omega) ) (by first | with_reducible rfl | (simp only [jf_dfT_s, jf_dfS, jf_dfG, c55, if_pos c73, ↓reduceIte, Bool.false_eq_true, Bool.true_eq_false, reduceCtorEq, eq_self, if_true, if_false, Bool.not_true, Bool.not_false]; first | done | rfl)) (by first | with_reducible rfl | (simp only [jf_dfT_s, jf_dfS, jf_dfG, c55, if_pos c73, ↓reduceIte, Bool.false_eq_true, Bool.true_eq_false, reduceCtorEq, eq_self, if_true, if_false, Bool.not_true, Bool.not_false]; first | done | rfl)) (by first | with_reducible rfl | (simp only [jf_dfT_s, jf_dfS, jf_dfG, c55, if_pos c73, ↓reduceIte, Bool.false_eq_true, Bool.true_eq_false, reduceCtorEq, eq_self, if_true, if_false, Bool.not_true, Bool.not_false]; first | done | rfl))
          · refine jg_iload_n cx dX0_dealFrom_76 rfl ?_
            refine jg_iconst cx (v := nI 1) dX0_dealFrom_77 (by decide) ?_
            refine jg_iadd cx dX0_dealFrom_78 ?_
            refine jg_goto cx (tgt := 83) dX0_dealFrom_79 (by decide) ?_
            refine jg_istore cx (lv' := [(0, _), (1, _), (2, _), (3, _), (4, _), (5, _), (6, _), (7, _), (8, _), (9, _), (10, _)]) dX0_dealFrom_83 (by decide) rfl ?_
            refine jg_aload_n cx dX0_dealFrom_85 rfl ?_
            refine jg_get cx (jp_net_o hb) rfl inX0 6 (by decide) f30 rfl dX0_dealFrom_86 ?_
            refine jg_iload cx dX0_dealFrom_89 rfl ?_
            refine jg_dup2 cx dX0_dealFrom_91 rfl rfl ?_
            refine jg_ialdU cx dX0_dealFrom_92 ((jp_net_7 hb)) rfl (by omega) ?_
            refine jg_iload cx dX0_dealFrom_93 rfl ?_
            refine jg_iadd cx dX0_dealFrom_95 ?_
            refine jg_iastU cx dX0_dealFrom_96 ((jp_net_7 hb)) rfl (by omega) ?_
            refine jg_iload cx dX0_dealFrom_97 rfl ?_
            refine jg_iload cx dX0_dealFrom_99 rfl ?_
            refine jg_iadd cx dX0_dealFrom_101 ?_
            refine jg_istore cx (lv' := [(0, _), (1, _), (2, _), (3, _), (4, _), (5, _), (6, _), (7, _), (8, _), (9, _), (10, _)]) dX0_dealFrom_102 (by decide) rfl ?_
            refine jg_iincI cx (d := 1) (lv' := [(0, _), (1, _), (2, _), (3, _), (4, _), (5, _), (6, _), (7, _), (8, _), (9, _), (10, _)]) dX0_dealFrom_104 rfl (by decide) (by decide) rfl ?_
            refine jg_iincN cx (d := 1) (lv' := [(0, _), (1, _), (2, _), (3, _), (4, _), (5, _), (6, _), (7, _), (8, _), (9, _), (10, _)]) dX0_dealFrom_107 rfl (by decide) (by decide) rfl ?_
            refine jg_goto cx (tgt := 41) dX0_dealFrom_110 (by decide) ?_
            refine jg_sub cx (lv' := [(0, _), (1, _), (2, _), (3, _), (4, _), (5, _), (6, _), (7, _), (8, _)]) [0, 1, 2, 3, 4, 5, 6, 7, 8] rfl ?_
            exact jg_to (ih41 (i + 1)  (by omega) ) (by first | with_reducible rfl | (simp only [jf_dfT_s, jf_dfS, jf_dfG, c55, if_neg c73, ↓reduceIte, Bool.false_eq_true, Bool.true_eq_false, reduceCtorEq, eq_self, if_true, if_false, Bool.not_true, Bool.not_false]; first | done | rfl)) (by first | with_reducible rfl | (simp only [jf_dfT_s, jf_dfS, jf_dfG, c55, if_neg c73, ↓reduceIte, Bool.false_eq_true, Bool.true_eq_false, reduceCtorEq, eq_self, if_true, if_false, Bool.not_true, Bool.not_false]; first | done | rfl)) (by first | with_reducible rfl | (simp only [jf_dfT_s, jf_dfS, jf_dfG, c55, if_neg c73, ↓reduceIte, Bool.false_eq_true, Bool.true_eq_false, reduceCtorEq, eq_self, if_true, if_false, Bool.not_true, Bool.not_false]; first | done | rfl))
  exact jg_to (lp41 8 0  (by omega) ) rfl rfl rfl
def jf_deS (i : Nat) (S : jf_B × Int32) : jf_B × Int32 := if S.1 2 i ≤ 0 then S else ((jf_dealF S.1 i).1, S.2 + (jf_dealF S.1 i).2)
def jf_deal (N : jf_B) : jf_B × Int32 := (jf_settle (jf_it jf_deS (N, nI 0) 8).1, (jf_it jf_deS (N, nI 0) 8).2)
set_option maxHeartbeats 1000000 in
set_option maxRecDepth 100000 in
theorem jc_X0_deal (E : jp_E) (l : Launch) {b : Nat} {h : jp_H} {N : jf_B} {L : jf_L} (hb : jp_net b)  : jc_M E l yX0_deal wsX0_deal ({ frames := 3, cells := 0, slots := 0, locals := 73 } : Room) [.ref (E.2.1 b 0)] (jp_u h b N L) (jp_R (some (.int ((jf_deal N).2))) (jp_u h b ((jf_deal N).1) L)) := by
  refine jc_of (cc := cX0_deal) (maxL := 3) (ret := some .int) (own := RX0) (lv := [(0, _)]) (by decide) rfl rfl (Nat.le_of_ble_eq_true rfl) rfl (fun X cx => ?_)
  have inX0 : ∀ w ∈ u_ws RX0 TX0 9, w ∈ wsX0_deal := by decide +kernel
  have f15 : Cond.fieldLink RX0 15 "JobSpread$Net" "jobs" "[I" ∈ wsX0_deal := by decide +kernel
  refine jg_iconst cx (v := nI 0) dX0_deal_0 (by decide) ?_
  refine jg_istore_n cx (lv' := [(0, _), (1, _)]) dX0_deal_1 (by decide) rfl ?_
  refine jg_iconst cx (v := nI 0) dX0_deal_2 (by decide) ?_
  refine jg_istore_n cx (lv' := [(0, _), (1, _), (2, _)]) dX0_deal_3 (by decide) rfl ?_
  have lp4 : ∀ (d4 i : Nat), i + d4 = 8 → X 4 [(0, .ref (E.2.1 b 0)), (1, .int (jf_it jf_deS (N, nI 0) i).2), (2, .int (nI i))] [] (jp_u h b (jf_it jf_deS (N, nI 0) i).1 L) := by
    intro d4
    induction d4 with
    | zero =>
      intro i  hr4 
      obtain rfl : i = 8 := by omega
      refine jg_iload_n cx dX0_deal_4 rfl ?_
      refine jg_bipush cx (v := nI 8) dX0_deal_5 (by decide) ?_
      refine jg_icmpN_ge cx (tgt := 33) dX0_deal_7 (by decide) (by omega) (by omega) (fun c7 => ?_) (fun c7 => ?_)
      · refine jg_aload_n cx dX0_deal_33 rfl ?_
        refine jg_callVv cx (n := 0) (jc_X0_settle E l hb) gX0_deal_X0_settle rfl ⟨rfl, rfl⟩ ⟨(Nat.le_of_ble_eq_true rfl), (Nat.le_of_ble_eq_true rfl)⟩ (by decide +kernel) (jp_net_o hb) rfl rfl rfl (Nat.le_of_ble_eq_true rfl) dX0_deal_34 ?_
        refine jg_iload_n cx dX0_deal_37 rfl ?_
        exact jg_iret cx dX0_deal_38 (⟨(by first | with_reducible rfl | (simp only [jf_deal, ↓reduceIte, Bool.false_eq_true, Bool.true_eq_false, reduceCtorEq, eq_self, if_true, if_false, Bool.not_true, Bool.not_false]; first | done | rfl)), (by first | with_reducible rfl | (simp only [jf_deal, ↓reduceIte, Bool.false_eq_true, Bool.true_eq_false, reduceCtorEq, eq_self, if_true, if_false, Bool.not_true, Bool.not_false]; first | done | rfl))⟩)
      · exact absurd hr4 (by omega)
    | succ d4 ih4 =>
      intro i  hr4 
      refine jg_iload_n cx dX0_deal_4 rfl ?_
      refine jg_bipush cx (v := nI 8) dX0_deal_5 (by decide) ?_
      refine jg_icmpN_ge cx (tgt := 33) dX0_deal_7 (by decide) (by omega) (by omega) (fun c7 => ?_) (fun c7 => ?_)
      · exact absurd hr4 (by omega)
      · refine jg_aload_n cx dX0_deal_10 rfl ?_
        refine jg_get cx (jp_net_o hb) rfl inX0 1 (by decide) f15 rfl dX0_deal_11 ?_
        refine jg_iload_n cx dX0_deal_14 rfl ?_
        refine jg_ialdU cx dX0_deal_15 ((jp_net_2 hb)) rfl (by omega) ?_
        refine jg_if_le cx (tgt := 27) dX0_deal_16 (by decide) (fun c16 => ?_) (fun c16 => ?_)
        · refine jg_iincN cx (d := 1) (lv' := [(0, _), (1, _), (2, _)]) dX0_deal_27 rfl (by decide) (by decide) rfl ?_
          refine jg_goto cx (tgt := 4) dX0_deal_30 (by decide) ?_
          exact jg_to (ih4 (i + 1)  (by omega) ) (by first | with_reducible rfl | (simp only [jf_it, jf_deS, if_pos c16, ↓reduceIte, Bool.false_eq_true, Bool.true_eq_false, reduceCtorEq, eq_self, if_true, if_false, Bool.not_true, Bool.not_false]; first | done | rfl)) (by first | with_reducible rfl | (simp only [jf_it, jf_deS, if_pos c16, ↓reduceIte, Bool.false_eq_true, Bool.true_eq_false, reduceCtorEq, eq_self, if_true, if_false, Bool.not_true, Bool.not_false]; first | done | rfl)) (by first | with_reducible rfl | (simp only [jf_it, jf_deS, if_pos c16, ↓reduceIte, Bool.false_eq_true, Bool.true_eq_false, reduceCtorEq, eq_self, if_true, if_false, Bool.not_true, Bool.not_false]; first | done | rfl))
        · refine jg_iload_n cx dX0_deal_19 rfl ?_
          refine jg_aload_n cx dX0_deal_20 rfl ?_
          refine jg_iload_n cx dX0_deal_21 rfl ?_
          refine jg_callVi cx (n := 1) (jc_X0_dealFrom E l hb (by omega)) gX0_deal_X0_dealFrom rfl ⟨rfl, rfl⟩ ⟨(Nat.le_of_ble_eq_true rfl), (Nat.le_of_ble_eq_true rfl)⟩ (by decide +kernel) (jp_net_o hb) rfl rfl rfl (Nat.le_of_ble_eq_true rfl) dX0_deal_22 ?_
          refine jg_iadd cx dX0_deal_25 ?_
          refine jg_istore_n cx (lv' := [(0, _), (1, _), (2, _)]) dX0_deal_26 (by decide) rfl ?_
          refine jg_iincN cx (d := 1) (lv' := [(0, _), (1, _), (2, _)]) dX0_deal_27 rfl (by decide) (by decide) rfl ?_
          refine jg_goto cx (tgt := 4) dX0_deal_30 (by decide) ?_
          exact jg_to (ih4 (i + 1)  (by omega) ) (by first | with_reducible rfl | (simp only [jf_it, jf_deS, if_neg c16, ↓reduceIte, Bool.false_eq_true, Bool.true_eq_false, reduceCtorEq, eq_self, if_true, if_false, Bool.not_true, Bool.not_false]; first | done | rfl)) (by first | with_reducible rfl | (simp only [jf_it, jf_deS, if_neg c16, ↓reduceIte, Bool.false_eq_true, Bool.true_eq_false, reduceCtorEq, eq_self, if_true, if_false, Bool.not_true, Bool.not_false]; first | done | rfl)) (by first | with_reducible rfl | (simp only [jf_it, jf_deS, if_neg c16, ↓reduceIte, Bool.false_eq_true, Bool.true_eq_false, reduceCtorEq, eq_self, if_true, if_false, Bool.not_true, Bool.not_false]; first | done | rfl))
  exact jg_to (lp4 8 0  (by omega) ) rfl rfl rfl
def jf_one (ru : Int32) (N : jf_B) : jf_B × Int32 := if ru = 0 then jf_flow N else if ru = nI 1 then jf_exch N else jf_deal N
def jf_rnd (ru : Int32) (_ : Nat) (S : jf_B × Int32) : jf_B × Int32 := (jf_w (jf_one ru S.1).1 0 8 ((jf_one ru S.1).1 0 8 + nI 1), S.2 + (jf_one ru S.1).2)
def jf_go (ru : Int32) (N : jf_B) (k : Nat) : jf_B × Int32 := jf_it (jf_rnd ru) (N, nI 0) k
theorem jf_go_s (ru : Int32) (N : jf_B) (i : Nat) : jf_go ru N (i + 1) = jf_rnd ru i (jf_go ru N i) := rfl
set_option maxHeartbeats 1000000 in
set_option maxRecDepth 100000 in
theorem jc_X0_goOn (E : jp_E) (l : Launch) {b : Nat} {h : jp_H} {N : jf_B} {L : jf_L} (hb : jp_net b) {ru : Int32} {k : Nat} (hk : k < 2 ^ 31) : jc_M E l yX0_goOn wsX0_goOn ({ frames := 4, cells := 0, slots := 0, locals := 95 } : Room) [.ref (E.2.1 b 0), .int ru, .int (nI k)] (jp_u h b N L) (jp_R (some (.int ((jf_go ru N k).2))) (jp_u h b ((jf_go ru N k).1) L)) := by
  refine jc_of (cc := cX0_goOn) (maxL := 5) (ret := some .int) (own := RX0) (lv := [(0, _), (1, _), (2, _)]) (by decide) rfl rfl (Nat.le_of_ble_eq_true rfl) rfl (fun X cx => ?_)
  have inX0 : ∀ w ∈ u_ws RX0 TX0 9, w ∈ wsX0_goOn := by decide +kernel
  have f37 : Cond.fieldLink RX0 37 "JobSpread$Net" "rounds" "I" ∈ wsX0_goOn := by decide +kernel
  refine jg_iconst cx (v := nI 0) dX0_goOn_0 (by decide) ?_
  refine jg_istore_n cx (lv' := [(0, _), (1, _), (2, _), (3, _)]) dX0_goOn_1 (by decide) rfl ?_
  refine jg_iconst cx (v := nI 0) dX0_goOn_2 (by decide) ?_
  refine jg_istore cx (lv' := [(0, _), (1, _), (2, _), (3, _), (4, _)]) dX0_goOn_3 (by decide) rfl ?_
  have lp5 : ∀ (d5 i : Nat), i + d5 = k → X 5 [(0, .ref (E.2.1 b 0)), (1, .int ru), (2, .int (nI k)), (3, .int (jf_go ru N i).2), (4, .int (nI i))] [] (jp_u h b (jf_go ru N i).1 L) := by
    intro d5
    induction d5 with
    | zero =>
      intro i  hr5 
      refine jg_iload cx dX0_goOn_5 rfl ?_
      refine jg_iload_n cx dX0_goOn_7 rfl ?_
      refine jg_icmpN_ge cx (tgt := 57) dX0_goOn_8 (by decide) (by omega) (by omega) (fun c8 => ?_) (fun c8 => ?_)
      · refine jg_iload_n cx dX0_goOn_57 rfl ?_
        exact jg_iret cx dX0_goOn_58 (by rw [show i = k by omega]; exact ⟨rfl, rfl⟩)
      · exact absurd hr5 (by omega)
    | succ d5 ih5 =>
      intro i  hr5 
      refine jg_iload cx dX0_goOn_5 rfl ?_
      refine jg_iload_n cx dX0_goOn_7 rfl ?_
      refine jg_icmpN_ge cx (tgt := 57) dX0_goOn_8 (by decide) (by omega) (by omega) (fun c8 => ?_) (fun c8 => ?_)
      · exact absurd hr5 (by omega)
      · refine jg_iload_n cx dX0_goOn_11 rfl ?_
        refine jg_iload_n cx dX0_goOn_12 rfl ?_
        refine jg_if_ne cx (tgt := 23) dX0_goOn_13 (by decide) (fun c13 => ?_) (fun c13 => ?_)
        · refine jg_iload_n cx dX0_goOn_23 rfl ?_
          refine jg_iconst cx (v := nI 1) dX0_goOn_24 (by decide) ?_
          refine jg_icmp_ne cx (tgt := 35) dX0_goOn_25 (by decide) (fun c25 => ?_) (fun c25 => ?_)
          · refine jg_aload_n cx dX0_goOn_35 rfl ?_
            refine jg_callVi cx (n := 0) (jc_X0_deal E l hb) gX0_goOn_X0_deal rfl ⟨rfl, rfl⟩ ⟨(Nat.le_of_ble_eq_true rfl), (Nat.le_of_ble_eq_true rfl)⟩ (by decide +kernel) (jp_net_o hb) rfl rfl rfl (Nat.le_of_ble_eq_true rfl) dX0_goOn_36 ?_
            refine jg_iadd cx dX0_goOn_39 ?_
            refine jg_istore_n cx (lv' := [(0, _), (1, _), (2, _), (3, _), (4, _)]) dX0_goOn_40 (by decide) rfl ?_
            refine jg_aload_n cx dX0_goOn_41 rfl ?_
            refine jg_dup cx dX0_goOn_42 rfl ?_
            refine jg_getU cx (jp_net_o hb) rfl inX0 8 (by decide) f37 rfl dX0_goOn_43 ?_
            refine jg_iconst cx (v := nI 1) dX0_goOn_46 (by decide) ?_
            refine jg_iadd cx dX0_goOn_47 ?_
            refine jg_putU cx (jp_net_o hb) rfl inX0 tyX0 tyX0_ok nmX0 8 (by decide) f37 rfl (by decide +kernel) (Nat.le_of_ble_eq_true rfl) (jp_put0_8 _ _ _ _) dX0_goOn_48 ?_
            refine jg_iincN cx (d := 1) (lv' := [(0, _), (1, _), (2, _), (3, _), (4, _)]) dX0_goOn_51 rfl (by decide) (by decide) rfl ?_
            refine jg_goto cx (tgt := 5) dX0_goOn_54 (by decide) ?_
            exact jg_to (ih5 (i + 1)  (by omega) ) (by first | with_reducible rfl | (simp only [jf_go_s, jf_rnd, jf_one, if_neg c13, if_neg c25, ↓reduceIte, Bool.false_eq_true, Bool.true_eq_false, reduceCtorEq, eq_self, if_true, if_false, Bool.not_true, Bool.not_false]; first | done | rfl)) (by first | with_reducible rfl | (simp only [jf_go_s, jf_rnd, jf_one, if_neg c13, if_neg c25, ↓reduceIte, Bool.false_eq_true, Bool.true_eq_false, reduceCtorEq, eq_self, if_true, if_false, Bool.not_true, Bool.not_false]; first | done | rfl)) (by first | with_reducible rfl | (simp only [jf_go_s, jf_rnd, jf_one, if_neg c13, if_neg c25, ↓reduceIte, Bool.false_eq_true, Bool.true_eq_false, reduceCtorEq, eq_self, if_true, if_false, Bool.not_true, Bool.not_false]; first | done | rfl))
          · refine jg_aload_n cx dX0_goOn_28 rfl ?_
            refine jg_callVi cx (n := 0) (jc_X0_exchange E l hb) gX0_goOn_X0_exchange rfl ⟨rfl, rfl⟩ ⟨(Nat.le_of_ble_eq_true rfl), (Nat.le_of_ble_eq_true rfl)⟩ (by decide +kernel) (jp_net_o hb) rfl rfl rfl (Nat.le_of_ble_eq_true rfl) dX0_goOn_29 ?_
            refine jg_goto cx (tgt := 39) dX0_goOn_32 (by decide) ?_
            refine jg_iadd cx dX0_goOn_39 ?_
            refine jg_istore_n cx (lv' := [(0, _), (1, _), (2, _), (3, _), (4, _)]) dX0_goOn_40 (by decide) rfl ?_
            refine jg_aload_n cx dX0_goOn_41 rfl ?_
            refine jg_dup cx dX0_goOn_42 rfl ?_
            refine jg_getU cx (jp_net_o hb) rfl inX0 8 (by decide) f37 rfl dX0_goOn_43 ?_
            refine jg_iconst cx (v := nI 1) dX0_goOn_46 (by decide) ?_
            refine jg_iadd cx dX0_goOn_47 ?_
            refine jg_putU cx (jp_net_o hb) rfl inX0 tyX0 tyX0_ok nmX0 8 (by decide) f37 rfl (by decide +kernel) (Nat.le_of_ble_eq_true rfl) (jp_put0_8 _ _ _ _) dX0_goOn_48 ?_
            refine jg_iincN cx (d := 1) (lv' := [(0, _), (1, _), (2, _), (3, _), (4, _)]) dX0_goOn_51 rfl (by decide) (by decide) rfl ?_
            refine jg_goto cx (tgt := 5) dX0_goOn_54 (by decide) ?_
            exact jg_to (ih5 (i + 1)  (by omega) ) (by first | with_reducible rfl | (simp only [jf_go_s, jf_rnd, jf_one, if_neg c13, if_pos c25, ↓reduceIte, Bool.false_eq_true, Bool.true_eq_false, reduceCtorEq, eq_self, if_true, if_false, Bool.not_true, Bool.not_false]; first | done | rfl)) (by first | with_reducible rfl | (simp only [jf_go_s, jf_rnd, jf_one, if_neg c13, if_pos c25, ↓reduceIte, Bool.false_eq_true, Bool.true_eq_false, reduceCtorEq, eq_self, if_true, if_false, Bool.not_true, Bool.not_false]; first | done | rfl)) (by first | with_reducible rfl | (simp only [jf_go_s, jf_rnd, jf_one, if_neg c13, if_pos c25, ↓reduceIte, Bool.false_eq_true, Bool.true_eq_false, reduceCtorEq, eq_self, if_true, if_false, Bool.not_true, Bool.not_false]; first | done | rfl))
        · refine jg_aload_n cx dX0_goOn_16 rfl ?_
          refine jg_callVi cx (n := 0) (jc_X0_flow E l hb) gX0_goOn_X0_flow rfl ⟨rfl, rfl⟩ ⟨(Nat.le_of_ble_eq_true rfl), (Nat.le_of_ble_eq_true rfl)⟩ (by decide +kernel) (jp_net_o hb) rfl rfl rfl (Nat.le_of_ble_eq_true rfl) dX0_goOn_17 ?_
          refine jg_goto cx (tgt := 39) dX0_goOn_20 (by decide) ?_
          refine jg_iadd cx dX0_goOn_39 ?_
          refine jg_istore_n cx (lv' := [(0, _), (1, _), (2, _), (3, _), (4, _)]) dX0_goOn_40 (by decide) rfl ?_
          refine jg_aload_n cx dX0_goOn_41 rfl ?_
          refine jg_dup cx dX0_goOn_42 rfl ?_
          refine jg_getU cx (jp_net_o hb) rfl inX0 8 (by decide) f37 rfl dX0_goOn_43 ?_
          refine jg_iconst cx (v := nI 1) dX0_goOn_46 (by decide) ?_
          refine jg_iadd cx dX0_goOn_47 ?_
          refine jg_putU cx (jp_net_o hb) rfl inX0 tyX0 tyX0_ok nmX0 8 (by decide) f37 rfl (by decide +kernel) (Nat.le_of_ble_eq_true rfl) (jp_put0_8 _ _ _ _) dX0_goOn_48 ?_
          refine jg_iincN cx (d := 1) (lv' := [(0, _), (1, _), (2, _), (3, _), (4, _)]) dX0_goOn_51 rfl (by decide) (by decide) rfl ?_
          refine jg_goto cx (tgt := 5) dX0_goOn_54 (by decide) ?_
          exact jg_to (ih5 (i + 1)  (by omega) ) (by first | with_reducible rfl | (simp only [jf_go_s, jf_rnd, jf_one, if_pos c13, ↓reduceIte, Bool.false_eq_true, Bool.true_eq_false, reduceCtorEq, eq_self, if_true, if_false, Bool.not_true, Bool.not_false]; first | done | rfl)) (by first | with_reducible rfl | (simp only [jf_go_s, jf_rnd, jf_one, if_pos c13, ↓reduceIte, Bool.false_eq_true, Bool.true_eq_false, reduceCtorEq, eq_self, if_true, if_false, Bool.not_true, Bool.not_false]; first | done | rfl)) (by first | with_reducible rfl | (simp only [jf_go_s, jf_rnd, jf_one, if_pos c13, ↓reduceIte, Bool.false_eq_true, Bool.true_eq_false, reduceCtorEq, eq_self, if_true, if_false, Bool.not_true, Bool.not_false]; first | done | rfl))
  exact jg_to (lp5 k 0  (by omega) ) rfl rfl rfl
