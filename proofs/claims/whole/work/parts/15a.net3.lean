/-! ===== the net, how it changes ===== -/
theorem jc_X0_rotorLeftOver_h (E : jp_E) (l : Launch) {b i : Nat} {h : jp_H} (hb : jp_net b) (hi : i < 8) : jc_M E l yX0_rotorLeftOver wsX0_rotorLeftOver ({ frames := 1, cells := 0, slots := 0, locals := 21 } : Room) [.ref (E.2.1 b 0), .int (nI i)] h (jp_R (some (.int (jf_rlo (h.1 b) i))) h) := by
  have t9 := jc_X0_rotorLeftOver E l (h := h) (N := h.1 b) (L := h.2 b) hb hi
  rw [jp_u_self] at t9
  exact t9
theorem jc_X0_colours_h (E : jp_E) (l : Launch) {b : Nat} {h : jp_H} (hb : jp_net b) : jc_M E l yX0_colours wsX0_colours ({ frames := 1, cells := 0, slots := 0, locals := 21 } : Room) [.ref (E.2.1 b 0)] h (jp_R (some (.int (jf_colours (h.1 b)))) h) := by
  have t9 := jc_X0_colours E l (h := h) (N := h.1 b) (L := h.2 b) hb
  rw [jp_u_self] at t9
  exact t9
def jf_alJ (N M : jf_B) : Nat → Bool
  | 0 => true
  | n + 1 => if N 2 n = M 2 n then (if jf_rlo N n = jf_rlo M n then jf_alJ N M n else false) else false
def jf_alC (N M : jf_B) : Nat → Bool
  | 0 => true
  | n + 1 => if N 6 n = M 6 n then jf_alC N M n else false
def jf_alike (N M : jf_B) : Bool := jf_alJ N M 8 && (jf_alC N M 64 && (if jf_rem (N 0 8) (jf_colours N) = jf_rem (M 0 8) (jf_colours M) then true else false))
theorem jf_alJ_f {N M : jf_B} {i : Nat} (hf : jf_alJ N M (i + 1) = false) : ∀ d, jf_alJ N M (i + 1 + d) = false
  | 0 => hf
  | d + 1 => by
    show jf_alJ N M ((i + 1 + d) + 1) = false
    unfold jf_alJ
    rw [jf_alJ_f hf d]
    simp
theorem jf_alC_f {N M : jf_B} {i : Nat} (hf : jf_alC N M (i + 1) = false) : ∀ d, jf_alC N M (i + 1 + d) = false
  | 0 => hf
  | d + 1 => by
    show jf_alC N M ((i + 1 + d) + 1) = false
    unfold jf_alC
    rw [jf_alC_f hf d]
    simp
theorem jf_alike_fJ {N M : jf_B} {i : Nat} (hi : i < 8) (hf : jf_alJ N M (i + 1) = false) : jf_alike N M = false := by
  have e8 := jf_alJ_f hf (8 - (i + 1))
  rw [show i + 1 + (8 - (i + 1)) = 8 by omega] at e8
  simp only [jf_alike, e8, Bool.false_and]
theorem jf_alike_fC {N M : jf_B} {i : Nat} (hi : i < 64) (hf : jf_alC N M (i + 1) = false) : jf_alike N M = false := by
  have e8 := jf_alC_f hf (64 - (i + 1))
  rw [show i + 1 + (64 - (i + 1)) = 64 by omega] at e8
  simp only [jf_alike, e8, Bool.false_and, Bool.and_false]
set_option maxHeartbeats 1000000 in
set_option maxRecDepth 100000 in
theorem jc_X0_isAlike (E : jp_E) (l : Launch) {b b2 : Nat} {h : jp_H} (hb : jp_net b) (hb2 : jp_net b2) : jc_M E l yX0_isAlike wsX0_isAlike ({ frames := 2, cells := 0, slots := 0, locals := 43 } : Room) [.ref (E.2.1 b 0), .ref (E.2.1 b2 0)] h (jp_R (some (.int (jp_b (jf_alike (h.1 b) (h.1 b2))))) h) := by
  refine jc_of (cc := cX0_isAlike) (maxL := 3) (ret := some .boolean) (own := RX0) (lv := [(0, _), (1, _)]) (by decide) rfl rfl (Nat.le_of_ble_eq_true rfl) rfl (fun X cx => ?_)
  have inX0 : ∀ w ∈ u_ws RX0 TX0 9, w ∈ wsX0_isAlike := by decide +kernel
  have f15 : Cond.fieldLink RX0 15 "JobSpread$Net" "jobs" "[I" ∈ wsX0_isAlike := by decide +kernel
  have f27 : Cond.fieldLink RX0 27 "JobSpread$Net" "carry" "[I" ∈ wsX0_isAlike := by decide +kernel
  have f37 : Cond.fieldLink RX0 37 "JobSpread$Net" "rounds" "I" ∈ wsX0_isAlike := by decide +kernel
  refine jg_iconst cx (v := nI 0) dX0_isAlike_0 (by decide) ?_
  refine jg_istore_n cx (lv' := [(0, _), (1, _), (2, _)]) dX0_isAlike_1 (by decide) rfl ?_
  have lp2 : ∀ (d2 i : Nat), i + d2 = 8 → (jf_alJ (h.1 b) (h.1 b2) i = true) → X 2 [(0, .ref (E.2.1 b 0)), (1, .ref (E.2.1 b2 0)), (2, .int (nI i))] [] (h) := by
    intro d2
    induction d2 with
    | zero =>
      intro i  hr2 hj
      obtain rfl : i = 8 := by omega
      refine jg_iload_n cx dX0_isAlike_2 rfl ?_
      refine jg_bipush cx (v := nI 8) dX0_isAlike_3 (by decide) ?_
      refine jg_icmpN_ge cx (tgt := 44) dX0_isAlike_5 (by decide) (by omega) (by omega) (fun c5 => ?_) (fun c5 => ?_)
      · refine jg_iconst cx (v := nI 0) dX0_isAlike_44 (by decide) ?_
        refine jg_istore_n cx (lv' := [(0, _), (1, _), (2, _)]) dX0_isAlike_45 (by decide) rfl ?_
        have lp46 : ∀ (d46 j : Nat), j + d46 = 64 → (jf_alC (h.1 b) (h.1 b2) j = true) → X 46 [(0, .ref (E.2.1 b 0)), (1, .ref (E.2.1 b2 0)), (2, .int (nI j))] [] (h) := by
          intro d46
          induction d46 with
          | zero =>
            intro j  hr46 hc9
            obtain rfl : j = 64 := by omega
            refine jg_iload_n cx dX0_isAlike_46 rfl ?_
            refine jg_bipush cx (v := nI 64) dX0_isAlike_47 (by decide) ?_
            refine jg_icmpN_ge cx (tgt := 75) dX0_isAlike_49 (by decide) (by omega) (by omega) (fun c49 => ?_) (fun c49 => ?_)
            · refine jg_aload_n cx dX0_isAlike_75 rfl ?_
              refine jg_get cx (jp_net_o hb) rfl inX0 8 (by decide) f37 rfl dX0_isAlike_76 ?_
              refine jg_aload_n cx dX0_isAlike_79 rfl ?_
              refine jg_callVi cx (n := 0) (jc_X0_colours_h E l hb) gX0_isAlike_X0_colours rfl ⟨rfl, rfl⟩ ⟨(Nat.le_of_ble_eq_true rfl), (Nat.le_of_ble_eq_true rfl)⟩ (by decide +kernel) (jp_net_o hb) rfl rfl rfl (Nat.le_of_ble_eq_true rfl) dX0_isAlike_80 ?_
              refine jg_irem cx dX0_isAlike_83 (jf_colours_ne _) ?_
              refine jg_aload_n cx dX0_isAlike_84 rfl ?_
              refine jg_get cx (jp_net_o hb2) rfl inX0 8 (by decide) f37 rfl dX0_isAlike_85 ?_
              refine jg_aload_n cx dX0_isAlike_88 rfl ?_
              refine jg_callVi cx (n := 0) (jc_X0_colours_h E l hb2) gX0_isAlike_X0_colours rfl ⟨rfl, rfl⟩ ⟨(Nat.le_of_ble_eq_true rfl), (Nat.le_of_ble_eq_true rfl)⟩ (by decide +kernel) (jp_net_o hb2) rfl rfl rfl (Nat.le_of_ble_eq_true rfl) dX0_isAlike_89 ?_
              refine jg_irem cx dX0_isAlike_92 (jf_colours_ne _) ?_
              refine jg_icmp_ne cx (tgt := 100) dX0_isAlike_93 (by decide) (fun c93 => ?_) (fun c93 => ?_)
              · refine jg_iconst cx (v := jp_b false) dX0_isAlike_100 (by decide) ?_
                exact jg_bret cx dX0_isAlike_101 (⟨by unfold jf_alike; rw [hj, hc9]; simp only [jf_rem, if_neg c93, ↓reduceIte, Bool.true_and], rfl⟩)
              · refine jg_iconst cx (v := jp_b true) dX0_isAlike_96 (by decide) ?_
                refine jg_goto cx (tgt := 101) dX0_isAlike_97 (by decide) ?_
                exact jg_bret cx dX0_isAlike_101 (⟨by unfold jf_alike; rw [hj, hc9]; simp only [jf_rem, if_pos c93, ↓reduceIte, Bool.true_and], rfl⟩)
            · exact absurd hr46 (by omega)
          | succ d46 ih46 =>
            intro j  hr46 hc9
            refine jg_iload_n cx dX0_isAlike_46 rfl ?_
            refine jg_bipush cx (v := nI 64) dX0_isAlike_47 (by decide) ?_
            refine jg_icmpN_ge cx (tgt := 75) dX0_isAlike_49 (by decide) (by omega) (by omega) (fun c49 => ?_) (fun c49 => ?_)
            · exact absurd hr46 (by omega)
            · refine jg_aload_n cx dX0_isAlike_52 rfl ?_
              refine jg_get cx (jp_net_o hb) rfl inX0 5 (by decide) f27 rfl dX0_isAlike_53 ?_
              refine jg_iload_n cx dX0_isAlike_56 rfl ?_
              refine jg_iald cx dX0_isAlike_57 ((jp_net_6 hb)) rfl (by omega) ?_
              refine jg_aload_n cx dX0_isAlike_58 rfl ?_
              refine jg_get cx (jp_net_o hb2) rfl inX0 5 (by decide) f27 rfl dX0_isAlike_59 ?_
              refine jg_iload_n cx dX0_isAlike_62 rfl ?_
              refine jg_iald cx dX0_isAlike_63 ((jp_net_6 hb2)) rfl (by omega) ?_
              refine jg_icmp_eq cx (tgt := 69) dX0_isAlike_64 (by decide) (fun c64 => ?_) (fun c64 => ?_)
              · refine jg_iincN cx (d := 1) (lv' := [(0, _), (1, _), (2, _)]) dX0_isAlike_69 rfl (by decide) (by decide) rfl ?_
                refine jg_goto cx (tgt := 46) dX0_isAlike_72 (by decide) ?_
                exact jg_to (ih46 (j + 1)  (by omega) (by first | with_reducible rfl | (simp only [jf_alC, hc9, if_pos c64, ↓reduceIte, Bool.false_eq_true, Bool.true_eq_false, reduceCtorEq, eq_self, if_true, if_false, Bool.not_true, Bool.not_false]; first | done | rfl))) rfl rfl rfl
              · refine jg_iconst cx (v := jp_b false) dX0_isAlike_67 (by decide) ?_
                exact jg_bret cx dX0_isAlike_68 (⟨by rw [jf_alike_fC (i := j) (by omega) (by first | with_reducible rfl | (simp only [jf_alC, if_neg c64, ↓reduceIte, Bool.false_eq_true, Bool.true_eq_false, reduceCtorEq, eq_self, if_true, if_false, Bool.not_true, Bool.not_false]; first | done | rfl))], rfl⟩)
        exact jg_to (lp46 64 0  (by omega) rfl) rfl rfl rfl
      · exact absurd hr2 (by omega)
    | succ d2 ih2 =>
      intro i  hr2 hj
      refine jg_iload_n cx dX0_isAlike_2 rfl ?_
      refine jg_bipush cx (v := nI 8) dX0_isAlike_3 (by decide) ?_
      refine jg_icmpN_ge cx (tgt := 44) dX0_isAlike_5 (by decide) (by omega) (by omega) (fun c5 => ?_) (fun c5 => ?_)
      · exact absurd hr2 (by omega)
      · refine jg_aload_n cx dX0_isAlike_8 rfl ?_
        refine jg_get cx (jp_net_o hb) rfl inX0 1 (by decide) f15 rfl dX0_isAlike_9 ?_
        refine jg_iload_n cx dX0_isAlike_12 rfl ?_
        refine jg_iald cx dX0_isAlike_13 ((jp_net_2 hb)) rfl (by omega) ?_
        refine jg_aload_n cx dX0_isAlike_14 rfl ?_
        refine jg_get cx (jp_net_o hb2) rfl inX0 1 (by decide) f15 rfl dX0_isAlike_15 ?_
        refine jg_iload_n cx dX0_isAlike_18 rfl ?_
        refine jg_iald cx dX0_isAlike_19 ((jp_net_2 hb2)) rfl (by omega) ?_
        refine jg_icmp_ne cx (tgt := 36) dX0_isAlike_20 (by decide) (fun c20 => ?_) (fun c20 => ?_)
        · refine jg_iconst cx (v := jp_b false) dX0_isAlike_36 (by decide) ?_
          exact jg_bret cx dX0_isAlike_37 (⟨by rw [jf_alike_fJ (i := i) (by omega) (by first | with_reducible rfl | (simp only [jf_alJ, if_neg c20, ↓reduceIte, Bool.false_eq_true, Bool.true_eq_false, reduceCtorEq, eq_self, if_true, if_false, Bool.not_true, Bool.not_false]; first | done | rfl))], rfl⟩)
        · refine jg_aload_n cx dX0_isAlike_23 rfl ?_
          refine jg_iload_n cx dX0_isAlike_24 rfl ?_
          refine jg_callVi cx (n := 1) (jc_X0_rotorLeftOver_h E l hb (by omega)) gX0_isAlike_X0_rotorLeftOver rfl ⟨rfl, rfl⟩ ⟨(Nat.le_of_ble_eq_true rfl), (Nat.le_of_ble_eq_true rfl)⟩ (by decide +kernel) (jp_net_o hb) rfl rfl rfl (Nat.le_of_ble_eq_true rfl) dX0_isAlike_25 ?_
          refine jg_aload_n cx dX0_isAlike_28 rfl ?_
          refine jg_iload_n cx dX0_isAlike_29 rfl ?_
          refine jg_callVi cx (n := 1) (jc_X0_rotorLeftOver_h E l hb2 (by omega)) gX0_isAlike_X0_rotorLeftOver rfl ⟨rfl, rfl⟩ ⟨(Nat.le_of_ble_eq_true rfl), (Nat.le_of_ble_eq_true rfl)⟩ (by decide +kernel) (jp_net_o hb2) rfl rfl rfl (Nat.le_of_ble_eq_true rfl) dX0_isAlike_30 ?_
          refine jg_icmp_eq cx (tgt := 38) dX0_isAlike_33 (by decide) (fun c33 => ?_) (fun c33 => ?_)
          · refine jg_iincN cx (d := 1) (lv' := [(0, _), (1, _), (2, _)]) dX0_isAlike_38 rfl (by decide) (by decide) rfl ?_
            refine jg_goto cx (tgt := 2) dX0_isAlike_41 (by decide) ?_
            exact jg_to (ih2 (i + 1)  (by omega) (by first | with_reducible rfl | (simp only [jf_alJ, hj, if_pos c20, if_pos c33, ↓reduceIte, Bool.false_eq_true, Bool.true_eq_false, reduceCtorEq, eq_self, if_true, if_false, Bool.not_true, Bool.not_false]; first | done | rfl))) rfl rfl rfl
          · refine jg_iconst cx (v := jp_b false) dX0_isAlike_36 (by decide) ?_
            exact jg_bret cx dX0_isAlike_37 (⟨by rw [jf_alike_fJ (i := i) (by omega) (by first | with_reducible rfl | (simp only [jf_alJ, if_pos c20, if_neg c33, ↓reduceIte, Bool.false_eq_true, Bool.true_eq_false, reduceCtorEq, eq_self, if_true, if_false, Bool.not_true, Bool.not_false]; first | done | rfl))], rfl⟩)
  exact jg_to (lp2 8 0  (by omega) rfl) rfl rfl rfl
def jf_become (M N : jf_B) : jf_B :=
  let N1 := va_up N 1 (va_cpy (M 1) (N 1) 0 0 8)
  let N2 := va_up N1 2 (va_cpy (M 2) (N1 2) 0 0 8)
  let N3 := va_up N2 3 (va_cpy (M 3) (N2 3) 0 0 8)
  let N4 := va_up N3 4 (va_cpy (M 4) (N3 4) 0 0 8)
  let N5 := va_up N4 5 (va_cpy (M 5) (N4 5) 0 0 64)
  let N6 := va_up N5 6 (va_cpy (M 6) (N5 6) 0 0 64)
  jf_w (jf_w N6 0 7 (M 0 7)) 0 8 (M 0 8)
set_option maxHeartbeats 1000000 in
set_option maxRecDepth 100000 in
theorem jc_X0_become (E : jp_E) (l : Launch) {b : Nat} {h : jp_H} {N : jf_B} {L : jf_L} (hb : jp_net b) {b2 : Nat} (hb2 : jp_net b2) (hne : b2 ≠ b) : jc_M E l yX0_become wsX0_become ({ frames := 1, cells := 0, slots := 0, locals := 40 } : Room) [.ref (E.2.1 b 0), .ref (E.2.1 b2 0)] (jp_u h b N L) (jp_R none (jp_u h b (jf_become (h.1 b2) N) L)) := by
  refine jc_of (cc := cX0_become) (maxL := 2) (ret := none) (own := RX0) (lv := [(0, _), (1, _)]) (by decide) rfl rfl (Nat.le_of_ble_eq_true rfl) rfl (fun X cx => ?_)
  have inX0 : ∀ w ∈ u_ws RX0 TX0 9, w ∈ wsX0_become := by decide +kernel
  have f9 : Cond.fieldLink RX0 9 "JobSpread$Net" "speed" "[I" ∈ wsX0_become := by decide +kernel
  have f15 : Cond.fieldLink RX0 15 "JobSpread$Net" "jobs" "[I" ∈ wsX0_become := by decide +kernel
  have f18 : Cond.fieldLink RX0 18 "JobSpread$Net" "rotor" "[I" ∈ wsX0_become := by decide +kernel
  have f21 : Cond.fieldLink RX0 21 "JobSpread$Net" "degree" "[I" ∈ wsX0_become := by decide +kernel
  have f24 : Cond.fieldLink RX0 24 "JobSpread$Net" "colour" "[I" ∈ wsX0_become := by decide +kernel
  have f27 : Cond.fieldLink RX0 27 "JobSpread$Net" "carry" "[I" ∈ wsX0_become := by decide +kernel
  have f33 : Cond.fieldLink RX0 33 "JobSpread$Net" "edges" "I" ∈ wsX0_become := by decide +kernel
  have f37 : Cond.fieldLink RX0 37 "JobSpread$Net" "rounds" "I" ∈ wsX0_become := by decide +kernel
  refine jg_aload_n cx dX0_become_0 rfl ?_
  refine jg_get cx (jp_net_o hb2) rfl inX0 0 (by decide) f9 rfl dX0_become_1 ?_
  refine jg_iconst cx (v := nI 0) dX0_become_4 (by decide) ?_
  refine jg_aload_n cx dX0_become_5 rfl ?_
  refine jg_get cx (jp_net_o hb) rfl inX0 0 (by decide) f9 rfl dX0_become_6 ?_
  refine jg_iconst cx (v := nI 0) dX0_become_9 (by decide) ?_
  refine jg_bipush cx (v := nI 8) dX0_become_10 (by decide) ?_
  refine jg_copyU cx hne (by decide +kernel) (by decide +kernel) (by decide +kernel) (by decide +kernel) (jp_net_1 hb2) (jp_net_1 hb) (Nat.le_of_ble_eq_true rfl) (Nat.le_of_ble_eq_true rfl) dX0_become_12 ?_
  refine jg_aload_n cx dX0_become_15 rfl ?_
  refine jg_get cx (jp_net_o hb2) rfl inX0 1 (by decide) f15 rfl dX0_become_16 ?_
  refine jg_iconst cx (v := nI 0) dX0_become_19 (by decide) ?_
  refine jg_aload_n cx dX0_become_20 rfl ?_
  refine jg_get cx (jp_net_o hb) rfl inX0 1 (by decide) f15 rfl dX0_become_21 ?_
  refine jg_iconst cx (v := nI 0) dX0_become_24 (by decide) ?_
  refine jg_bipush cx (v := nI 8) dX0_become_25 (by decide) ?_
  refine jg_copyU cx hne (by decide +kernel) (by decide +kernel) (by decide +kernel) (by decide +kernel) (jp_net_2 hb2) (jp_net_2 hb) (Nat.le_of_ble_eq_true rfl) (Nat.le_of_ble_eq_true rfl) dX0_become_27 ?_
  refine jg_aload_n cx dX0_become_30 rfl ?_
  refine jg_get cx (jp_net_o hb2) rfl inX0 2 (by decide) f18 rfl dX0_become_31 ?_
  refine jg_iconst cx (v := nI 0) dX0_become_34 (by decide) ?_
  refine jg_aload_n cx dX0_become_35 rfl ?_
  refine jg_get cx (jp_net_o hb) rfl inX0 2 (by decide) f18 rfl dX0_become_36 ?_
  refine jg_iconst cx (v := nI 0) dX0_become_39 (by decide) ?_
  refine jg_bipush cx (v := nI 8) dX0_become_40 (by decide) ?_
  refine jg_copyU cx hne (by decide +kernel) (by decide +kernel) (by decide +kernel) (by decide +kernel) (jp_net_3 hb2) (jp_net_3 hb) (Nat.le_of_ble_eq_true rfl) (Nat.le_of_ble_eq_true rfl) dX0_become_42 ?_
  refine jg_aload_n cx dX0_become_45 rfl ?_
  refine jg_get cx (jp_net_o hb2) rfl inX0 3 (by decide) f21 rfl dX0_become_46 ?_
  refine jg_iconst cx (v := nI 0) dX0_become_49 (by decide) ?_
  refine jg_aload_n cx dX0_become_50 rfl ?_
  refine jg_get cx (jp_net_o hb) rfl inX0 3 (by decide) f21 rfl dX0_become_51 ?_
  refine jg_iconst cx (v := nI 0) dX0_become_54 (by decide) ?_
  refine jg_bipush cx (v := nI 8) dX0_become_55 (by decide) ?_
  refine jg_copyU cx hne (by decide +kernel) (by decide +kernel) (by decide +kernel) (by decide +kernel) (jp_net_4 hb2) (jp_net_4 hb) (Nat.le_of_ble_eq_true rfl) (Nat.le_of_ble_eq_true rfl) dX0_become_57 ?_
  refine jg_aload_n cx dX0_become_60 rfl ?_
  refine jg_get cx (jp_net_o hb2) rfl inX0 4 (by decide) f24 rfl dX0_become_61 ?_
  refine jg_iconst cx (v := nI 0) dX0_become_64 (by decide) ?_
  refine jg_aload_n cx dX0_become_65 rfl ?_
  refine jg_get cx (jp_net_o hb) rfl inX0 4 (by decide) f24 rfl dX0_become_66 ?_
  refine jg_iconst cx (v := nI 0) dX0_become_69 (by decide) ?_
  refine jg_bipush cx (v := nI 64) dX0_become_70 (by decide) ?_
  refine jg_copyU cx hne (by decide +kernel) (by decide +kernel) (by decide +kernel) (by decide +kernel) (jp_net_5 hb2) (jp_net_5 hb) (Nat.le_of_ble_eq_true rfl) (Nat.le_of_ble_eq_true rfl) dX0_become_72 ?_
  refine jg_aload_n cx dX0_become_75 rfl ?_
  refine jg_get cx (jp_net_o hb2) rfl inX0 5 (by decide) f27 rfl dX0_become_76 ?_
  refine jg_iconst cx (v := nI 0) dX0_become_79 (by decide) ?_
  refine jg_aload_n cx dX0_become_80 rfl ?_
  refine jg_get cx (jp_net_o hb) rfl inX0 5 (by decide) f27 rfl dX0_become_81 ?_
  refine jg_iconst cx (v := nI 0) dX0_become_84 (by decide) ?_
  refine jg_bipush cx (v := nI 64) dX0_become_85 (by decide) ?_
  refine jg_copyU cx hne (by decide +kernel) (by decide +kernel) (by decide +kernel) (by decide +kernel) (jp_net_6 hb2) (jp_net_6 hb) (Nat.le_of_ble_eq_true rfl) (Nat.le_of_ble_eq_true rfl) dX0_become_87 ?_
  refine jg_aload_n cx dX0_become_90 rfl ?_
  refine jg_aload_n cx dX0_become_91 rfl ?_
  refine jg_get cx (jp_net_o hb2) rfl inX0 7 (by decide) f33 rfl dX0_become_92 ?_
  refine jg_putU cx (jp_net_o hb) rfl inX0 tyX0 tyX0_ok nmX0 7 (by decide) f33 rfl (by decide +kernel) (Nat.le_of_ble_eq_true rfl) (jp_put0_7 _ _ _ _) dX0_become_95 ?_
  refine jg_aload_n cx dX0_become_98 rfl ?_
  refine jg_aload_n cx dX0_become_99 rfl ?_
  refine jg_get cx (jp_net_o hb2) rfl inX0 8 (by decide) f37 rfl dX0_become_100 ?_
  refine jg_putU cx (jp_net_o hb) rfl inX0 tyX0 tyX0_ok nmX0 8 (by decide) f37 rfl (by decide +kernel) (Nat.le_of_ble_eq_true rfl) (jp_put0_8 _ _ _ _) dX0_become_103 ?_
  exact jg_vret cx dX0_become_106 (⟨rfl, by simp only [jf_become, jp_u_n1 _ _ _ hne]⟩)
def jf_zero (r n : Nat) (N : jf_B) : jf_B := jf_it (fun i M => jf_w M r i (nI 0)) N n
def jf_again (N : jf_B) : jf_B := jf_w (jf_zero 6 64 (jf_zero 3 8 N)) 0 8 (nI 0)
set_option maxHeartbeats 1000000 in
set_option maxRecDepth 100000 in
theorem jc_X0_startAgain (E : jp_E) (l : Launch) {b : Nat} {h : jp_H} {N : jf_B} {L : jf_L} (hb : jp_net b)  : jc_M E l yX0_startAgain wsX0_startAgain ({ frames := 0, cells := 0, slots := 0, locals := 0 } : Room) [.ref (E.2.1 b 0)] (jp_u h b N L) (jp_R none (jp_u h b (jf_again N) L)) := by
  refine jc_of (cc := cX0_startAgain) (maxL := 2) (ret := none) (own := RX0) (lv := [(0, _)]) (by decide) rfl rfl (Nat.le_of_ble_eq_true rfl) rfl (fun X cx => ?_)
  have inX0 : ∀ w ∈ u_ws RX0 TX0 9, w ∈ wsX0_startAgain := by decide +kernel
  have f18 : Cond.fieldLink RX0 18 "JobSpread$Net" "rotor" "[I" ∈ wsX0_startAgain := by decide +kernel
  have f27 : Cond.fieldLink RX0 27 "JobSpread$Net" "carry" "[I" ∈ wsX0_startAgain := by decide +kernel
  have f37 : Cond.fieldLink RX0 37 "JobSpread$Net" "rounds" "I" ∈ wsX0_startAgain := by decide +kernel
  refine jg_iconst cx (v := nI 0) dX0_startAgain_0 (by decide) ?_
  refine jg_istore_n cx (lv' := [(0, _), (1, _)]) dX0_startAgain_1 (by decide) rfl ?_
  have lp2 : ∀ (d2 i : Nat), i + d2 = 8 → X 2 [(0, .ref (E.2.1 b 0)), (1, .int (nI i))] [] (jp_u h b (jf_zero 3 i N) L) := by
    intro d2
    induction d2 with
    | zero =>
      intro i  hr2 
      obtain rfl : i = 8 := by omega
      refine jg_iload_n cx dX0_startAgain_2 rfl ?_
      refine jg_bipush cx (v := nI 8) dX0_startAgain_3 (by decide) ?_
      refine jg_icmpN_ge cx (tgt := 21) dX0_startAgain_5 (by decide) (by omega) (by omega) (fun c5 => ?_) (fun c5 => ?_)
      · refine jg_iconst cx (v := nI 0) dX0_startAgain_21 (by decide) ?_
        refine jg_istore_n cx (lv' := [(0, _), (1, _)]) dX0_startAgain_22 (by decide) rfl ?_
        have lp23 : ∀ (d23 j : Nat), j + d23 = 64 → X 23 [(0, .ref (E.2.1 b 0)), (1, .int (nI j))] [] (jp_u h b (jf_zero 6 j (jf_zero 3 8 N)) L) := by
          intro d23
          induction d23 with
          | zero =>
            intro j  hr23 
            obtain rfl : j = 64 := by omega
            refine jg_iload_n cx dX0_startAgain_23 rfl ?_
            refine jg_bipush cx (v := nI 64) dX0_startAgain_24 (by decide) ?_
            refine jg_icmpN_ge cx (tgt := 42) dX0_startAgain_26 (by decide) (by omega) (by omega) (fun c26 => ?_) (fun c26 => ?_)
            · refine jg_aload_n cx dX0_startAgain_42 rfl ?_
              refine jg_iconst cx (v := nI 0) dX0_startAgain_43 (by decide) ?_
              refine jg_putU cx (jp_net_o hb) rfl inX0 tyX0 tyX0_ok nmX0 8 (by decide) f37 rfl (by decide +kernel) (Nat.le_of_ble_eq_true rfl) (jp_put0_8 _ _ _ _) dX0_startAgain_44 ?_
              exact jg_vret cx dX0_startAgain_47 (⟨rfl, rfl⟩)
            · exact absurd hr23 (by omega)
          | succ d23 ih23 =>
            intro j  hr23 
            refine jg_iload_n cx dX0_startAgain_23 rfl ?_
            refine jg_bipush cx (v := nI 64) dX0_startAgain_24 (by decide) ?_
            refine jg_icmpN_ge cx (tgt := 42) dX0_startAgain_26 (by decide) (by omega) (by omega) (fun c26 => ?_) (fun c26 => ?_)
            · exact absurd hr23 (by omega)
            · refine jg_aload_n cx dX0_startAgain_29 rfl ?_
              refine jg_get cx (jp_net_o hb) rfl inX0 5 (by decide) f27 rfl dX0_startAgain_30 ?_
              refine jg_iload_n cx dX0_startAgain_33 rfl ?_
              refine jg_iconst cx (v := nI 0) dX0_startAgain_34 (by decide) ?_
              refine jg_iastU cx dX0_startAgain_35 ((jp_net_6 hb)) rfl (by omega) ?_
              refine jg_iincN cx (d := 1) (lv' := [(0, _), (1, _)]) dX0_startAgain_36 rfl (by decide) (by decide) rfl ?_
              refine jg_goto cx (tgt := 23) dX0_startAgain_39 (by decide) ?_
              exact jg_to (ih23 (j + 1)  (by omega) ) rfl rfl rfl
        exact jg_to (lp23 64 0  (by omega) ) rfl rfl rfl
      · exact absurd hr2 (by omega)
    | succ d2 ih2 =>
      intro i  hr2 
      refine jg_iload_n cx dX0_startAgain_2 rfl ?_
      refine jg_bipush cx (v := nI 8) dX0_startAgain_3 (by decide) ?_
      refine jg_icmpN_ge cx (tgt := 21) dX0_startAgain_5 (by decide) (by omega) (by omega) (fun c5 => ?_) (fun c5 => ?_)
      · exact absurd hr2 (by omega)
      · refine jg_aload_n cx dX0_startAgain_8 rfl ?_
        refine jg_get cx (jp_net_o hb) rfl inX0 2 (by decide) f18 rfl dX0_startAgain_9 ?_
        refine jg_iload_n cx dX0_startAgain_12 rfl ?_
        refine jg_iconst cx (v := nI 0) dX0_startAgain_13 (by decide) ?_
        refine jg_iastU cx dX0_startAgain_14 ((jp_net_3 hb)) rfl (by omega) ?_
        refine jg_iincN cx (d := 1) (lv' := [(0, _), (1, _)]) dX0_startAgain_15 rfl (by decide) (by decide) rfl ?_
        refine jg_goto cx (tgt := 2) dX0_startAgain_18 (by decide) ?_
        exact jg_to (ih2 (i + 1)  (by omega) ) rfl rfl rfl
  exact jg_to (lp2 8 0  (by omega) ) rfl rfl rfl
def jf_set1 (i : Nat) (N : jf_B) : jf_B := jf_w (jf_w N 2 i (N 2 i + N 7 i)) 7 i (nI 0)
def jf_settle (N : jf_B) : jf_B := jf_it jf_set1 N 8
theorem jf_w_o (N : jf_B) {r r' : Nat} (j k : Nat) (x : Int32) (hn : r' ≠ r) : jf_w N r j x r' k = N r' k := by simp [jf_w, va_up, hn]
set_option maxHeartbeats 1000000 in
set_option maxRecDepth 100000 in
theorem jc_X0_settle (E : jp_E) (l : Launch) {b : Nat} {h : jp_H} {N : jf_B} {L : jf_L} (hb : jp_net b)  : jc_M E l yX0_settle wsX0_settle ({ frames := 0, cells := 0, slots := 0, locals := 0 } : Room) [.ref (E.2.1 b 0)] (jp_u h b N L) (jp_R none (jp_u h b (jf_settle N) L)) := by
  refine jc_of (cc := cX0_settle) (maxL := 2) (ret := none) (own := RX0) (lv := [(0, _)]) (by decide) rfl rfl (Nat.le_of_ble_eq_true rfl) rfl (fun X cx => ?_)
  have inX0 : ∀ w ∈ u_ws RX0 TX0 9, w ∈ wsX0_settle := by decide +kernel
  have f15 : Cond.fieldLink RX0 15 "JobSpread$Net" "jobs" "[I" ∈ wsX0_settle := by decide +kernel
  have f30 : Cond.fieldLink RX0 30 "JobSpread$Net" "change" "[I" ∈ wsX0_settle := by decide +kernel
  refine jg_iconst cx (v := nI 0) dX0_settle_0 (by decide) ?_
  refine jg_istore_n cx (lv' := [(0, _), (1, _)]) dX0_settle_1 (by decide) rfl ?_
  have lp2 : ∀ (d2 i : Nat), i + d2 = 8 → X 2 [(0, .ref (E.2.1 b 0)), (1, .int (nI i))] [] (jp_u h b (jf_it jf_set1 N i) L) := by
    intro d2
    induction d2 with
    | zero =>
      intro i  hr2 
      obtain rfl : i = 8 := by omega
      refine jg_iload_n cx dX0_settle_2 rfl ?_
      refine jg_bipush cx (v := nI 8) dX0_settle_3 (by decide) ?_
      refine jg_icmpN_ge cx (tgt := 36) dX0_settle_5 (by decide) (by omega) (by omega) (fun c5 => ?_) (fun c5 => ?_)
      · exact jg_vret cx dX0_settle_36 (⟨rfl, rfl⟩)
      · exact absurd hr2 (by omega)
    | succ d2 ih2 =>
      intro i  hr2 
      refine jg_iload_n cx dX0_settle_2 rfl ?_
      refine jg_bipush cx (v := nI 8) dX0_settle_3 (by decide) ?_
      refine jg_icmpN_ge cx (tgt := 36) dX0_settle_5 (by decide) (by omega) (by omega) (fun c5 => ?_) (fun c5 => ?_)
      · exact absurd hr2 (by omega)
      · refine jg_aload_n cx dX0_settle_8 rfl ?_
        refine jg_get cx (jp_net_o hb) rfl inX0 1 (by decide) f15 rfl dX0_settle_9 ?_
        refine jg_iload_n cx dX0_settle_12 rfl ?_
        refine jg_dup2 cx dX0_settle_13 rfl rfl ?_
        refine jg_ialdU cx dX0_settle_14 ((jp_net_2 hb)) rfl (by omega) ?_
        refine jg_aload_n cx dX0_settle_15 rfl ?_
        refine jg_get cx (jp_net_o hb) rfl inX0 6 (by decide) f30 rfl dX0_settle_16 ?_
        refine jg_iload_n cx dX0_settle_19 rfl ?_
        refine jg_ialdU cx dX0_settle_20 ((jp_net_7 hb)) rfl (by omega) ?_
        refine jg_iadd cx dX0_settle_21 ?_
        refine jg_iastU cx dX0_settle_22 ((jp_net_2 hb)) rfl (by omega) ?_
        refine jg_aload_n cx dX0_settle_23 rfl ?_
        refine jg_get cx (jp_net_o hb) rfl inX0 6 (by decide) f30 rfl dX0_settle_24 ?_
        refine jg_iload_n cx dX0_settle_27 rfl ?_
        refine jg_iconst cx (v := nI 0) dX0_settle_28 (by decide) ?_
        refine jg_iastU cx dX0_settle_29 ((jp_net_7 hb)) rfl (by omega) ?_
        refine jg_iincN cx (d := 1) (lv' := [(0, _), (1, _)]) dX0_settle_30 rfl (by decide) (by decide) rfl ?_
        refine jg_goto cx (tgt := 2) dX0_settle_33 (by decide) ?_
        exact jg_to (ih2 (i + 1)  (by omega) ) rfl rfl rfl
  exact jg_to (lp2 8 0  (by omega) ) rfl rfl rfl
