/-! ===== net(): the pad's edges are laid ===== -/
theorem jp_u_21 (h : jp_H) (N : jf_B) (L : jf_L) : (jp_u h 2 N L).1 1 = h.1 1 := jp_u_n1 h N L (by decide)
theorem jp_s_u (h : jp_H) (N : jf_B) (L : jf_L) (x : Int32) : jp_s (jp_u h 2 N L) 1 0 1 x = jp_u (jp_s h 1 0 1 x) 2 N L := by
  unfold jp_s jp_sr
  rw [jp_u_21]
  unfold jp_u
  refine Prod.ext ?_ ?_
  · funext j
    simp only [va_up]
    by_cases q1 : j = 1 <;> by_cases q2 : j = 2 <;> simp_all
  · rfl
theorem jc_ff_21 (E : jp_E) (l : Launch) {h : jp_H} {N : jf_B} {L : jf_L} {n : Nat} (hn : h.1 1 0 1 = nI n) (hn40 : n ≤ 40) : jc_M E l yX1_firstFault wsX1_firstFault ({ frames := 3, cells := 0, slots := 0, locals := 65 } : Room) [.ref (E.2.1 1 0)] (jp_u h 2 N L) (jp_R (some (.int (jf_ff (h.1 1) n))) (jp_u h 2 N L)) := by
  have t9 := jc_X1_firstFault_h E l (h := jp_u h 2 N L) (n := n) (by rw [jp_u_21]; exact hn) hn40
  rw [jp_u_21] at t9
  exact t9
theorem jc_nodeAt_21 (E : jp_E) (l : Launch) {h : jp_H} {N : jf_B} {L : jf_L} {k : Nat} (hk : k < 40) : jc_M E l yX1_nodeAt wsX1_nodeAt ({ frames := 0, cells := 0, slots := 0, locals := 0 } : Room) [.ref (E.2.1 1 0), .int (nI k)] (jp_u h 2 N L) (jp_R (some (.int (jf_nd (h.1 1) k))) (jp_u h 2 N L)) := by
  have t9 := jc_X1_nodeAt E l (h := jp_u h 2 N L) (N := (jp_u h 2 N L).1 1) (L := (jp_u h 2 N L).2 1) hk
  rw [jp_u_self, jp_u_21] at t9
  exact t9
theorem jc_colourAt_21 (E : jp_E) (l : Launch) {h : jp_H} {N : jf_B} {L : jf_L} {k : Nat} (hk : k < 40) : jc_M E l yX1_colourAt wsX1_colourAt ({ frames := 0, cells := 0, slots := 0, locals := 0 } : Room) [.ref (E.2.1 1 0), .int (nI k)] (jp_u h 2 N L) (jp_R (some (.int (jf_cl (h.1 1) k))) (jp_u h 2 N L)) := by
  have t9 := jc_X1_colourAt E l (h := jp_u h 2 N L) (N := (jp_u h 2 N L).1 1) (L := (jp_u h 2 N L).2 1) hk
  rw [jp_u_self, jp_u_21] at t9
  exact t9
theorem jf_nI_n6 {n : Nat} (hn : n < 2 ^ 31) : ¬ nI n = -6 := fun e => by
  have h1 := nI_toInt hn
  rw [e] at h1
  have h2 : ((-6 : Int32)).toInt = -6 := by decide
  omega
theorem jf_ffd_none {P : jf_B} {n : Nat} (hn : n ≤ 40) : ∀ {d i : Nat}, i + d = n → jf_ffd P n d i = -6 → n % 3 = 0 ∧ ∀ k, i ≤ k → k < n → jf_stand P k = true
  | 0, i, hd, h => by
    unfold jf_ffd at h
    split at h
    · next c =>
      refine ⟨?_, fun k h1 h2 => by omega⟩
      have := (nI_eq (a := n % 3) (b := 0) (by omega) (by decide)).mp c
      exact this
    · exact absurd h (jf_nI_n6 (by omega))
  | d + 1, i, hd, h => by
    unfold jf_ffd at h
    split at h
    · next c =>
      obtain ⟨h1, h2⟩ := jf_ffd_none hn (d := d) (i := i + 1) (by omega) h
      refine ⟨h1, fun k h3 h4 => ?_⟩
      by_cases q : k = i
      · rw [q]; exact c
      · exact h2 k (by omega) h4
    · exact absurd h (jf_nI_n6 (by omega))
theorem jf_ff_none {P : jf_B} {n : Nat} (hn : n ≤ 40) (h : jf_ff P n = -6) : n % 3 = 0 ∧ ∀ k, k < n → jf_stand P k = true := by
  obtain ⟨h1, h2⟩ := jf_ffd_none hn (by omega) h
  exact ⟨h1, fun k hk => h2 k (by omega) hk⟩
theorem jf_stand_lt {P : jf_B} {k : Nat} (h : jf_stand P k = true) : k < 36 := by
  by_cases q : k < 36
  · exact q
  · rw [jf_stand_3 (by omega)] at h; cases h
theorem jf_stand_n0 {P : jf_B} {i : Nat} (h : jf_stand P (3 * i) = true) : ∃ a, a < 8 ∧ jf_nd P (3 * i) = nI a := by
  rw [jf_stand_0 (jf_stand_lt h) (by omega)] at h
  exact jf_node_of h
theorem jf_stand_n1 {P : jf_B} {i : Nat} (h : jf_stand P (3 * i + 1) = true) : ∃ a, a < 8 ∧ jf_nd P (3 * i + 1) = nI a := by
  rw [jf_stand_1 (jf_stand_lt h)] at h
  unfold jf_st1 at h
  split at h
  · next c => exact jf_node_of c
  · cases h
def jf_netS (P : jf_B) (i : Nat) (N : jf_B) : jf_B := jf_lay N (jf_nd P (3 * i)).toNatClampNeg (jf_nd P (3 * i + 1)).toNatClampNeg (jf_cl P (3 * i + 2))
def jf_net (P : jf_B) (n : Nat) (N : jf_B) : jf_B := jf_it (jf_netS P) (jf_liftAll N) (n / 3)
set_option maxHeartbeats 1000000 in
set_option maxRecDepth 100000 in
theorem jc_X2_net (E : jp_E) (l : Launch) {h : jp_H} {N : jf_B} {L : jf_L} {n : Nat} (hn : h.1 1 0 1 = nI n) (h40 : n ≤ 40) : jc_M E l yX2_net wsX2_net ({ frames := 4, cells := 0, slots := 0, locals := 88 } : Room) [.ref (E.2.1 0 0)] (jp_u h 2 N L) (jp_R (some (.int (if jf_ff (h.1 1) n = -6 then jf_net (h.1 1) n N 0 7 else -7))) (if jf_ff (h.1 1) n = -6 then jp_u (jp_s h 1 0 1 (nI 0)) 2 (jf_net (h.1 1) n N) L else jp_u h 2 N L)) := by
  refine jc_of (cc := cX2_net) (maxL := 2) (ret := some .int) (own := RX2) (lv := [(0, _)]) (by decide) rfl rfl (Nat.le_of_ble_eq_true rfl) rfl (fun X cx => ?_)
  have inX0 : ∀ w ∈ u_ws RX0 TX0 9, w ∈ wsX2_net := by decide +kernel
  have inX1 : ∀ w ∈ u_ws RX1 TX1 2, w ∈ wsX2_net := by decide +kernel
  have inX2 : ∀ w ∈ u_ws RX2 TX2 9, w ∈ wsX2_net := by decide +kernel
  have f10 : Cond.fieldLink RX2 10 "JobSpread" "pad" "LJobSpread$Pad;" ∈ wsX2_net := by decide +kernel
  have f19 : Cond.fieldLink RX2 19 "JobSpread" "now" "LJobSpread$Net;" ∈ wsX2_net := by decide +kernel
  refine jg_aload_n cx dX2_net_0 rfl ?_
  refine jg_get cx jp_js_o rfl inX2 0 (by decide) f10 rfl dX2_net_1 ?_
  refine jg_callVNi cx (n := 0) (jc_ff_21 E l hn h40) gX2_net_X1_firstFault_n83 (by decide +kernel) (by decide +kernel) (by decide +kernel) (by decide +kernel) rfl ⟨rfl, rfl⟩ ⟨(Nat.le_of_ble_eq_true rfl), (Nat.le_of_ble_eq_true rfl)⟩ (by decide +kernel) jp_pad_o rfl rfl rfl (Nat.le_of_ble_eq_true rfl) dX2_net_4 ?_
  refine jg_bipush cx (v := (-6)) dX2_net_7 (by decide) ?_
  refine jg_icmp_eq cx (tgt := 15) dX2_net_9 (by decide) (fun c9 => ?_) (fun c9 => ?_)
  · obtain ⟨hn3, hst⟩ := jf_ff_none h40 c9
    obtain ⟨m, rfl⟩ : ∃ m, n = 3 * m := ⟨n / 3, by omega⟩
    refine jg_aload_n cx dX2_net_15 rfl ?_
    refine jg_get cx jp_js_o rfl inX2 1 (by decide) f19 rfl dX2_net_16 ?_
    refine jg_callVNv cx (n := 0) (jc_X0_liftAll E l jp_net2) gX2_net_X0_liftAll_n87 (by decide +kernel) (by decide +kernel) (by decide +kernel) (by decide +kernel) rfl ⟨rfl, rfl⟩ ⟨(Nat.le_of_ble_eq_true rfl), (Nat.le_of_ble_eq_true rfl)⟩ (by decide +kernel) (jp_net_o jp_net2) rfl rfl rfl (Nat.le_of_ble_eq_true rfl) dX2_net_19 ?_
    refine jg_iconst cx (v := nI 0) dX2_net_22 (by decide) ?_
    refine jg_istore_n cx (lv' := [(0, _), (1, _)]) dX2_net_23 (by decide) rfl ?_
    have lp24 : ∀ (d24 i : Nat), i + d24 = m → X 24 [(0, .ref (E.2.1 0 0)), (1, .int (nI (3 * i)))] [] (jp_u h 2 (jf_it (jf_netS (h.1 1)) (jf_liftAll N) i) L) := by
      intro d24
      induction d24 with
      | zero =>
        intro i  hr24 
        refine jg_iload_n cx dX2_net_24 rfl ?_
        refine jg_iconst cx (v := nI 2) dX2_net_25 (by decide) ?_
        refine jg_iaddN cx dX2_net_26 ?_
        refine jg_aload_n cx dX2_net_27 rfl ?_
        refine jg_get cx jp_js_o rfl inX2 0 (by decide) f10 rfl dX2_net_28 ?_
        refine jg_getN cx jp_pad_o rfl inX1 1 (by decide) (by decide +kernel) rfl dX2_net_31 ?_
        rw [jp_u_21]
        rw [hn]
        refine jg_icmpN_ge cx (tgt := 78) dX2_net_34 (by decide) (by omega) (by omega) (fun c34 => ?_) (fun c34 => ?_)
        · refine jg_aload_n cx dX2_net_78 rfl ?_
          refine jg_get cx jp_js_o rfl inX2 0 (by decide) f10 rfl dX2_net_79 ?_
          refine jg_iconst cx (v := nI 0) dX2_net_82 (by decide) ?_
          refine jg_putN cx jp_pad_o rfl inX1 tyX1 tyX1_ok nmX1 1 (by decide) (by decide +kernel) rfl (by decide +kernel) (Nat.le_of_ble_eq_true rfl) (jp_put1_1 _ _ _) dX2_net_83 ?_
          rw [jp_s_u]
          refine jg_aload_n cx dX2_net_86 rfl ?_
          refine jg_get cx jp_js_o rfl inX2 1 (by decide) f19 rfl dX2_net_87 ?_
          refine jg_getN cx (jp_net_o jp_net2) rfl inX0 7 (by decide) (by decide +kernel) rfl dX2_net_90 ?_
          rw [jp_u_1]
          exact jg_iret cx dX2_net_93 (⟨by rw [if_pos c9]; unfold jf_net; rw [show 3 * m / 3 = i by omega], by rw [if_pos c9]; unfold jf_net; rw [show 3 * m / 3 = i by omega]⟩)
        · exact absurd hr24 (by omega)
      | succ d24 ih24 =>
        intro i  hr24 
        refine jg_iload_n cx dX2_net_24 rfl ?_
        refine jg_iconst cx (v := nI 2) dX2_net_25 (by decide) ?_
        refine jg_iaddN cx dX2_net_26 ?_
        refine jg_aload_n cx dX2_net_27 rfl ?_
        refine jg_get cx jp_js_o rfl inX2 0 (by decide) f10 rfl dX2_net_28 ?_
        refine jg_getN cx jp_pad_o rfl inX1 1 (by decide) (by decide +kernel) rfl dX2_net_31 ?_
        rw [jp_u_21]
        rw [hn]
        refine jg_icmpN_ge cx (tgt := 78) dX2_net_34 (by decide) (by omega) (by omega) (fun c34 => ?_) (fun c34 => ?_)
        · exact absurd hr24 (by omega)
        · refine jg_aload_n cx dX2_net_37 rfl ?_
          refine jg_get cx jp_js_o rfl inX2 1 (by decide) f19 rfl dX2_net_38 ?_
          refine jg_aload_n cx dX2_net_41 rfl ?_
          refine jg_get cx jp_js_o rfl inX2 0 (by decide) f10 rfl dX2_net_42 ?_
          refine jg_iload_n cx dX2_net_45 rfl ?_
          refine jg_callVNi cx (n := 1) (jc_nodeAt_21 E l (by omega)) gX2_net_X1_nodeAt_n90 (by decide +kernel) (by decide +kernel) (by decide +kernel) (by decide +kernel) rfl ⟨rfl, rfl⟩ ⟨(Nat.le_of_ble_eq_true rfl), (Nat.le_of_ble_eq_true rfl)⟩ (by decide +kernel) jp_pad_o rfl rfl rfl (Nat.le_of_ble_eq_true rfl) dX2_net_46 ?_
          refine jg_aload_n cx dX2_net_49 rfl ?_
          refine jg_get cx jp_js_o rfl inX2 0 (by decide) f10 rfl dX2_net_50 ?_
          refine jg_iload_n cx dX2_net_53 rfl ?_
          refine jg_iconst cx (v := nI 1) dX2_net_54 (by decide) ?_
          refine jg_iaddN cx dX2_net_55 ?_
          refine jg_callVNi cx (n := 1) (jc_nodeAt_21 E l (by omega)) gX2_net_X1_nodeAt_n90 (by decide +kernel) (by decide +kernel) (by decide +kernel) (by decide +kernel) rfl ⟨rfl, rfl⟩ ⟨(Nat.le_of_ble_eq_true rfl), (Nat.le_of_ble_eq_true rfl)⟩ (by decide +kernel) jp_pad_o rfl rfl rfl (Nat.le_of_ble_eq_true rfl) dX2_net_56 ?_
          refine jg_aload_n cx dX2_net_59 rfl ?_
          refine jg_get cx jp_js_o rfl inX2 0 (by decide) f10 rfl dX2_net_60 ?_
          refine jg_iload_n cx dX2_net_63 rfl ?_
          refine jg_iconst cx (v := nI 2) dX2_net_64 (by decide) ?_
          refine jg_iaddN cx dX2_net_65 ?_
          refine jg_callVNi cx (n := 1) (jc_colourAt_21 E l (by omega)) gX2_net_X1_colourAt_n94 (by decide +kernel) (by decide +kernel) (by decide +kernel) (by decide +kernel) rfl ⟨rfl, rfl⟩ ⟨(Nat.le_of_ble_eq_true rfl), (Nat.le_of_ble_eq_true rfl)⟩ (by decide +kernel) jp_pad_o rfl rfl rfl (Nat.le_of_ble_eq_true rfl) dX2_net_66 ?_
          obtain ⟨a, ha, ea⟩ := jf_stand_n0 (hst (3 * i) (by omega))
          obtain ⟨c, hc, ec⟩ := jf_stand_n1 (hst (3 * i + 1) (by omega))
          have ea2 : (jf_nd (h.1 1) (3 * i)).toNatClampNeg = a := by rw [ea]; exact nI_clamp (by omega)
          have ec2 : (jf_nd (h.1 1) (3 * i + 1)).toNatClampNeg = c := by rw [ec]; exact nI_clamp (by omega)
          rw [ea, ec]
          refine jg_callVNv cx (n := 3) (jc_X0_lay E l jp_net2 ha hc) gX2_net_X0_lay_n72 (by decide +kernel) (by decide +kernel) (by decide +kernel) (by decide +kernel) rfl ⟨rfl, rfl⟩ ⟨(Nat.le_of_ble_eq_true rfl), (Nat.le_of_ble_eq_true rfl)⟩ (by decide +kernel) (jp_net_o jp_net2) rfl rfl rfl (Nat.le_of_ble_eq_true rfl) dX2_net_69 ?_
          refine jg_iincN cx (d := 3) (lv' := [(0, _), (1, _)]) dX2_net_72 rfl (by decide) (by decide) rfl ?_
          refine jg_goto cx (tgt := 24) dX2_net_75 (by decide) ?_
          exact jg_to (ih24 (i + 1)  (by omega) ) rfl rfl (by simp only [jf_it, jf_netS, ea2, ec2])
    exact jg_to (lp24 m 0  (by omega) ) rfl rfl (by first | with_reducible rfl | (simp only [jf_it, if_pos c9, ↓reduceIte, Bool.false_eq_true, Bool.true_eq_false, reduceCtorEq, eq_self, if_true, if_false, Bool.not_true, Bool.not_false]; first | done | rfl))
  · refine jg_bipush cx (v := (-7)) dX2_net_12 (by decide) ?_
    exact jg_iret cx dX2_net_14 (⟨by rw [if_neg c9], by rw [if_neg c9]⟩)
theorem jc_X2_net_h (E : jp_E) (l : Launch) {h : jp_H} {n : Nat} (hn : h.1 1 0 1 = nI n) (h40 : n ≤ 40) : jc_M E l yX2_net wsX2_net ({ frames := 4, cells := 0, slots := 0, locals := 88 } : Room) [.ref (E.2.1 0 0)] h (jp_R (some (.int (if jf_ff (h.1 1) n = -6 then jf_net (h.1 1) n (h.1 2) 0 7 else -7))) (if jf_ff (h.1 1) n = -6 then jp_u (jp_s h 1 0 1 (nI 0)) 2 (jf_net (h.1 1) n (h.1 2)) (h.2 2) else h)) := by
  have t9 := jc_X2_net E l (h := h) (N := h.1 2) (L := h.2 2) hn h40
  rw [jp_u_self] at t9
  exact t9
