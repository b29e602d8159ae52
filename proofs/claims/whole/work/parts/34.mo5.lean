/-! ===== the model, looking ahead; images ===== -/
def jk_sv1 (t i : Nat) (M : jf_B) : jf_B := jf_w M 2 (153 * t + i) (M 1 i)
def jk_ld1 (t i : Nat) (M : jf_B) : jf_B := jf_w M 1 i (M 2 (153 * t + i))
def jk_svT (t : Nat) (M : jf_B) (i : Nat) : jf_B := jf_it (jk_sv1 t) M i
def jk_ldT (t : Nat) (M : jf_B) (i : Nat) : jf_B := jf_it (jk_ld1 t) M i
def jk_save (t : Nat) (M : jf_B) : jf_B := jk_svT t M 153
def jk_load (t : Nat) (M : jf_B) : jf_B := jk_ldT t M 153
set_option maxHeartbeats 1000000 in
set_option maxRecDepth 100000 in
theorem jc_X3_save (E : jp_E) (l : Launch) {h : jp_H} {M : jf_B} {L : jf_L} {t : Nat} (ht : t ≤ 2) : jc_M E l yX3_save wsX3_save ({ frames := 0, cells := 0, slots := 0, locals := 0 } : Room) [.ref (E.2.1 7 0), .int (nI t)] (jp_u h 7 M L) (jp_R none (jp_u h 7 (jk_save t M) L)) := by
  refine jc_of (cc := cX3_save) (maxL := 3) (ret := none) (own := RX3) (lv := [(0, _), (1, _)]) (by decide) rfl rfl (Nat.le_of_ble_eq_true rfl) rfl (fun X cx => ?_)
  have inX3 : ∀ w ∈ u_ws RX3 TX3 11, w ∈ wsX3_save := by decide +kernel
  have f7 : Cond.fieldLink RX3 7 "JobSpreadModel" "state" "[I" ∈ wsX3_save := by decide +kernel
  have f13 : Cond.fieldLink RX3 13 "JobSpreadModel" "images" "[I" ∈ wsX3_save := by decide +kernel
  refine jg_iconst cx (v := nI 0) dX3_save_0 (by decide) ?_
  refine jg_istore_n cx (lv' := [(0, _), (1, _), (2, _)]) dX3_save_1 (by decide) rfl ?_
  have lp2 : ∀ (d2 i : Nat), i + d2 = 153 → X 2 [(0, .ref (E.2.1 7 0)), (1, .int (nI t)), (2, .int (nI i))] [] (jp_u h 7 (jk_svT t M i) L) := by
    intro d2
    induction d2 with
    | zero =>
      intro i  hr2 
      obtain rfl : i = 153 := by omega
      refine jg_iload_n cx dX3_save_2 rfl ?_
      refine jg_sipush cx (v := nI 153) dX3_save_3 (by decide) ?_
      refine jg_icmpN_ge cx (tgt := 33) dX3_save_6 (by decide) (by omega) (by omega) (fun c6 => ?_) (fun c6 => ?_)
      · exact jg_vret cx dX3_save_33 (⟨rfl, (by first | with_reducible rfl | (simp only [jk_save, ↓reduceIte, Bool.false_eq_true, Bool.true_eq_false, reduceCtorEq, eq_self, if_true, if_false, Bool.not_true, Bool.not_false]; first | done | rfl))⟩)
      · exact absurd hr2 (by omega)
    | succ d2 ih2 =>
      intro i  hr2 
      refine jg_iload_n cx dX3_save_2 rfl ?_
      refine jg_sipush cx (v := nI 153) dX3_save_3 (by decide) ?_
      refine jg_icmpN_ge cx (tgt := 33) dX3_save_6 (by decide) (by omega) (by omega) (fun c6 => ?_) (fun c6 => ?_)
      · exact absurd hr2 (by omega)
      · refine jg_aload_n cx dX3_save_9 rfl ?_
        refine jg_get cx jp_mo_o rfl inX3 1 (by decide) f13 rfl dX3_save_10 ?_
        refine jg_sipush cx (v := nI 153) dX3_save_13 (by decide) ?_
        refine jg_iload_n cx dX3_save_16 rfl ?_
        refine jg_imulN cx dX3_save_17 ?_
        refine jg_iload_n cx dX3_save_18 rfl ?_
        refine jg_iaddN cx dX3_save_19 ?_
        refine jg_aload_n cx dX3_save_20 rfl ?_
        refine jg_get cx jp_mo_o rfl inX3 0 (by decide) f7 rfl dX3_save_21 ?_
        refine jg_iload_n cx dX3_save_24 rfl ?_
        refine jg_ialdU cx dX3_save_25 (jp_mo_1) rfl (by omega) ?_
        refine jg_iastU cx dX3_save_26 (jp_mo_2) rfl (by omega) ?_
        refine jg_iincN cx (d := 1) (lv' := [(0, _), (1, _), (2, _)]) dX3_save_27 rfl (by decide) (by decide) rfl ?_
        refine jg_goto cx (tgt := 2) dX3_save_30 (by decide) ?_
        exact jg_to (ih2 (i + 1)  (by omega) ) rfl rfl rfl
  exact jg_to (lp2 153 0  (by omega) ) rfl rfl rfl
set_option maxHeartbeats 1000000 in
set_option maxRecDepth 100000 in
theorem jc_X3_load (E : jp_E) (l : Launch) {h : jp_H} {M : jf_B} {L : jf_L} {t : Nat} (ht : t ≤ 2) : jc_M E l yX3_load wsX3_load ({ frames := 0, cells := 0, slots := 0, locals := 0 } : Room) [.ref (E.2.1 7 0), .int (nI t)] (jp_u h 7 M L) (jp_R none (jp_u h 7 (jk_load t M) L)) := by
  refine jc_of (cc := cX3_load) (maxL := 3) (ret := none) (own := RX3) (lv := [(0, _), (1, _)]) (by decide) rfl rfl (Nat.le_of_ble_eq_true rfl) rfl (fun X cx => ?_)
  have inX3 : ∀ w ∈ u_ws RX3 TX3 11, w ∈ wsX3_load := by decide +kernel
  have f7 : Cond.fieldLink RX3 7 "JobSpreadModel" "state" "[I" ∈ wsX3_load := by decide +kernel
  have f13 : Cond.fieldLink RX3 13 "JobSpreadModel" "images" "[I" ∈ wsX3_load := by decide +kernel
  refine jg_iconst cx (v := nI 0) dX3_load_0 (by decide) ?_
  refine jg_istore_n cx (lv' := [(0, _), (1, _), (2, _)]) dX3_load_1 (by decide) rfl ?_
  have lp2 : ∀ (d2 i : Nat), i + d2 = 153 → X 2 [(0, .ref (E.2.1 7 0)), (1, .int (nI t)), (2, .int (nI i))] [] (jp_u h 7 (jk_ldT t M i) L) := by
    intro d2
    induction d2 with
    | zero =>
      intro i  hr2 
      obtain rfl : i = 153 := by omega
      refine jg_iload_n cx dX3_load_2 rfl ?_
      refine jg_sipush cx (v := nI 153) dX3_load_3 (by decide) ?_
      refine jg_icmpN_ge cx (tgt := 33) dX3_load_6 (by decide) (by omega) (by omega) (fun c6 => ?_) (fun c6 => ?_)
      · exact jg_vret cx dX3_load_33 (⟨rfl, (by first | with_reducible rfl | (simp only [jk_load, ↓reduceIte, Bool.false_eq_true, Bool.true_eq_false, reduceCtorEq, eq_self, if_true, if_false, Bool.not_true, Bool.not_false]; first | done | rfl))⟩)
      · exact absurd hr2 (by omega)
    | succ d2 ih2 =>
      intro i  hr2 
      refine jg_iload_n cx dX3_load_2 rfl ?_
      refine jg_sipush cx (v := nI 153) dX3_load_3 (by decide) ?_
      refine jg_icmpN_ge cx (tgt := 33) dX3_load_6 (by decide) (by omega) (by omega) (fun c6 => ?_) (fun c6 => ?_)
      · exact absurd hr2 (by omega)
      · refine jg_aload_n cx dX3_load_9 rfl ?_
        refine jg_get cx jp_mo_o rfl inX3 0 (by decide) f7 rfl dX3_load_10 ?_
        refine jg_iload_n cx dX3_load_13 rfl ?_
        refine jg_aload_n cx dX3_load_14 rfl ?_
        refine jg_get cx jp_mo_o rfl inX3 1 (by decide) f13 rfl dX3_load_15 ?_
        refine jg_sipush cx (v := nI 153) dX3_load_18 (by decide) ?_
        refine jg_iload_n cx dX3_load_21 rfl ?_
        refine jg_imulN cx dX3_load_22 ?_
        refine jg_iload_n cx dX3_load_23 rfl ?_
        refine jg_iaddN cx dX3_load_24 ?_
        refine jg_ialdU cx dX3_load_25 (jp_mo_2) rfl (by omega) ?_
        refine jg_iastU cx dX3_load_26 (jp_mo_1) rfl (by omega) ?_
        refine jg_iincN cx (d := 1) (lv' := [(0, _), (1, _), (2, _)]) dX3_load_27 rfl (by decide) (by decide) rfl ?_
        refine jg_goto cx (tgt := 2) dX3_load_30 (by decide) ?_
        exact jg_to (ih2 (i + 1)  (by omega) ) rfl rfl rfl
  exact jg_to (lp2 153 0  (by omega) ) rfl rfl rfl
def jk_isEv (M : jf_B) (d : Int32) : Bool := if d * jk_dn M < jk_up M then false else true
set_option maxHeartbeats 1000000 in
set_option maxRecDepth 100000 in
theorem jc_X3_isEven (E : jp_E) (l : Launch) {h : jp_H} {M : jf_B} {L : jf_L} {d : Int32} : jc_M E l yX3_isEven wsX3_isEven ({ frames := 1, cells := 0, slots := 0, locals := 23 } : Room) [.ref (E.2.1 7 0), .int d] (jp_u h 7 M L) (jp_R (some (.int (jp_b (jk_isEv M d)))) (jp_u h 7 (jk_unev M) L)) := by
  refine jc_of (cc := cX3_isEven) (maxL := 2) (ret := some .boolean) (own := RX3) (lv := [(0, _), (1, _)]) (by decide) rfl rfl (Nat.le_of_ble_eq_true rfl) rfl (fun X cx => ?_)
  have inX3 : ∀ w ∈ u_ws RX3 TX3 11, w ∈ wsX3_isEven := by decide +kernel
  have f113 : Cond.fieldLink RX3 113 "JobSpreadModel" "upper" "I" ∈ wsX3_isEven := by decide +kernel
  have f116 : Cond.fieldLink RX3 116 "JobSpreadModel" "lower" "I" ∈ wsX3_isEven := by decide +kernel
  refine jg_aload_n cx dX3_isEven_0 rfl ?_
  refine jg_callVv cx (n := 0) (jc_X3_layUneven E l) gX3_isEven_X3_layUneven rfl ⟨rfl, rfl⟩ ⟨(Nat.le_of_ble_eq_true rfl), (Nat.le_of_ble_eq_true rfl)⟩ (by decide +kernel) jp_mo_o rfl rfl rfl (Nat.le_of_ble_eq_true rfl) dX3_isEven_1 ?_
  refine jg_aload_n cx dX3_isEven_4 rfl ?_
  refine jg_getU cx jp_mo_o rfl inX3 6 (by decide) f113 rfl dX3_isEven_5 ?_
  rw [jk_unev_6]
  refine jg_iload_n cx dX3_isEven_8 rfl ?_
  refine jg_aload_n cx dX3_isEven_9 rfl ?_
  refine jg_getU cx jp_mo_o rfl inX3 7 (by decide) f116 rfl dX3_isEven_10 ?_
  rw [jk_unev_7]
  refine jg_imul cx dX3_isEven_13 ?_
  refine jg_icmp_gt cx (tgt := 21) dX3_isEven_14 (by decide) (fun c14 => ?_) (fun c14 => ?_)
  · refine jg_iconst cx (v := jp_b false) dX3_isEven_21 (by decide) ?_
    exact jg_bret cx dX3_isEven_22 (⟨(by first | with_reducible rfl | (simp only [jk_isEv, if_pos c14, ↓reduceIte, Bool.false_eq_true, Bool.true_eq_false, reduceCtorEq, eq_self, if_true, if_false, Bool.not_true, Bool.not_false]; first | done | rfl)), rfl⟩)
  · refine jg_iconst cx (v := jp_b true) dX3_isEven_17 (by decide) ?_
    refine jg_goto cx (tgt := 22) dX3_isEven_18 (by decide) ?_
    exact jg_bret cx dX3_isEven_22 (⟨(by first | with_reducible rfl | (simp only [jk_isEv, if_neg c14, ↓reduceIte, Bool.false_eq_true, Bool.true_eq_false, reduceCtorEq, eq_self, if_true, if_false, Bool.not_true, Bool.not_false]; first | done | rfl)), rfl⟩)
theorem jk_save_r (t : Nat) (M : jf_B) {r : Nat} (hr : r ≠ 2) : jk_save t M r = M r := by
  unfold jk_save jk_svT
  exact jf_it_row (fun m : jf_B => m r) (fun i m => jf_w_r m _ _ hr) M 153
theorem jk_unev_r (M : jf_B) {r : Nat} (hr : r ≠ 0) : jk_unev M r = M r := by unfold jk_unev; rw [jf_w_r _ _ _ hr, jf_w_r _ _ _ hr]
def jk_uS (ru : Int32) (_ : Nat) (M : jf_B) : jf_B := (jk_round ru (jk_unev M)).1
def jk_uW (ru : Int32) (M : jf_B) (i : Nat) : jf_B := jf_it (jk_uS ru) (jk_save 2 M) i
theorem jk_uW_s (ru : Int32) (M : jf_B) (i : Nat) : jk_uW ru M (i + 1) = (jk_round ru (jk_unev (jk_uW ru M i))).1 := rfl
theorem jk_uW_0 (ru : Int32) (M : jf_B) : jk_uW ru M 0 = jk_save 2 M := rfl
theorem jk_uW_sp (ru : Int32) (M : jf_B) {j : Nat} (hj : j < 8) : ∀ i, jk_uW ru M i 1 j = M 1 j
  | 0 => by rw [jk_uW_0, jk_save_r _ _ (by decide)]
  | i + 1 => by rw [jk_uW_s, jk_round_sp _ _ hj, jk_unev_r _ (by decide), jk_uW_sp ru M hj i]
theorem jk_uW_ok {ru : Int32} {M : jf_B} (h : jk_ok M) (i : Nat) : jk_ok (jk_unev (jk_uW ru M i)) := jk_ok_of h (fun j hj => by rw [jk_unev_r _ (by decide)]; exact jk_uW_sp ru M hj i)
def jk_uF (d : Int32) (M : jf_B) (r : Nat) : Int32 × jf_B := (if jk_isEv M d then nI r else -6, jk_load 2 (jk_unev M))
def jk_unt (ru d : Int32) (M : jf_B) : Nat → Nat → Int32 × jf_B
  | 0, i => jk_uF d (jk_uW ru M i) i
  | k + 1, i => if jk_isEv (jk_uW ru M i) d then jk_uF d (jk_unev (jk_uW ru M i)) i else jk_unt ru d M k (i + 1)
def jk_until (ru d : Int32) (M : jf_B) : Int32 × jf_B :=
  if jf_within ru (nI 0) (nI 2) then
    (if jf_within d (nI 0) (nI 99) then jk_unt ru d M 200 0 else (-2, M))
  else (-2, M)
set_option maxHeartbeats 1000000 in
set_option maxRecDepth 100000 in
theorem jc_X3_until (E : jp_E) (l : Launch) {h : jp_H} {M : jf_B} {L : jf_L} {ru d : Int32} (hok : jk_ok M) : jc_M E l yX3_until wsX3_until ({ frames := 6, cells := 0, slots := 0, locals := 140 } : Room) [.ref (E.2.1 7 0), .int ru, .int d] (jp_u h 7 M L) (jp_R (some (.int (jk_until ru d M).1)) (jp_u h 7 (jk_until ru d M).2 L)) := by
  refine jc_of (cc := cX3_until) (maxL := 5) (ret := some .int) (own := RX3) (lv := [(0, _), (1, _), (2, _)]) (by decide) rfl rfl (Nat.le_of_ble_eq_true rfl) rfl (fun X cx => ?_)
  refine jg_iload_n cx dX3_until_0 rfl ?_
  refine jg_iconst cx (v := nI 0) dX3_until_1 (by decide) ?_
  refine jg_iconst cx (v := nI 2) dX3_until_2 (by decide) ?_
  refine jg_callSi cx (n := 3) (jc_X3_in E l) gX3_until_X3_in rfl ⟨rfl, rfl⟩ ⟨(Nat.le_of_ble_eq_true rfl), (Nat.le_of_ble_eq_true rfl)⟩ (by decide +kernel) rfl rfl (Nat.le_of_ble_eq_true rfl) dX3_until_3 ?_
  refine jg_ifb_eq cx (tgt := 19) dX3_until_6 (by decide) (fun c6 => ?_) (fun c6 => ?_)
  · refine jg_bipush cx (v := (-2)) dX3_until_19 (by decide) ?_
    exact jg_iret cx dX3_until_21 (⟨(by first | with_reducible rfl | (simp only [jk_until, c6, ↓reduceIte, Bool.false_eq_true, Bool.true_eq_false, reduceCtorEq, eq_self, if_true, if_false, Bool.not_true, Bool.not_false]; first | done | rfl)), (by first | with_reducible rfl | (simp only [jk_until, c6, ↓reduceIte, Bool.false_eq_true, Bool.true_eq_false, reduceCtorEq, eq_self, if_true, if_false, Bool.not_true, Bool.not_false]; first | done | rfl))⟩)
  · refine jg_iload_n cx dX3_until_9 rfl ?_
    refine jg_iconst cx (v := nI 0) dX3_until_10 (by decide) ?_
    refine jg_bipush cx (v := nI 99) dX3_until_11 (by decide) ?_
    refine jg_callSi cx (n := 3) (jc_X3_in E l) gX3_until_X3_in rfl ⟨rfl, rfl⟩ ⟨(Nat.le_of_ble_eq_true rfl), (Nat.le_of_ble_eq_true rfl)⟩ (by decide +kernel) rfl rfl (Nat.le_of_ble_eq_true rfl) dX3_until_13 ?_
    refine jg_ifb_ne cx (tgt := 22) dX3_until_16 (by decide) (fun c16 => ?_) (fun c16 => ?_)
    · have eF : jk_until ru d M = jk_unt ru d M 200 0 := by simp only [jk_until, c6, c16, ↓reduceIte]
      refine jg_aload_n cx dX3_until_22 rfl ?_
      refine jg_iconst cx (v := nI 2) dX3_until_23 (by decide) ?_
      refine jg_callVv cx (n := 1) (jc_X3_save E l (by omega)) gX3_until_X3_save rfl ⟨rfl, rfl⟩ ⟨(Nat.le_of_ble_eq_true rfl), (Nat.le_of_ble_eq_true rfl)⟩ (by decide +kernel) jp_mo_o rfl rfl rfl (Nat.le_of_ble_eq_true rfl) dX3_until_24 ?_
      refine jg_iconst cx (v := nI 0) dX3_until_27 (by decide) ?_
      refine jg_istore_n cx (lv' := [(0, _), (1, _), (2, _), (3, _)]) dX3_until_28 (by decide) rfl ?_
      have lp29 : ∀ (d29 i : Nat), i + d29 = 200 → (jk_unt ru d M d29 i = jk_until ru d M) → X 29 [(0, .ref (E.2.1 7 0)), (1, .int ru), (2, .int d), (3, .int (nI i))] [] (jp_u h 7 (jk_uW ru M i) L) := by
        intro d29
        induction d29 with
        | zero =>
          intro i  hr29 hq
          refine jg_iload_n cx dX3_until_29 rfl ?_
          refine jg_sipush cx (v := nI 200) dX3_until_30 (by decide) ?_
          refine jg_icmpN_ge cx (tgt := 56) dX3_until_33 (by decide) (by omega) (by omega) (fun c33 => ?_) (fun c33 => ?_)
          · refine jg_aload_n cx dX3_until_56 rfl ?_
            refine jg_iload_n cx dX3_until_57 rfl ?_
            refine jg_callVi cx (n := 1) (jc_X3_isEven E l) gX3_until_X3_isEven rfl ⟨rfl, rfl⟩ ⟨(Nat.le_of_ble_eq_true rfl), (Nat.le_of_ble_eq_true rfl)⟩ (by decide +kernel) jp_mo_o rfl rfl rfl (Nat.le_of_ble_eq_true rfl) dX3_until_58 ?_
            refine jg_istore cx (lv' := [(0, _), (1, _), (2, _), (3, _), (4, _)]) dX3_until_61 (by decide) rfl ?_
            refine jg_aload_n cx dX3_until_63 rfl ?_
            refine jg_iconst cx (v := nI 2) dX3_until_64 (by decide) ?_
            refine jg_callVv cx (n := 1) (jc_X3_load E l (by omega)) gX3_until_X3_load rfl ⟨rfl, rfl⟩ ⟨(Nat.le_of_ble_eq_true rfl), (Nat.le_of_ble_eq_true rfl)⟩ (by decide +kernel) jp_mo_o rfl rfl rfl (Nat.le_of_ble_eq_true rfl) dX3_until_65 ?_
            refine jg_iload cx dX3_until_68 rfl ?_
            refine jg_ifb_eq cx (tgt := 77) dX3_until_70 (by decide) (fun c70 => ?_) (fun c70 => ?_)
            · refine jg_bipush cx (v := (-6)) dX3_until_77 (by decide) ?_
              exact jg_iret cx dX3_until_79 (⟨by rw [← hq]; simp only [jk_unt, jk_uF, c6, c16, c70, ↓reduceIte, Bool.false_eq_true], by rw [← hq]; simp only [jk_unt, jk_uF, c6, c16, c70, ↓reduceIte, Bool.false_eq_true]⟩)
            · refine jg_iload_n cx dX3_until_73 rfl ?_
              refine jg_goto cx (tgt := 79) dX3_until_74 (by decide) ?_
              exact jg_iret cx dX3_until_79 (⟨by rw [← hq]; simp only [jk_unt, jk_uF, c6, c16, c70, ↓reduceIte, Bool.false_eq_true], by rw [← hq]; simp only [jk_unt, jk_uF, c6, c16, c70, ↓reduceIte, Bool.false_eq_true]⟩)
          · exact absurd hr29 (by omega)
        | succ d29 ih29 =>
          intro i  hr29 hq
          refine jg_iload_n cx dX3_until_29 rfl ?_
          refine jg_sipush cx (v := nI 200) dX3_until_30 (by decide) ?_
          refine jg_icmpN_ge cx (tgt := 56) dX3_until_33 (by decide) (by omega) (by omega) (fun c33 => ?_) (fun c33 => ?_)
          · exact absurd hr29 (by omega)
          · refine jg_aload_n cx dX3_until_36 rfl ?_
            refine jg_iload_n cx dX3_until_37 rfl ?_
            refine jg_callVi cx (n := 1) (jc_X3_isEven E l) gX3_until_X3_isEven rfl ⟨rfl, rfl⟩ ⟨(Nat.le_of_ble_eq_true rfl), (Nat.le_of_ble_eq_true rfl)⟩ (by decide +kernel) jp_mo_o rfl rfl rfl (Nat.le_of_ble_eq_true rfl) dX3_until_38 ?_
            refine jg_ifb_ne cx (tgt := 56) dX3_until_41 (by decide) (fun c41 => ?_) (fun c41 => ?_)
            · refine jg_aload_n cx dX3_until_56 rfl ?_
              refine jg_iload_n cx dX3_until_57 rfl ?_
              refine jg_callVi cx (n := 1) (jc_X3_isEven E l) gX3_until_X3_isEven rfl ⟨rfl, rfl⟩ ⟨(Nat.le_of_ble_eq_true rfl), (Nat.le_of_ble_eq_true rfl)⟩ (by decide +kernel) jp_mo_o rfl rfl rfl (Nat.le_of_ble_eq_true rfl) dX3_until_58 ?_
              refine jg_istore cx (lv' := [(0, _), (1, _), (2, _), (3, _), (4, _)]) dX3_until_61 (by decide) rfl ?_
              refine jg_aload_n cx dX3_until_63 rfl ?_
              refine jg_iconst cx (v := nI 2) dX3_until_64 (by decide) ?_
              refine jg_callVv cx (n := 1) (jc_X3_load E l (by omega)) gX3_until_X3_load rfl ⟨rfl, rfl⟩ ⟨(Nat.le_of_ble_eq_true rfl), (Nat.le_of_ble_eq_true rfl)⟩ (by decide +kernel) jp_mo_o rfl rfl rfl (Nat.le_of_ble_eq_true rfl) dX3_until_65 ?_
              refine jg_iload cx dX3_until_68 rfl ?_
              refine jg_ifb_eq cx (tgt := 77) dX3_until_70 (by decide) (fun c70 => ?_) (fun c70 => ?_)
              · refine jg_bipush cx (v := (-6)) dX3_until_77 (by decide) ?_
                exact jg_iret cx dX3_until_79 (⟨by rw [← hq]; simp only [jk_unt, jk_uF, c6, c16, c41, c70, ↓reduceIte, Bool.false_eq_true], by rw [← hq]; simp only [jk_unt, jk_uF, c6, c16, c41, c70, ↓reduceIte, Bool.false_eq_true]⟩)
              · refine jg_iload_n cx dX3_until_73 rfl ?_
                refine jg_goto cx (tgt := 79) dX3_until_74 (by decide) ?_
                exact jg_iret cx dX3_until_79 (⟨by rw [← hq]; simp only [jk_unt, jk_uF, c6, c16, c41, c70, ↓reduceIte, Bool.false_eq_true], by rw [← hq]; simp only [jk_unt, jk_uF, c6, c16, c41, c70, ↓reduceIte, Bool.false_eq_true]⟩)
            · refine jg_aload_n cx dX3_until_44 rfl ?_
              refine jg_iload_n cx dX3_until_45 rfl ?_
              refine jg_callVi cx (n := 1) (jc_X3_round E l (jk_uW_ok hok i)) gX3_until_X3_round rfl ⟨rfl, rfl⟩ ⟨(Nat.le_of_ble_eq_true rfl), (Nat.le_of_ble_eq_true rfl)⟩ (by decide +kernel) jp_mo_o rfl rfl rfl (Nat.le_of_ble_eq_true rfl) dX3_until_46 ?_
              refine jg_pop cx dX3_until_49 rfl ?_
              refine jg_iincN cx (d := 1) (lv' := [(0, _), (1, _), (2, _), (3, _)]) dX3_until_50 rfl (by decide) (by decide) rfl ?_
              refine jg_goto cx (tgt := 29) dX3_until_53 (by decide) ?_
              exact jg_to (ih29 (i + 1)  (by omega) (by rw [← hq]; simp only [jk_unt, c41, ↓reduceIte, Bool.false_eq_true])) rfl rfl rfl
      exact jg_to (lp29 200 0  (by omega) eF.symm) rfl rfl (by first | with_reducible rfl | (simp only [jk_uW_0, c6, c16, ↓reduceIte, Bool.false_eq_true, Bool.true_eq_false, reduceCtorEq, eq_self, if_true, if_false, Bool.not_true, Bool.not_false]; first | done | rfl))
    · refine jg_bipush cx (v := (-2)) dX3_until_19 (by decide) ?_
      exact jg_iret cx dX3_until_21 (⟨(by first | with_reducible rfl | (simp only [jk_until, c6, c16, ↓reduceIte, Bool.false_eq_true, Bool.true_eq_false, reduceCtorEq, eq_self, if_true, if_false, Bool.not_true, Bool.not_false]; first | done | rfl)), (by first | with_reducible rfl | (simp only [jk_until, c6, c16, ↓reduceIte, Bool.false_eq_true, Bool.true_eq_false, reduceCtorEq, eq_self, if_true, if_false, Bool.not_true, Bool.not_false]; first | done | rfl))⟩)
def jk_t1 (t n : Nat) (M : jf_B) : jf_B := jf_w (jf_w M 8 (81 * t + n) (M 1 (8 + n))) 8 (81 * t + 8 + n) (jf_rem (jf_w M 8 (81 * t + n) (M 1 (8 + n)) 1 (16 + n)) (nI (jk_deg (jf_w M 8 (81 * t + n) (M 1 (8 + n))) n 8 + 1)))
def jk_t2 (t i : Nat) (M : jf_B) : jf_B := jf_w M 8 (81 * t + 16 + i) (if M 1 (24 + i) < 0 then nI 0 else M 1 (88 + i))
def jk_tA (t : Nat) (M : jf_B) (i : Nat) : jf_B := jf_it (jk_t1 t) M i
def jk_tB (t : Nat) (M : jf_B) (i : Nat) : jf_B := jf_it (jk_t2 t) (jk_tA t M 8) i
theorem jk_tB_0 (t : Nat) (M : jf_B) : jk_tB t M 0 = jk_tA t M 8 := rfl
theorem jk_tB_s (t : Nat) (M : jf_B) (i : Nat) : jk_tB t M (i + 1) = jk_t2 t i (jk_tB t M i) := rfl
def jk_lt (t : Nat) (M : jf_B) : jf_B := jf_w (jk_tB t M 64) 8 (81 * t + 80) (jf_rem (jk_tB t M 64 1 152) (jk_col (jk_tB t M 64)))
set_option maxHeartbeats 1000000 in
set_option maxRecDepth 100000 in
theorem jc_X3_layTime (E : jp_E) (l : Launch) {h : jp_H} {M : jf_B} {L : jf_L} {t : Nat} (ht : t ≤ 300) : jc_M E l yX3_layTime wsX3_layTime ({ frames := 3, cells := 0, slots := 0, locals := 66 } : Room) [.ref (E.2.1 7 0), .int (nI t)] (jp_u h 7 M L) (jp_R none (jp_u h 7 (jk_lt t M) L)) := by
  refine jc_of (cc := cX3_layTime) (maxL := 3) (ret := none) (own := RX3) (lv := [(0, _), (1, _)]) (by decide) rfl rfl (Nat.le_of_ble_eq_true rfl) rfl (fun X cx => ?_)
  have inX3 : ∀ w ∈ u_ws RX3 TX3 11, w ∈ wsX3_layTime := by decide +kernel
  have f7 : Cond.fieldLink RX3 7 "JobSpreadModel" "state" "[I" ∈ wsX3_layTime := by decide +kernel
  have f33 : Cond.fieldLink RX3 33 "JobSpreadModel" "times" "[I" ∈ wsX3_layTime := by decide +kernel
  refine jg_iconst cx (v := nI 0) dX3_layTime_0 (by decide) ?_
  refine jg_istore_n cx (lv' := [(0, _), (1, _), (2, _)]) dX3_layTime_1 (by decide) rfl ?_
  have lp2 : ∀ (d2 i : Nat), i + d2 = 8 → X 2 [(0, .ref (E.2.1 7 0)), (1, .int (nI t)), (2, .int (nI i))] [] (jp_u h 7 (jk_tA t M i) L) := by
    intro d2
    induction d2 with
    | zero =>
      intro i  hr2 
      obtain rfl : i = 8 := by omega
      refine jg_iload_n cx dX3_layTime_2 rfl ?_
      refine jg_bipush cx (v := nI 8) dX3_layTime_3 (by decide) ?_
      refine jg_icmpN_ge cx (tgt := 65) dX3_layTime_5 (by decide) (by omega) (by omega) (fun c5 => ?_) (fun c5 => ?_)
      · refine jg_iconst cx (v := nI 0) dX3_layTime_65 (by decide) ?_
        refine jg_istore_n cx (lv' := [(0, _), (1, _), (2, _)]) dX3_layTime_66 (by decide) rfl ?_
        have lp67 : ∀ (d67 i : Nat), i + d67 = 64 → X 67 [(0, .ref (E.2.1 7 0)), (1, .int (nI t)), (2, .int (nI i))] [] (jp_u h 7 (jk_tB t M i) L) := by
          intro d67
          induction d67 with
          | zero =>
            intro i  hr67 
            obtain rfl : i = 64 := by omega
            refine jg_iload_n cx dX3_layTime_67 rfl ?_
            refine jg_bipush cx (v := nI 64) dX3_layTime_68 (by decide) ?_
            refine jg_icmpN_ge cx (tgt := 118) dX3_layTime_70 (by decide) (by omega) (by omega) (fun c70 => ?_) (fun c70 => ?_)
            · refine jg_aload_n cx dX3_layTime_118 rfl ?_
              refine jg_get cx jp_mo_o rfl inX3 10 (by decide) f33 rfl dX3_layTime_119 ?_
              refine jg_bipush cx (v := nI 81) dX3_layTime_122 (by decide) ?_
              refine jg_iload_n cx dX3_layTime_124 rfl ?_
              refine jg_imulN cx dX3_layTime_125 ?_
              refine jg_bipush cx (v := nI 80) dX3_layTime_126 (by decide) ?_
              refine jg_iaddN cx dX3_layTime_128 ?_
              refine jg_aload_n cx dX3_layTime_129 rfl ?_
              refine jg_get cx jp_mo_o rfl inX3 0 (by decide) f7 rfl dX3_layTime_130 ?_
              refine jg_sipush cx (v := nI 152) dX3_layTime_133 (by decide) ?_
              refine jg_ialdU cx dX3_layTime_136 (jp_mo_1) rfl (by omega) ?_
              refine jg_aload_n cx dX3_layTime_137 rfl ?_
              refine jg_callVi cx (n := 0) (jc_X3_colours E l) gX3_layTime_X3_colours rfl ⟨rfl, rfl⟩ ⟨(Nat.le_of_ble_eq_true rfl), (Nat.le_of_ble_eq_true rfl)⟩ (by decide +kernel) jp_mo_o rfl rfl rfl (Nat.le_of_ble_eq_true rfl) dX3_layTime_138 ?_
              refine jg_irem cx dX3_layTime_141 (jk_col_ne _) ?_
              refine jg_iastU cx dX3_layTime_142 (jp_mo_8) rfl (by omega) ?_
              exact jg_vret cx dX3_layTime_143 (⟨rfl, (by first | with_reducible rfl | (simp only [jk_lt, ↓reduceIte, Bool.false_eq_true, Bool.true_eq_false, reduceCtorEq, eq_self, if_true, if_false, Bool.not_true, Bool.not_false]; first | done | rfl))⟩)
            · exact absurd hr67 (by omega)
          | succ d67 ih67 =>
            intro i  hr67 
            refine jg_iload_n cx dX3_layTime_67 rfl ?_
            refine jg_bipush cx (v := nI 64) dX3_layTime_68 (by decide) ?_
            refine jg_icmpN_ge cx (tgt := 118) dX3_layTime_70 (by decide) (by omega) (by omega) (fun c70 => ?_) (fun c70 => ?_)
            · exact absurd hr67 (by omega)
            · refine jg_aload_n cx dX3_layTime_73 rfl ?_
              refine jg_get cx jp_mo_o rfl inX3 10 (by decide) f33 rfl dX3_layTime_74 ?_
              refine jg_bipush cx (v := nI 81) dX3_layTime_77 (by decide) ?_
              refine jg_iload_n cx dX3_layTime_79 rfl ?_
              refine jg_imulN cx dX3_layTime_80 ?_
              refine jg_bipush cx (v := nI 16) dX3_layTime_81 (by decide) ?_
              refine jg_iaddN cx dX3_layTime_83 ?_
              refine jg_iload_n cx dX3_layTime_84 rfl ?_
              refine jg_iaddN cx dX3_layTime_85 ?_
              refine jg_aload_n cx dX3_layTime_86 rfl ?_
              refine jg_get cx jp_mo_o rfl inX3 0 (by decide) f7 rfl dX3_layTime_87 ?_
              refine jg_bipush cx (v := nI 24) dX3_layTime_90 (by decide) ?_
              refine jg_iload_n cx dX3_layTime_92 rfl ?_
              refine jg_iaddN cx dX3_layTime_93 ?_
              refine jg_ialdU cx dX3_layTime_94 (jp_mo_1) rfl (by omega) ?_
              refine jg_if_lt cx (tgt := 110) dX3_layTime_95 (by decide) (fun c95 => ?_) (fun c95 => ?_)
              · refine jg_iconst cx (v := nI 0) dX3_layTime_110 (by decide) ?_
                refine jg_iastU cx dX3_layTime_111 (jp_mo_8) rfl (by omega) ?_
                refine jg_iincN cx (d := 1) (lv' := [(0, _), (1, _), (2, _)]) dX3_layTime_112 rfl (by decide) (by decide) rfl ?_
                refine jg_goto cx (tgt := 67) dX3_layTime_115 (by decide) ?_
                exact jg_to (ih67 (i + 1)  (by omega) ) rfl rfl (by first | with_reducible rfl | (simp only [jk_tB_s, jk_t2, if_pos c95, ↓reduceIte, Bool.false_eq_true, Bool.true_eq_false, reduceCtorEq, eq_self, if_true, if_false, Bool.not_true, Bool.not_false]; first | done | rfl))
              · refine jg_aload_n cx dX3_layTime_98 rfl ?_
                refine jg_get cx jp_mo_o rfl inX3 0 (by decide) f7 rfl dX3_layTime_99 ?_
                refine jg_bipush cx (v := nI 88) dX3_layTime_102 (by decide) ?_
                refine jg_iload_n cx dX3_layTime_104 rfl ?_
                refine jg_iaddN cx dX3_layTime_105 ?_
                refine jg_ialdU cx dX3_layTime_106 (jp_mo_1) rfl (by omega) ?_
                refine jg_goto cx (tgt := 111) dX3_layTime_107 (by decide) ?_
                refine jg_iastU cx dX3_layTime_111 (jp_mo_8) rfl (by omega) ?_
                refine jg_iincN cx (d := 1) (lv' := [(0, _), (1, _), (2, _)]) dX3_layTime_112 rfl (by decide) (by decide) rfl ?_
                refine jg_goto cx (tgt := 67) dX3_layTime_115 (by decide) ?_
                exact jg_to (ih67 (i + 1)  (by omega) ) rfl rfl (by first | with_reducible rfl | (simp only [jk_tB_s, jk_t2, if_neg c95, ↓reduceIte, Bool.false_eq_true, Bool.true_eq_false, reduceCtorEq, eq_self, if_true, if_false, Bool.not_true, Bool.not_false]; first | done | rfl))
        exact jg_to (lp67 64 0  (by omega) ) rfl rfl (by first | with_reducible rfl | (simp only [jk_tB_0, ↓reduceIte, Bool.false_eq_true, Bool.true_eq_false, reduceCtorEq, eq_self, if_true, if_false, Bool.not_true, Bool.not_false]; first | done | rfl))
      · exact absurd hr2 (by omega)
    | succ d2 ih2 =>
      intro i  hr2 
      refine jg_iload_n cx dX3_layTime_2 rfl ?_
      refine jg_bipush cx (v := nI 8) dX3_layTime_3 (by decide) ?_
      refine jg_icmpN_ge cx (tgt := 65) dX3_layTime_5 (by decide) (by omega) (by omega) (fun c5 => ?_) (fun c5 => ?_)
      · exact absurd hr2 (by omega)
      · refine jg_aload_n cx dX3_layTime_8 rfl ?_
        refine jg_get cx jp_mo_o rfl inX3 10 (by decide) f33 rfl dX3_layTime_9 ?_
        refine jg_bipush cx (v := nI 81) dX3_layTime_12 (by decide) ?_
        refine jg_iload_n cx dX3_layTime_14 rfl ?_
        refine jg_imulN cx dX3_layTime_15 ?_
        refine jg_iload_n cx dX3_layTime_16 rfl ?_
        refine jg_iaddN cx dX3_layTime_17 ?_
        refine jg_aload_n cx dX3_layTime_18 rfl ?_
        refine jg_get cx jp_mo_o rfl inX3 0 (by decide) f7 rfl dX3_layTime_19 ?_
        refine jg_bipush cx (v := nI 8) dX3_layTime_22 (by decide) ?_
        refine jg_iload_n cx dX3_layTime_24 rfl ?_
        refine jg_iaddN cx dX3_layTime_25 ?_
        refine jg_ialdU cx dX3_layTime_26 (jp_mo_1) rfl (by omega) ?_
        refine jg_iastU cx dX3_layTime_27 (jp_mo_8) rfl (by omega) ?_
        refine jg_aload_n cx dX3_layTime_28 rfl ?_
        refine jg_get cx jp_mo_o rfl inX3 10 (by decide) f33 rfl dX3_layTime_29 ?_
        refine jg_bipush cx (v := nI 81) dX3_layTime_32 (by decide) ?_
        refine jg_iload_n cx dX3_layTime_34 rfl ?_
        refine jg_imulN cx dX3_layTime_35 ?_
        refine jg_bipush cx (v := nI 8) dX3_layTime_36 (by decide) ?_
        refine jg_iaddN cx dX3_layTime_38 ?_
        refine jg_iload_n cx dX3_layTime_39 rfl ?_
        refine jg_iaddN cx dX3_layTime_40 ?_
        refine jg_aload_n cx dX3_layTime_41 rfl ?_
        refine jg_get cx jp_mo_o rfl inX3 0 (by decide) f7 rfl dX3_layTime_42 ?_
        refine jg_bipush cx (v := nI 16) dX3_layTime_45 (by decide) ?_
        refine jg_iload_n cx dX3_layTime_47 rfl ?_
        refine jg_iaddN cx dX3_layTime_48 ?_
        refine jg_ialdU cx dX3_layTime_49 (jp_mo_1) rfl (by omega) ?_
        refine jg_aload_n cx dX3_layTime_50 rfl ?_
        refine jg_iload_n cx dX3_layTime_51 rfl ?_
        refine jg_callVi cx (n := 1) (jc_X3_edgesOf E l (by omega)) gX3_layTime_X3_edgesOf rfl ⟨rfl, rfl⟩ ⟨(Nat.le_of_ble_eq_true rfl), (Nat.le_of_ble_eq_true rfl)⟩ (by decide +kernel) jp_mo_o rfl rfl rfl (Nat.le_of_ble_eq_true rfl) dX3_layTime_52 ?_
        refine jg_iconst cx (v := nI 1) dX3_layTime_55 (by decide) ?_
        refine jg_iaddN cx dX3_layTime_56 ?_
        refine jg_irem cx dX3_layTime_57 (jk_sl_ne _ i) ?_
        refine jg_iastU cx dX3_layTime_58 (jp_mo_8) rfl (by omega) ?_
        refine jg_iincN cx (d := 1) (lv' := [(0, _), (1, _), (2, _)]) dX3_layTime_59 rfl (by decide) (by decide) rfl ?_
        refine jg_goto cx (tgt := 2) dX3_layTime_62 (by decide) ?_
        exact jg_to (ih2 (i + 1)  (by omega) ) rfl rfl rfl
  exact jg_to (lp2 8 0  (by omega) ) rfl rfl rfl
def jk_al (M : jf_B) (t u : Nat) : Nat → Bool
  | 0 => true
  | i + 1 => if M 8 (81 * t + i) = M 8 (81 * u + i) then jk_al M t u i else false
theorem jk_al_f {M : jf_B} {t u i : Nat} (hf : jk_al M t u (i + 1) = false) : ∀ d, jk_al M t u (i + 1 + d) = false
  | 0 => hf
  | d + 1 => by
    show jk_al M t u ((i + 1 + d) + 1) = false
    unfold jk_al
    rw [jk_al_f hf d]
    simp
theorem jk_al_m {M : jf_B} {t u i : Nat} (hi : i < 81) (hf : jk_al M t u (i + 1) = false) : jk_al M t u 81 = false := by
  have := jk_al_f hf (81 - (i + 1))
  rwa [show i + 1 + (81 - (i + 1)) = 81 by omega] at this
set_option maxHeartbeats 1000000 in
set_option maxRecDepth 100000 in
theorem jc_X3_isAlike (E : jp_E) (l : Launch) {h : jp_H} {M : jf_B} {L : jf_L} {t u : Nat} (ht : t ≤ 300) (hu : u ≤ 300) : jc_M E l yX3_isAlike wsX3_isAlike ({ frames := 0, cells := 0, slots := 0, locals := 0 } : Room) [.ref (E.2.1 7 0), .int (nI t), .int (nI u)] (jp_u h 7 M L) (jp_R (some (.int (jp_b (jk_al M t u 81)))) (jp_u h 7 (M) L)) := by
  refine jc_of (cc := cX3_isAlike) (maxL := 4) (ret := some .boolean) (own := RX3) (lv := [(0, _), (1, _), (2, _)]) (by decide) rfl rfl (Nat.le_of_ble_eq_true rfl) rfl (fun X cx => ?_)
  have inX3 : ∀ w ∈ u_ws RX3 TX3 11, w ∈ wsX3_isAlike := by decide +kernel
  have f33 : Cond.fieldLink RX3 33 "JobSpreadModel" "times" "[I" ∈ wsX3_isAlike := by decide +kernel
  refine jg_iconst cx (v := nI 0) dX3_isAlike_0 (by decide) ?_
  refine jg_istore_n cx (lv' := [(0, _), (1, _), (2, _), (3, _)]) dX3_isAlike_1 (by decide) rfl ?_
  have lp2 : ∀ (d2 i : Nat), i + d2 = 81 → (jk_al M t u i = true) → X 2 [(0, .ref (E.2.1 7 0)), (1, .int (nI t)), (2, .int (nI u)), (3, .int (nI i))] [] (jp_u h 7 M L) := by
    intro d2
    induction d2 with
    | zero =>
      intro i  hr2 hj
      obtain rfl : i = 81 := by omega
      refine jg_iload_n cx dX3_isAlike_2 rfl ?_
      refine jg_bipush cx (v := nI 81) dX3_isAlike_3 (by decide) ?_
      refine jg_icmpN_ge cx (tgt := 41) dX3_isAlike_5 (by decide) (by omega) (by omega) (fun c5 => ?_) (fun c5 => ?_)
      · refine jg_iconst cx (v := jp_b true) dX3_isAlike_41 (by decide) ?_
        exact jg_bret cx dX3_isAlike_42 (⟨by rw [hj], rfl⟩)
      · exact absurd hr2 (by omega)
    | succ d2 ih2 =>
      intro i  hr2 hj
      refine jg_iload_n cx dX3_isAlike_2 rfl ?_
      refine jg_bipush cx (v := nI 81) dX3_isAlike_3 (by decide) ?_
      refine jg_icmpN_ge cx (tgt := 41) dX3_isAlike_5 (by decide) (by omega) (by omega) (fun c5 => ?_) (fun c5 => ?_)
      · exact absurd hr2 (by omega)
      · refine jg_aload_n cx dX3_isAlike_8 rfl ?_
        refine jg_get cx jp_mo_o rfl inX3 10 (by decide) f33 rfl dX3_isAlike_9 ?_
        refine jg_bipush cx (v := nI 81) dX3_isAlike_12 (by decide) ?_
        refine jg_iload_n cx dX3_isAlike_14 rfl ?_
        refine jg_imulN cx dX3_isAlike_15 ?_
        refine jg_iload_n cx dX3_isAlike_16 rfl ?_
        refine jg_iaddN cx dX3_isAlike_17 ?_
        refine jg_ialdU cx dX3_isAlike_18 (jp_mo_8) rfl (by omega) ?_
        refine jg_aload_n cx dX3_isAlike_19 rfl ?_
        refine jg_get cx jp_mo_o rfl inX3 10 (by decide) f33 rfl dX3_isAlike_20 ?_
        refine jg_bipush cx (v := nI 81) dX3_isAlike_23 (by decide) ?_
        refine jg_iload_n cx dX3_isAlike_25 rfl ?_
        refine jg_imulN cx dX3_isAlike_26 ?_
        refine jg_iload_n cx dX3_isAlike_27 rfl ?_
        refine jg_iaddN cx dX3_isAlike_28 ?_
        refine jg_ialdU cx dX3_isAlike_29 (jp_mo_8) rfl (by omega) ?_
        refine jg_icmp_eq cx (tgt := 35) dX3_isAlike_30 (by decide) (fun c30 => ?_) (fun c30 => ?_)
        · refine jg_iincN cx (d := 1) (lv' := [(0, _), (1, _), (2, _), (3, _)]) dX3_isAlike_35 rfl (by decide) (by decide) rfl ?_
          refine jg_goto cx (tgt := 2) dX3_isAlike_38 (by decide) ?_
          exact jg_to (ih2 (i + 1)  (by omega) (by first | with_reducible rfl | (simp only [jk_al, hj, if_pos c30, ↓reduceIte, Bool.false_eq_true, Bool.true_eq_false, reduceCtorEq, eq_self, if_true, if_false, Bool.not_true, Bool.not_false]; first | done | rfl))) rfl rfl rfl
        · refine jg_iconst cx (v := jp_b false) dX3_isAlike_33 (by decide) ?_
          exact jg_bret cx dX3_isAlike_34 (⟨by rw [jk_al_m (i := i) (by omega) (by first | with_reducible rfl | (simp only [jk_al, if_neg c30, ↓reduceIte, Bool.false_eq_true, Bool.true_eq_false, reduceCtorEq, eq_self, if_true, if_false, Bool.not_true, Bool.not_false]; first | done | rfl))], rfl⟩)
  exact jg_to (lp2 81 0  (by omega) rfl) rfl rfl rfl
theorem jk_t1_r (t n : Nat) (M : jf_B) {r : Nat} (hr : r ≠ 8) : jk_t1 t n M r = M r := by unfold jk_t1; rw [jf_w_r _ _ _ hr, jf_w_r _ _ _ hr]
theorem jk_t2_r (t n : Nat) (M : jf_B) {r : Nat} (hr : r ≠ 8) : jk_t2 t n M r = M r := by unfold jk_t2; rw [jf_w_r _ _ _ hr]
theorem jk_tA_r (t : Nat) (M : jf_B) (i : Nat) {r : Nat} (hr : r ≠ 8) : jk_tA t M i r = M r := jf_it_row (fun m : jf_B => m r) (fun i m => jk_t1_r t i m hr) M i
theorem jk_tB_r (t : Nat) (M : jf_B) (i : Nat) {r : Nat} (hr : r ≠ 8) : jk_tB t M i r = M r := (jf_it_row (fun m : jf_B => m r) (fun i m => jk_t2_r t i m hr) (jk_tA t M 8) i).trans (jk_tA_r t M 8 hr)
theorem jk_lt_r (t : Nat) (M : jf_B) {r : Nat} (hr : r ≠ 8) : jk_lt t M r = M r := by unfold jk_lt; rw [jf_w_r _ _ _ hr, jk_tB_r t M 64 hr]
def jk_rS (ru : Int32) (i : Nat) (M : jf_B) : jf_B := jk_lt (i + 1) (jk_round ru M).1
def jk_rW (ru : Int32) (M : jf_B) (i : Nat) : jf_B := jf_it (jk_rS ru) (jk_lt 0 (jk_save 2 M)) i
theorem jk_rW_s (ru : Int32) (M : jf_B) (i : Nat) : jk_rW ru M (i + 1) = jk_lt (i + 1) (jk_round ru (jk_rW ru M i)).1 := rfl
theorem jk_rW_0 (ru : Int32) (M : jf_B) : jk_rW ru M 0 = jk_lt 0 (jk_save 2 M) := rfl
theorem jk_rW_sp (ru : Int32) (M : jf_B) {j : Nat} (hj : j < 8) : ∀ i, jk_rW ru M i 1 j = M 1 j
  | 0 => by rw [jk_rW_0, jk_lt_r _ _ (by decide), jk_save_r _ _ (by decide)]
  | i + 1 => by rw [jk_rW_s, jk_lt_r _ _ (by decide), jk_round_sp _ _ hj, jk_rW_sp ru M hj i]
theorem jk_rW_ok {ru : Int32} {M : jf_B} (h : jk_ok M) (i : Nat) : jk_ok (jk_rW ru M i) := jk_ok_of h (fun j hj => jk_rW_sp ru M hj i)
def jk_rE (ru : Int32) (M : jf_B) : jf_B := jk_load 2 (jk_rW ru M 300)
def jk_fa (M : jf_B) (p : Nat) : Nat → Nat → Option Nat
  | 0, _ => none
  | d + 1, a => if jk_al M a (a + p) 81 then some a else jk_fa M p d (a + 1)
def jk_fp (M : jf_B) : Nat → Nat → Option (Nat × Nat)
  | 0, _ => none
  | d + 1, p => match jk_fa M p (301 - p) 0 with
    | some a => some (a, p)
    | none => jk_fp M d (p + 1)
def jk_rV (w : Int32) (o : Option (Nat × Nat)) : Int32 := match o with
  | some q => if w = 0 then nI q.1 else nI q.2
  | none => -6
def jk_ring (ru w : Int32) (M : jf_B) : Int32 × jf_B :=
  if jf_within ru (nI 0) (nI 2) then
    (if jf_within w (nI 0) (nI 1) then (jk_rV w (jk_fp (jk_rE ru M) 300 1), jk_rE ru M) else (-2, M))
  else (-2, M)
theorem jk_fp_some {M : jf_B} {d p a : Nat} (h : jk_fa M p (301 - p) 0 = some a) : jk_fp M (d + 1) p = some (a, p) := by
  show (match jk_fa M p (301 - p) 0 with | some a => some (a, p) | none => jk_fp M d (p + 1)) = _
  rw [h]
theorem jk_fp_none {M : jf_B} {d p : Nat} (h : jk_fa M p (301 - p) 0 = none) : jk_fp M (d + 1) p = jk_fp M d (p + 1) := by
  show (match jk_fa M p (301 - p) 0 with | some a => some (a, p) | none => jk_fp M d (p + 1)) = _
  rw [h]
set_option maxHeartbeats 1000000 in
set_option maxRecDepth 100000 in
theorem jc_X3_ring (E : jp_E) (l : Launch) {h : jp_H} {M : jf_B} {L : jf_L} {ru w : Int32} (hok : jk_ok M) : jc_M E l yX3_ring wsX3_ring ({ frames := 6, cells := 0, slots := 0, locals := 140 } : Room) [.ref (E.2.1 7 0), .int ru, .int w] (jp_u h 7 M L) (jp_R (some (.int (jk_ring ru w M).1)) (jp_u h 7 (jk_ring ru w M).2 L)) := by
  refine jc_of (cc := cX3_ring) (maxL := 5) (ret := some .int) (own := RX3) (lv := [(0, _), (1, _), (2, _)]) (by decide) rfl rfl (Nat.le_of_ble_eq_true rfl) rfl (fun X cx => ?_)
  refine jg_iload_n cx dX3_ring_0 rfl ?_
  refine jg_iconst cx (v := nI 0) dX3_ring_1 (by decide) ?_
  refine jg_iconst cx (v := nI 2) dX3_ring_2 (by decide) ?_
  refine jg_callSi cx (n := 3) (jc_X3_in E l) gX3_ring_X3_in rfl ⟨rfl, rfl⟩ ⟨(Nat.le_of_ble_eq_true rfl), (Nat.le_of_ble_eq_true rfl)⟩ (by decide +kernel) rfl rfl (Nat.le_of_ble_eq_true rfl) dX3_ring_3 ?_
  refine jg_ifb_eq cx (tgt := 18) dX3_ring_6 (by decide) (fun c6 => ?_) (fun c6 => ?_)
  · refine jg_bipush cx (v := (-2)) dX3_ring_18 (by decide) ?_
    exact jg_iret cx dX3_ring_20 (⟨(by first | with_reducible rfl | (simp only [jk_ring, c6, ↓reduceIte, Bool.false_eq_true, Bool.true_eq_false, reduceCtorEq, eq_self, if_true, if_false, Bool.not_true, Bool.not_false]; first | done | rfl)), (by first | with_reducible rfl | (simp only [jk_ring, c6, ↓reduceIte, Bool.false_eq_true, Bool.true_eq_false, reduceCtorEq, eq_self, if_true, if_false, Bool.not_true, Bool.not_false]; first | done | rfl))⟩)
  · refine jg_iload_n cx dX3_ring_9 rfl ?_
    refine jg_iconst cx (v := nI 0) dX3_ring_10 (by decide) ?_
    refine jg_iconst cx (v := nI 1) dX3_ring_11 (by decide) ?_
    refine jg_callSi cx (n := 3) (jc_X3_in E l) gX3_ring_X3_in rfl ⟨rfl, rfl⟩ ⟨(Nat.le_of_ble_eq_true rfl), (Nat.le_of_ble_eq_true rfl)⟩ (by decide +kernel) rfl rfl (Nat.le_of_ble_eq_true rfl) dX3_ring_12 ?_
    refine jg_ifb_ne cx (tgt := 21) dX3_ring_15 (by decide) (fun c15 => ?_) (fun c15 => ?_)
    · have eF : jk_ring ru w M = (jk_rV w (jk_fp (jk_rE ru M) 300 1), jk_rE ru M) := by simp only [jk_ring, c6, c15, ↓reduceIte]
      refine jg_aload_n cx dX3_ring_21 rfl ?_
      refine jg_iconst cx (v := nI 2) dX3_ring_22 (by decide) ?_
      refine jg_callVv cx (n := 1) (jc_X3_save E l (by omega)) gX3_ring_X3_save rfl ⟨rfl, rfl⟩ ⟨(Nat.le_of_ble_eq_true rfl), (Nat.le_of_ble_eq_true rfl)⟩ (by decide +kernel) jp_mo_o rfl rfl rfl (Nat.le_of_ble_eq_true rfl) dX3_ring_23 ?_
      refine jg_aload_n cx dX3_ring_26 rfl ?_
      refine jg_iconst cx (v := nI 0) dX3_ring_27 (by decide) ?_
      refine jg_callVv cx (n := 1) (jc_X3_layTime E l (by omega)) gX3_ring_X3_layTime rfl ⟨rfl, rfl⟩ ⟨(Nat.le_of_ble_eq_true rfl), (Nat.le_of_ble_eq_true rfl)⟩ (by decide +kernel) jp_mo_o rfl rfl rfl (Nat.le_of_ble_eq_true rfl) dX3_ring_28 ?_
      refine jg_iconst cx (v := nI 1) dX3_ring_31 (by decide) ?_
      refine jg_istore_n cx (lv' := [(0, _), (1, _), (2, _), (3, _)]) dX3_ring_32 (by decide) rfl ?_
      have lp33 : ∀ (d33 i : Nat), i + d33 = 300 → X 33 [(0, .ref (E.2.1 7 0)), (1, .int ru), (2, .int w), (3, .int (nI (i + 1)))] [] (jp_u h 7 (jk_rW ru M i) L) := by
        intro d33
        induction d33 with
        | zero =>
          intro i  hr33 
          obtain rfl : i = 300 := by omega
          refine jg_iload_n cx dX3_ring_33 rfl ?_
          refine jg_sipush cx (v := nI 300) dX3_ring_34 (by decide) ?_
          refine jg_icmpN_gt cx (tgt := 57) dX3_ring_37 (by decide) (by omega) (by omega) (fun c37 => ?_) (fun c37 => ?_)
          · refine jg_aload_n cx dX3_ring_57 rfl ?_
            refine jg_iconst cx (v := nI 2) dX3_ring_58 (by decide) ?_
            refine jg_callVv cx (n := 1) (jc_X3_load E l (by omega)) gX3_ring_X3_load rfl ⟨rfl, rfl⟩ ⟨(Nat.le_of_ble_eq_true rfl), (Nat.le_of_ble_eq_true rfl)⟩ (by decide +kernel) jp_mo_o rfl rfl rfl (Nat.le_of_ble_eq_true rfl) dX3_ring_59 ?_
            refine jg_iconst cx (v := nI 1) dX3_ring_62 (by decide) ?_
            refine jg_istore_n cx (lv' := [(0, _), (1, _), (2, _), (3, _)]) dX3_ring_63 (by decide) rfl ?_
            have lp64 : ∀ (d64 j : Nat), j + d64 = 300 → (jk_fp (jk_rE ru M) d64 (j + 1) = jk_fp (jk_rE ru M) 300 1) → X 64 [(0, .ref (E.2.1 7 0)), (1, .int ru), (2, .int w), (3, .int (nI (j + 1)))] [] (jp_u h 7 (jk_rE ru M) L) := by
              intro d64
              induction d64 with
              | zero =>
                intro j  hr64 hq
                refine jg_iload_n cx dX3_ring_64 rfl ?_
                refine jg_sipush cx (v := nI 300) dX3_ring_65 (by decide) ?_
                refine jg_icmpN_gt cx (tgt := 120) dX3_ring_68 (by decide) (by omega) (by omega) (fun c68 => ?_) (fun c68 => ?_)
                · refine jg_bipush cx (v := (-6)) dX3_ring_120 (by decide) ?_
                  exact jg_iret cx dX3_ring_122 (⟨by rw [eF, ← hq]; rfl, by rw [eF]⟩)
                · exact absurd hr64 (by omega)
              | succ d64 ih64 =>
                intro j  hr64 hq
                refine jg_iload_n cx dX3_ring_64 rfl ?_
                refine jg_sipush cx (v := nI 300) dX3_ring_65 (by decide) ?_
                refine jg_icmpN_gt cx (tgt := 120) dX3_ring_68 (by decide) (by omega) (by omega) (fun c68 => ?_) (fun c68 => ?_)
                · exact absurd hr64 (by omega)
                · refine jg_iconst cx (v := nI 0) dX3_ring_71 (by decide) ?_
                  refine jg_istore cx (lv' := [(0, _), (1, _), (2, _), (3, _), (4, _)]) dX3_ring_72 (by decide) rfl ?_
                  have lp74 : ∀ (d74 a : Nat), a + d74 = 301 - (j + 1) → (jk_fa (jk_rE ru M) (j + 1) d74 a = jk_fa (jk_rE ru M) (j + 1) (301 - (j + 1)) 0) → X 74 [(0, .ref (E.2.1 7 0)), (1, .int ru), (2, .int w), (3, .int (nI (j + 1))), (4, .int (nI a))] [] (jp_u h 7 (jk_rE ru M) L) := by
                    intro d74
                    induction d74 with
                    | zero =>
                      intro a  hr74 hq2
                      refine jg_iload cx dX3_ring_74 rfl ?_
                      refine jg_iload_n cx dX3_ring_76 rfl ?_
                      refine jg_iaddN cx dX3_ring_77 ?_
                      refine jg_sipush cx (v := nI 300) dX3_ring_78 (by decide) ?_
                      refine jg_icmpN_gt cx (tgt := 114) dX3_ring_81 (by decide) (by omega) (by omega) (fun c81 => ?_) (fun c81 => ?_)
                      · refine jg_iincN cx (d := 1) (lv' := [(0, _), (1, _), (2, _), (3, _), (4, _)]) dX3_ring_114 rfl (by decide) (by decide) rfl ?_
                        refine jg_goto cx (tgt := 64) dX3_ring_117 (by decide) ?_
                        refine jg_sub cx (lv' := [(0, _), (1, _), (2, _), (3, _)]) [0, 1, 2, 3] rfl ?_
                        exact jg_to (ih64 (j + 1)  (by omega) (by rw [← hq]; exact (jk_fp_none hq2.symm).symm)) rfl rfl rfl
                      · exact absurd hr74 (by omega)
                    | succ d74 ih74 =>
                      intro a  hr74 hq2
                      refine jg_iload cx dX3_ring_74 rfl ?_
                      refine jg_iload_n cx dX3_ring_76 rfl ?_
                      refine jg_iaddN cx dX3_ring_77 ?_
                      refine jg_sipush cx (v := nI 300) dX3_ring_78 (by decide) ?_
                      refine jg_icmpN_gt cx (tgt := 114) dX3_ring_81 (by decide) (by omega) (by omega) (fun c81 => ?_) (fun c81 => ?_)
                      · exact absurd hr74 (by omega)
                      · refine jg_aload_n cx dX3_ring_84 rfl ?_
                        refine jg_iload cx dX3_ring_85 rfl ?_
                        refine jg_iload cx dX3_ring_87 rfl ?_
                        refine jg_iload_n cx dX3_ring_89 rfl ?_
                        refine jg_iaddN cx dX3_ring_90 ?_
                        refine jg_callVi cx (n := 2) (jc_X3_isAlike E l (by omega) (by omega)) gX3_ring_X3_isAlike rfl ⟨rfl, rfl⟩ ⟨(Nat.le_of_ble_eq_true rfl), (Nat.le_of_ble_eq_true rfl)⟩ (by decide +kernel) jp_mo_o rfl rfl rfl (Nat.le_of_ble_eq_true rfl) dX3_ring_91 ?_
                        refine jg_ifb_eq cx (tgt := 108) dX3_ring_94 (by decide) (fun c94 => ?_) (fun c94 => ?_)
                        · refine jg_iincN cx (d := 1) (lv' := [(0, _), (1, _), (2, _), (3, _), (4, _)]) dX3_ring_108 rfl (by decide) (by decide) rfl ?_
                          refine jg_goto cx (tgt := 74) dX3_ring_111 (by decide) ?_
                          exact jg_to (ih74 (a + 1)  (by omega) (by rw [← hq2]; simp only [jk_fa, c94, ↓reduceIte, Bool.false_eq_true])) rfl rfl rfl
                        · have e9 : jk_fa (jk_rE ru M) (j + 1) (301 - (j + 1)) 0 = some a := by rw [← hq2]; simp only [jk_fa, c94, ↓reduceIte]
                          have e8 : jk_ring ru w M = (jk_rV w (some (a, j + 1)), jk_rE ru M) := by rw [eF, ← hq, jk_fp_some e9]
                          refine jg_iload_n cx dX3_ring_97 rfl ?_
                          refine jg_if_ne cx (tgt := 106) dX3_ring_98 (by decide) (fun c98 => ?_) (fun c98 => ?_)
                          · refine jg_iload_n cx dX3_ring_106 rfl ?_
                            exact jg_iret cx dX3_ring_107 (⟨by rw [e8]; simp only [jk_rV, c6, c15, c94, if_neg c98, ↓reduceIte], by rw [e8]⟩)
                          · refine jg_iload cx dX3_ring_101 rfl ?_
                            refine jg_goto cx (tgt := 107) dX3_ring_103 (by decide) ?_
                            exact jg_iret cx dX3_ring_107 (⟨by rw [e8]; simp only [jk_rV, c6, c15, c94, if_pos c98, ↓reduceIte], by rw [e8]⟩)
                  exact jg_to (lp74 (301 - (j + 1)) 0  (by omega) rfl) rfl rfl rfl
            exact jg_to (lp64 300 0  (by omega) rfl) rfl rfl (by first | with_reducible rfl | (simp only [jk_rE, c6, c15, ↓reduceIte, Bool.false_eq_true, Bool.true_eq_false, reduceCtorEq, eq_self, if_true, if_false, Bool.not_true, Bool.not_false]; first | done | rfl))
          · exact absurd hr33 (by omega)
        | succ d33 ih33 =>
          intro i  hr33 
          refine jg_iload_n cx dX3_ring_33 rfl ?_
          refine jg_sipush cx (v := nI 300) dX3_ring_34 (by decide) ?_
          refine jg_icmpN_gt cx (tgt := 57) dX3_ring_37 (by decide) (by omega) (by omega) (fun c37 => ?_) (fun c37 => ?_)
          · exact absurd hr33 (by omega)
          · refine jg_aload_n cx dX3_ring_40 rfl ?_
            refine jg_iload_n cx dX3_ring_41 rfl ?_
            refine jg_callVi cx (n := 1) (jc_X3_round E l (jk_rW_ok hok i)) gX3_ring_X3_round rfl ⟨rfl, rfl⟩ ⟨(Nat.le_of_ble_eq_true rfl), (Nat.le_of_ble_eq_true rfl)⟩ (by decide +kernel) jp_mo_o rfl rfl rfl (Nat.le_of_ble_eq_true rfl) dX3_ring_42 ?_
            refine jg_pop cx dX3_ring_45 rfl ?_
            refine jg_aload_n cx dX3_ring_46 rfl ?_
            refine jg_iload_n cx dX3_ring_47 rfl ?_
            refine jg_callVv cx (n := 1) (jc_X3_layTime E l (by omega)) gX3_ring_X3_layTime rfl ⟨rfl, rfl⟩ ⟨(Nat.le_of_ble_eq_true rfl), (Nat.le_of_ble_eq_true rfl)⟩ (by decide +kernel) jp_mo_o rfl rfl rfl (Nat.le_of_ble_eq_true rfl) dX3_ring_48 ?_
            refine jg_iincN cx (d := 1) (lv' := [(0, _), (1, _), (2, _), (3, _)]) dX3_ring_51 rfl (by decide) (by decide) rfl ?_
            refine jg_goto cx (tgt := 33) dX3_ring_54 (by decide) ?_
            exact jg_to (ih33 (i + 1)  (by omega) ) rfl rfl (by first | with_reducible rfl | (simp only [jk_rW_s, c6, c15, ↓reduceIte, Bool.false_eq_true, Bool.true_eq_false, reduceCtorEq, eq_self, if_true, if_false, Bool.not_true, Bool.not_false]; first | done | rfl))
      exact jg_to (lp33 300 0  (by omega) ) rfl rfl (by first | with_reducible rfl | (simp only [jk_rW_0, c6, c15, ↓reduceIte, Bool.false_eq_true, Bool.true_eq_false, reduceCtorEq, eq_self, if_true, if_false, Bool.not_true, Bool.not_false]; first | done | rfl))
    · refine jg_bipush cx (v := (-2)) dX3_ring_18 (by decide) ?_
      exact jg_iret cx dX3_ring_20 (⟨(by first | with_reducible rfl | (simp only [jk_ring, c6, c15, ↓reduceIte, Bool.false_eq_true, Bool.true_eq_false, reduceCtorEq, eq_self, if_true, if_false, Bool.not_true, Bool.not_false]; first | done | rfl)), (by first | with_reducible rfl | (simp only [jk_ring, c6, c15, ↓reduceIte, Bool.false_eq_true, Bool.true_eq_false, reduceCtorEq, eq_self, if_true, if_false, Bool.not_true, Bool.not_false]; first | done | rfl))⟩)
