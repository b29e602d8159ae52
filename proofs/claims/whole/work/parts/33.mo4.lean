/-! ===== the model, what is asked ===== -/
def jk_hi (M : jf_B) : Nat → Nat
  | 0 => 0
  | i + 1 => if M 1 (8 + (i + 1)) * M 1 (0 + jk_hi M i) ≤ M 1 (8 + jk_hi M i) * M 1 (0 + (i + 1)) then jk_hi M i else i + 1
def jk_lo (M : jf_B) : Nat → Nat
  | 0 => 0
  | i + 1 => if M 1 (8 + jk_lo M i) * M 1 (0 + (i + 1)) ≤ M 1 (8 + (i + 1)) * M 1 (0 + jk_lo M i) then jk_lo M i else i + 1
theorem jk_hi_le (M : jf_B) : ∀ i, jk_hi M i ≤ i
  | 0 => Nat.le_refl 0
  | i + 1 => by
    unfold jk_hi
    have := jk_hi_le M i
    split <;> omega
theorem jk_lo_le (M : jf_B) : ∀ i, jk_lo M i ≤ i
  | 0 => Nat.le_refl 0
  | i + 1 => by
    unfold jk_lo
    have := jk_lo_le M i
    split <;> omega
def jk_up (M : jf_B) : Int32 := M 1 (8 + jk_hi M 7) * M 1 (0 + jk_lo M 7) - M 1 (8 + jk_lo M 7) * M 1 (0 + jk_hi M 7)
def jk_dn (M : jf_B) : Int32 := M 1 (0 + jk_hi M 7) * M 1 (0 + jk_lo M 7)
def jk_unev (M : jf_B) : jf_B := jf_w (jf_w M 0 6 (jk_up M)) 0 7 (jk_dn M)
set_option maxHeartbeats 1000000 in
set_option maxRecDepth 100000 in
theorem jc_X3_layUneven (E : jp_E) (l : Launch) {h : jp_H} {M : jf_B} {L : jf_L}  : jc_M E l yX3_layUneven wsX3_layUneven ({ frames := 0, cells := 0, slots := 0, locals := 0 } : Room) [.ref (E.2.1 7 0)] (jp_u h 7 M L) (jp_R none (jp_u h 7 (jk_unev M) L)) := by
  refine jc_of (cc := cX3_layUneven) (maxL := 4) (ret := none) (own := RX3) (lv := [(0, _)]) (by decide) rfl rfl (Nat.le_of_ble_eq_true rfl) rfl (fun X cx => ?_)
  have inX3 : ∀ w ∈ u_ws RX3 TX3 11, w ∈ wsX3_layUneven := by decide +kernel
  have f7 : Cond.fieldLink RX3 7 "JobSpreadModel" "state" "[I" ∈ wsX3_layUneven := by decide +kernel
  have f113 : Cond.fieldLink RX3 113 "JobSpreadModel" "upper" "I" ∈ wsX3_layUneven := by decide +kernel
  have f116 : Cond.fieldLink RX3 116 "JobSpreadModel" "lower" "I" ∈ wsX3_layUneven := by decide +kernel
  refine jg_iconst cx (v := nI 0) dX3_layUneven_0 (by decide) ?_
  refine jg_istore_n cx (lv' := [(0, _), (1, _)]) dX3_layUneven_1 (by decide) rfl ?_
  refine jg_iconst cx (v := nI 0) dX3_layUneven_2 (by decide) ?_
  refine jg_istore_n cx (lv' := [(0, _), (1, _), (2, _)]) dX3_layUneven_3 (by decide) rfl ?_
  refine jg_iconst cx (v := nI 1) dX3_layUneven_4 (by decide) ?_
  refine jg_istore_n cx (lv' := [(0, _), (1, _), (2, _), (3, _)]) dX3_layUneven_5 (by decide) rfl ?_
  have lp6 : ∀ (d6 i : Nat), i + d6 = 7 → X 6 [(0, .ref (E.2.1 7 0)), (1, .int (nI (jk_hi M i))), (2, .int (nI (jk_lo M i))), (3, .int (nI (i + 1)))] [] (jp_u h 7 M L) := by
    intro d6
    induction d6 with
    | zero =>
      intro i  hr6 
      have hle := jk_hi_le M i
      have hle2 := jk_lo_le M i
      refine jg_iload_n cx dX3_layUneven_6 rfl ?_
      refine jg_bipush cx (v := nI 8) dX3_layUneven_7 (by decide) ?_
      refine jg_icmpN_ge cx (tgt := 108) dX3_layUneven_9 (by decide) (by omega) (by omega) (fun c9 => ?_) (fun c9 => ?_)
      · refine jg_aload_n cx dX3_layUneven_108 rfl ?_
        refine jg_aload_n cx dX3_layUneven_109 rfl ?_
        refine jg_get cx jp_mo_o rfl inX3 0 (by decide) f7 rfl dX3_layUneven_110 ?_
        refine jg_bipush cx (v := nI 8) dX3_layUneven_113 (by decide) ?_
        refine jg_iload_n cx dX3_layUneven_115 rfl ?_
        refine jg_iaddN cx dX3_layUneven_116 ?_
        refine jg_ialdU cx dX3_layUneven_117 (jp_mo_1) rfl (by omega) ?_
        refine jg_aload_n cx dX3_layUneven_118 rfl ?_
        refine jg_get cx jp_mo_o rfl inX3 0 (by decide) f7 rfl dX3_layUneven_119 ?_
        refine jg_iconst cx (v := nI 0) dX3_layUneven_122 (by decide) ?_
        refine jg_iload_n cx dX3_layUneven_123 rfl ?_
        refine jg_iaddN cx dX3_layUneven_124 ?_
        refine jg_ialdU cx dX3_layUneven_125 (jp_mo_1) rfl (by omega) ?_
        refine jg_imul cx dX3_layUneven_126 ?_
        refine jg_aload_n cx dX3_layUneven_127 rfl ?_
        refine jg_get cx jp_mo_o rfl inX3 0 (by decide) f7 rfl dX3_layUneven_128 ?_
        refine jg_bipush cx (v := nI 8) dX3_layUneven_131 (by decide) ?_
        refine jg_iload_n cx dX3_layUneven_133 rfl ?_
        refine jg_iaddN cx dX3_layUneven_134 ?_
        refine jg_ialdU cx dX3_layUneven_135 (jp_mo_1) rfl (by omega) ?_
        refine jg_aload_n cx dX3_layUneven_136 rfl ?_
        refine jg_get cx jp_mo_o rfl inX3 0 (by decide) f7 rfl dX3_layUneven_137 ?_
        refine jg_iconst cx (v := nI 0) dX3_layUneven_140 (by decide) ?_
        refine jg_iload_n cx dX3_layUneven_141 rfl ?_
        refine jg_iaddN cx dX3_layUneven_142 ?_
        refine jg_ialdU cx dX3_layUneven_143 (jp_mo_1) rfl (by omega) ?_
        refine jg_imul cx dX3_layUneven_144 ?_
        refine jg_isub cx dX3_layUneven_145 ?_
        refine jg_putU cx jp_mo_o rfl inX3 tyX3 tyX3_ok nmX3 6 (by decide) f113 rfl (by decide +kernel) (Nat.le_of_ble_eq_true rfl) (jp_put3_6 _ _ _) dX3_layUneven_146 ?_
        refine jg_aload_n cx dX3_layUneven_149 rfl ?_
        refine jg_aload_n cx dX3_layUneven_150 rfl ?_
        refine jg_get cx jp_mo_o rfl inX3 0 (by decide) f7 rfl dX3_layUneven_151 ?_
        refine jg_iconst cx (v := nI 0) dX3_layUneven_154 (by decide) ?_
        refine jg_iload_n cx dX3_layUneven_155 rfl ?_
        refine jg_iaddN cx dX3_layUneven_156 ?_
        refine jg_ialdU cx dX3_layUneven_157 (jp_mo_1) rfl (by omega) ?_
        refine jg_aload_n cx dX3_layUneven_158 rfl ?_
        refine jg_get cx jp_mo_o rfl inX3 0 (by decide) f7 rfl dX3_layUneven_159 ?_
        refine jg_iconst cx (v := nI 0) dX3_layUneven_162 (by decide) ?_
        refine jg_iload_n cx dX3_layUneven_163 rfl ?_
        refine jg_iaddN cx dX3_layUneven_164 ?_
        refine jg_ialdU cx dX3_layUneven_165 (jp_mo_1) rfl (by omega) ?_
        refine jg_imul cx dX3_layUneven_166 ?_
        refine jg_putU cx jp_mo_o rfl inX3 tyX3 tyX3_ok nmX3 7 (by decide) f116 rfl (by decide +kernel) (Nat.le_of_ble_eq_true rfl) (jp_put3_7 _ _ _) dX3_layUneven_167 ?_
        exact jg_vret cx dX3_layUneven_170 (by rw [show i = 7 by omega]; exact ⟨rfl, by simp only [jk_unev, jk_up, jk_dn, jf_w_o _ _ _ _ (show (1 : Nat) ≠ 0 by decide)]⟩)
      · exact absurd hr6 (by omega)
    | succ d6 ih6 =>
      intro i  hr6 
      have hle := jk_hi_le M i
      have hle2 := jk_lo_le M i
      refine jg_iload_n cx dX3_layUneven_6 rfl ?_
      refine jg_bipush cx (v := nI 8) dX3_layUneven_7 (by decide) ?_
      refine jg_icmpN_ge cx (tgt := 108) dX3_layUneven_9 (by decide) (by omega) (by omega) (fun c9 => ?_) (fun c9 => ?_)
      · exact absurd hr6 (by omega)
      · refine jg_aload_n cx dX3_layUneven_12 rfl ?_
        refine jg_get cx jp_mo_o rfl inX3 0 (by decide) f7 rfl dX3_layUneven_13 ?_
        refine jg_bipush cx (v := nI 8) dX3_layUneven_16 (by decide) ?_
        refine jg_iload_n cx dX3_layUneven_18 rfl ?_
        refine jg_iaddN cx dX3_layUneven_19 ?_
        refine jg_ialdU cx dX3_layUneven_20 (jp_mo_1) rfl (by omega) ?_
        refine jg_aload_n cx dX3_layUneven_21 rfl ?_
        refine jg_get cx jp_mo_o rfl inX3 0 (by decide) f7 rfl dX3_layUneven_22 ?_
        refine jg_iconst cx (v := nI 0) dX3_layUneven_25 (by decide) ?_
        refine jg_iload_n cx dX3_layUneven_26 rfl ?_
        refine jg_iaddN cx dX3_layUneven_27 ?_
        refine jg_ialdU cx dX3_layUneven_28 (jp_mo_1) rfl (by omega) ?_
        refine jg_imul cx dX3_layUneven_29 ?_
        refine jg_aload_n cx dX3_layUneven_30 rfl ?_
        refine jg_get cx jp_mo_o rfl inX3 0 (by decide) f7 rfl dX3_layUneven_31 ?_
        refine jg_bipush cx (v := nI 8) dX3_layUneven_34 (by decide) ?_
        refine jg_iload_n cx dX3_layUneven_36 rfl ?_
        refine jg_iaddN cx dX3_layUneven_37 ?_
        refine jg_ialdU cx dX3_layUneven_38 (jp_mo_1) rfl (by omega) ?_
        refine jg_aload_n cx dX3_layUneven_39 rfl ?_
        refine jg_get cx jp_mo_o rfl inX3 0 (by decide) f7 rfl dX3_layUneven_40 ?_
        refine jg_iconst cx (v := nI 0) dX3_layUneven_43 (by decide) ?_
        refine jg_iload_n cx dX3_layUneven_44 rfl ?_
        refine jg_iaddN cx dX3_layUneven_45 ?_
        refine jg_ialdU cx dX3_layUneven_46 (jp_mo_1) rfl (by omega) ?_
        refine jg_imul cx dX3_layUneven_47 ?_
        refine jg_icmp_le cx (tgt := 55) dX3_layUneven_48 (by decide) (fun c48 => ?_) (fun c48 => ?_)
        · refine jg_iload_n cx dX3_layUneven_55 rfl ?_
          refine jg_istore_n cx (lv' := [(0, _), (1, _), (2, _), (3, _)]) dX3_layUneven_56 (by decide) rfl ?_
          refine jg_aload_n cx dX3_layUneven_57 rfl ?_
          refine jg_get cx jp_mo_o rfl inX3 0 (by decide) f7 rfl dX3_layUneven_58 ?_
          refine jg_bipush cx (v := nI 8) dX3_layUneven_61 (by decide) ?_
          refine jg_iload_n cx dX3_layUneven_63 rfl ?_
          refine jg_iaddN cx dX3_layUneven_64 ?_
          refine jg_ialdU cx dX3_layUneven_65 (jp_mo_1) rfl (by omega) ?_
          refine jg_aload_n cx dX3_layUneven_66 rfl ?_
          refine jg_get cx jp_mo_o rfl inX3 0 (by decide) f7 rfl dX3_layUneven_67 ?_
          refine jg_iconst cx (v := nI 0) dX3_layUneven_70 (by decide) ?_
          refine jg_iload_n cx dX3_layUneven_71 rfl ?_
          refine jg_iaddN cx dX3_layUneven_72 ?_
          refine jg_ialdU cx dX3_layUneven_73 (jp_mo_1) rfl (by omega) ?_
          refine jg_imul cx dX3_layUneven_74 ?_
          refine jg_aload_n cx dX3_layUneven_75 rfl ?_
          refine jg_get cx jp_mo_o rfl inX3 0 (by decide) f7 rfl dX3_layUneven_76 ?_
          refine jg_bipush cx (v := nI 8) dX3_layUneven_79 (by decide) ?_
          refine jg_iload_n cx dX3_layUneven_81 rfl ?_
          refine jg_iaddN cx dX3_layUneven_82 ?_
          refine jg_ialdU cx dX3_layUneven_83 (jp_mo_1) rfl (by omega) ?_
          refine jg_aload_n cx dX3_layUneven_84 rfl ?_
          refine jg_get cx jp_mo_o rfl inX3 0 (by decide) f7 rfl dX3_layUneven_85 ?_
          refine jg_iconst cx (v := nI 0) dX3_layUneven_88 (by decide) ?_
          refine jg_iload_n cx dX3_layUneven_89 rfl ?_
          refine jg_iaddN cx dX3_layUneven_90 ?_
          refine jg_ialdU cx dX3_layUneven_91 (jp_mo_1) rfl (by omega) ?_
          refine jg_imul cx dX3_layUneven_92 ?_
          refine jg_icmp_ge cx (tgt := 100) dX3_layUneven_93 (by decide) (fun c93 => ?_) (fun c93 => ?_)
          · refine jg_iload_n cx dX3_layUneven_100 rfl ?_
            refine jg_istore_n cx (lv' := [(0, _), (1, _), (2, _), (3, _)]) dX3_layUneven_101 (by decide) rfl ?_
            refine jg_iincN cx (d := 1) (lv' := [(0, _), (1, _), (2, _), (3, _)]) dX3_layUneven_102 rfl (by decide) (by decide) rfl ?_
            refine jg_goto cx (tgt := 6) dX3_layUneven_105 (by decide) ?_
            exact jg_to (ih6 (i + 1)  (by omega) ) (by first | with_reducible rfl | (simp only [jk_hi, jk_lo, if_pos c48, if_pos c93, ↓reduceIte, Bool.false_eq_true, Bool.true_eq_false, reduceCtorEq, eq_self, if_true, if_false, Bool.not_true, Bool.not_false]; first | done | rfl)) (by first | with_reducible rfl | (simp only [jk_hi, jk_lo, if_pos c48, if_pos c93, ↓reduceIte, Bool.false_eq_true, Bool.true_eq_false, reduceCtorEq, eq_self, if_true, if_false, Bool.not_true, Bool.not_false]; first | done | rfl)) (by first | with_reducible rfl | (simp only [jk_hi, jk_lo, if_pos c48, if_pos c93, ↓reduceIte, Bool.false_eq_true, Bool.true_eq_false, reduceCtorEq, eq_self, if_true, if_false, Bool.not_true, Bool.not_false]; first | done | rfl))
          · refine jg_iload_n cx dX3_layUneven_96 rfl ?_
            refine jg_goto cx (tgt := 101) dX3_layUneven_97 (by decide) ?_
            refine jg_istore_n cx (lv' := [(0, _), (1, _), (2, _), (3, _)]) dX3_layUneven_101 (by decide) rfl ?_
            refine jg_iincN cx (d := 1) (lv' := [(0, _), (1, _), (2, _), (3, _)]) dX3_layUneven_102 rfl (by decide) (by decide) rfl ?_
            refine jg_goto cx (tgt := 6) dX3_layUneven_105 (by decide) ?_
            exact jg_to (ih6 (i + 1)  (by omega) ) (by first | with_reducible rfl | (simp only [jk_hi, jk_lo, if_pos c48, if_neg c93, ↓reduceIte, Bool.false_eq_true, Bool.true_eq_false, reduceCtorEq, eq_self, if_true, if_false, Bool.not_true, Bool.not_false]; first | done | rfl)) (by first | with_reducible rfl | (simp only [jk_hi, jk_lo, if_pos c48, if_neg c93, ↓reduceIte, Bool.false_eq_true, Bool.true_eq_false, reduceCtorEq, eq_self, if_true, if_false, Bool.not_true, Bool.not_false]; first | done | rfl)) (by first | with_reducible rfl | (simp only [jk_hi, jk_lo, if_pos c48, if_neg c93, ↓reduceIte, Bool.false_eq_true, Bool.true_eq_false, reduceCtorEq, eq_self, if_true, if_false, Bool.not_true, Bool.not_false]; first | done | rfl))
        · refine jg_iload_n cx dX3_layUneven_51 rfl ?_
          refine jg_goto cx (tgt := 56) dX3_layUneven_52 (by decide) ?_
          refine jg_istore_n cx (lv' := [(0, _), (1, _), (2, _), (3, _)]) dX3_layUneven_56 (by decide) rfl ?_
          refine jg_aload_n cx dX3_layUneven_57 rfl ?_
          refine jg_get cx jp_mo_o rfl inX3 0 (by decide) f7 rfl dX3_layUneven_58 ?_
          refine jg_bipush cx (v := nI 8) dX3_layUneven_61 (by decide) ?_
          refine jg_iload_n cx dX3_layUneven_63 rfl ?_
          refine jg_iaddN cx dX3_layUneven_64 ?_
          refine jg_ialdU cx dX3_layUneven_65 (jp_mo_1) rfl (by omega) ?_
          refine jg_aload_n cx dX3_layUneven_66 rfl ?_
          refine jg_get cx jp_mo_o rfl inX3 0 (by decide) f7 rfl dX3_layUneven_67 ?_
          refine jg_iconst cx (v := nI 0) dX3_layUneven_70 (by decide) ?_
          refine jg_iload_n cx dX3_layUneven_71 rfl ?_
          refine jg_iaddN cx dX3_layUneven_72 ?_
          refine jg_ialdU cx dX3_layUneven_73 (jp_mo_1) rfl (by omega) ?_
          refine jg_imul cx dX3_layUneven_74 ?_
          refine jg_aload_n cx dX3_layUneven_75 rfl ?_
          refine jg_get cx jp_mo_o rfl inX3 0 (by decide) f7 rfl dX3_layUneven_76 ?_
          refine jg_bipush cx (v := nI 8) dX3_layUneven_79 (by decide) ?_
          refine jg_iload_n cx dX3_layUneven_81 rfl ?_
          refine jg_iaddN cx dX3_layUneven_82 ?_
          refine jg_ialdU cx dX3_layUneven_83 (jp_mo_1) rfl (by omega) ?_
          refine jg_aload_n cx dX3_layUneven_84 rfl ?_
          refine jg_get cx jp_mo_o rfl inX3 0 (by decide) f7 rfl dX3_layUneven_85 ?_
          refine jg_iconst cx (v := nI 0) dX3_layUneven_88 (by decide) ?_
          refine jg_iload_n cx dX3_layUneven_89 rfl ?_
          refine jg_iaddN cx dX3_layUneven_90 ?_
          refine jg_ialdU cx dX3_layUneven_91 (jp_mo_1) rfl (by omega) ?_
          refine jg_imul cx dX3_layUneven_92 ?_
          refine jg_icmp_ge cx (tgt := 100) dX3_layUneven_93 (by decide) (fun c93 => ?_) (fun c93 => ?_)
          · refine jg_iload_n cx dX3_layUneven_100 rfl ?_
            refine jg_istore_n cx (lv' := [(0, _), (1, _), (2, _), (3, _)]) dX3_layUneven_101 (by decide) rfl ?_
            refine jg_iincN cx (d := 1) (lv' := [(0, _), (1, _), (2, _), (3, _)]) dX3_layUneven_102 rfl (by decide) (by decide) rfl ?_
            refine jg_goto cx (tgt := 6) dX3_layUneven_105 (by decide) ?_
            exact jg_to (ih6 (i + 1)  (by omega) ) (by first | with_reducible rfl | (simp only [jk_hi, jk_lo, if_neg c48, if_pos c93, ↓reduceIte, Bool.false_eq_true, Bool.true_eq_false, reduceCtorEq, eq_self, if_true, if_false, Bool.not_true, Bool.not_false]; first | done | rfl)) (by first | with_reducible rfl | (simp only [jk_hi, jk_lo, if_neg c48, if_pos c93, ↓reduceIte, Bool.false_eq_true, Bool.true_eq_false, reduceCtorEq, eq_self, if_true, if_false, Bool.not_true, Bool.not_false]; first | done | rfl)) (by first | with_reducible rfl | (simp only [jk_hi, jk_lo, if_neg c48, if_pos c93, ↓reduceIte, Bool.false_eq_true, Bool.true_eq_false, reduceCtorEq, eq_self, if_true, if_false, Bool.not_true, Bool.not_false]; first | done | rfl))
          · refine jg_iload_n cx dX3_layUneven_96 rfl ?_
            refine jg_goto cx (tgt := 101) dX3_layUneven_97 (by decide) ?_
            refine jg_istore_n cx (lv' := [(0, _), (1, _), (2, _), (3, _)]) dX3_layUneven_101 (by decide) rfl ?_
            refine jg_iincN cx (d := 1) (lv' := [(0, _), (1, _), (2, _), (3, _)]) dX3_layUneven_102 rfl (by decide) (by decide) rfl ?_
            refine jg_goto cx (tgt := 6) dX3_layUneven_105 (by decide) ?_
            exact jg_to (ih6 (i + 1)  (by omega) ) (by first | with_reducible rfl | (simp only [jk_hi, jk_lo, if_neg c48, if_neg c93, ↓reduceIte, Bool.false_eq_true, Bool.true_eq_false, reduceCtorEq, eq_self, if_true, if_false, Bool.not_true, Bool.not_false]; first | done | rfl)) (by first | with_reducible rfl | (simp only [jk_hi, jk_lo, if_neg c48, if_neg c93, ↓reduceIte, Bool.false_eq_true, Bool.true_eq_false, reduceCtorEq, eq_self, if_true, if_false, Bool.not_true, Bool.not_false]; first | done | rfl)) (by first | with_reducible rfl | (simp only [jk_hi, jk_lo, if_neg c48, if_neg c93, ↓reduceIte, Bool.false_eq_true, Bool.true_eq_false, reduceCtorEq, eq_self, if_true, if_false, Bool.not_true, Bool.not_false]; first | done | rfl))
  exact jg_to (lp6 7 0  (by omega) ) rfl rfl rfl
set_option maxHeartbeats 1000000 in
set_option maxRecDepth 100000 in
theorem jc_X3_common (E : jp_E) (l : Launch) {h : jp_H} {u v : Nat} (hu : u < 2 ^ 63) (hv : v < 2 ^ 63) : jc_M E l yX3_common wsX3_common ({ frames := 0, cells := 0, slots := 0, locals := 0 } : Room) [.long (lN u), .long (lN v)] h (jp_R (some (.long (lN (Nat.gcd u v)))) h) := by
  refine jc_of (cc := cX3_common) (maxL := 10) (ret := some .long) (own := RX3) (lv := [(0, _), (2, _)]) (by decide) rfl rfl (Nat.le_of_ble_eq_true rfl) rfl (fun X cx => ?_)
  refine jg_lload_n cx dX3_common_0 rfl ?_
  refine jg_lstore cx (lv' := [(0, _), (2, _), (4, _)]) dX3_common_1 (by decide) rfl ?_
  refine jg_lload_n cx dX3_common_3 rfl ?_
  refine jg_lstore cx (lv' := [(0, _), (2, _), (4, _), (6, _)]) dX3_common_4 (by decide) rfl ?_
  have lp6 : ∀ (d6 a : Nat) (b : Nat), b ≤ d6 → (a < 2 ^ 63) → (b < 2 ^ 63) → (Nat.gcd a b = Nat.gcd u v) → X 6 [(0, .long (lN u)), (2, .long (lN v)), (4, .long (lN a)), (6, .long (lN b))] [] (h) := by
    intro d6
    induction d6 with
    | zero =>
      intro a b hr6 ha hb3 hg
      refine jg_lload cx dX3_common_6 rfl ?_
      refine jg_lconst cx (v := 0) dX3_common_8 rfl ?_
      refine jg_lcmp cx dX3_common_9 ?_
      refine jg_if_eq cx (tgt := 31) dX3_common_10 (by decide) (fun c10 => ?_) (fun c10 => ?_)
      · have hb0 : b = 0 := (pk_lEQ (a := b) (b := 0) hb3 (by decide)).mp ((lg_cmp_eq _ _).mp c10)
        refine jg_lload cx dX3_common_31 rfl ?_
        exact jg_lret cx dX3_common_33 (⟨by rw [← hg, hb0, Nat.gcd_zero_right], rfl⟩)
      · exact absurd (by rw [show b = 0 by omega]; decide) c10
    | succ d6 ih6 =>
      intro a b hr6 ha hb3 hg
      refine jg_lload cx dX3_common_6 rfl ?_
      refine jg_lconst cx (v := 0) dX3_common_8 rfl ?_
      refine jg_lcmp cx dX3_common_9 ?_
      refine jg_if_eq cx (tgt := 31) dX3_common_10 (by decide) (fun c10 => ?_) (fun c10 => ?_)
      · have hb0 : b = 0 := (pk_lEQ (a := b) (b := 0) hb3 (by decide)).mp ((lg_cmp_eq _ _).mp c10)
        refine jg_lload cx dX3_common_31 rfl ?_
        exact jg_lret cx dX3_common_33 (⟨by rw [← hg, hb0, Nat.gcd_zero_right], rfl⟩)
      · have hb0 : 0 < b := Nat.pos_of_ne_zero (fun q => c10 (by rw [q]; decide))
        refine jg_lload cx dX3_common_13 rfl ?_
        refine jg_lload cx dX3_common_15 rfl ?_
        refine jg_lrem cx dX3_common_17 (fun q => c10 (by rw [q]; decide)) ?_
        rw [pk_lRem ha hb0 hb3]
        refine jg_lstore cx (lv' := [(0, _), (2, _), (4, _), (6, _), (8, _)]) dX3_common_18 (by decide) rfl ?_
        refine jg_lload cx dX3_common_20 rfl ?_
        refine jg_lstore cx (lv' := [(0, _), (2, _), (4, _), (6, _), (8, _)]) dX3_common_22 (by decide) rfl ?_
        refine jg_lload cx dX3_common_24 rfl ?_
        refine jg_lstore cx (lv' := [(0, _), (2, _), (4, _), (6, _), (8, _)]) dX3_common_26 (by decide) rfl ?_
        refine jg_goto cx (tgt := 6) dX3_common_28 (by decide) ?_
        refine jg_sub cx (lv' := [(0, _), (2, _), (4, _), (6, _)]) [0, 1, 2, 3] rfl ?_
        exact jg_to (ih6 b _ (by have := Nat.mod_lt a hb0; omega) hb3 (Nat.lt_trans (Nat.mod_lt a hb0) hb3) (by rw [← hg, Nat.gcd_comm a b, Nat.gcd_rec b a, Nat.gcd_comm])) rfl rfl rfl
  exact jg_to (lp6 v u _ (Nat.le_refl v) hu hv rfl) rfl rfl rfl
def jk_tl (u w : Nat) (pa : Int32) : Int64 := if pa = 0 then lN u / lN (Nat.gcd w u) else lN w / lN (Nat.gcd w u)
theorem jk_gcd_ne {u w : Nat} (h0 : 0 < w) (hw : w < 2 ^ 63) : ¬ lN (Nat.gcd w u) = 0 := by
  have h1 : Nat.gcd w u ≤ w := Nat.gcd_le_left u h0
  have h2 : 0 < Nat.gcd w u := Nat.gcd_pos_of_pos_left u h0
  intro q
  have := (pk_lEQ (a := Nat.gcd w u) (b := 0) (by omega) (by decide)).mp q
  omega
set_option maxHeartbeats 1000000 in
set_option maxRecDepth 100000 in
theorem jc_X3_told_ (E : jp_E) (l : Launch) {h : jp_H} {u w : Nat} {pa : Int32} (hu : u < 2 ^ 63) (hw : w < 2 ^ 63) (h0 : 0 < w) : jc_M E l yX3_told_ wsX3_told_ ({ frames := 1, cells := 0, slots := 0, locals := 29 } : Room) [.long (lN u), .long (lN w), .int pa] h (jp_R (some (.long (jk_tl u w pa))) h) := by
  refine jc_of (cc := cX3_told_) (maxL := 7) (ret := some .long) (own := RX3) (lv := [(0, _), (2, _), (4, _)]) (by decide) rfl rfl (Nat.le_of_ble_eq_true rfl) rfl (fun X cx => ?_)
  refine jg_lload_n cx dX3_told__0 rfl ?_
  refine jg_lload_n cx dX3_told__1 rfl ?_
  refine jg_callSl cx (n := 2) (jc_X3_common E l hw hu) gX3_told__X3_common rfl ⟨rfl, rfl⟩ ⟨(Nat.le_of_ble_eq_true rfl), (Nat.le_of_ble_eq_true rfl)⟩ (by decide +kernel) rfl rfl (Nat.le_of_ble_eq_true rfl) dX3_told__2 ?_
  refine jg_lstore cx (lv' := [(0, _), (2, _), (4, _), (5, _)]) dX3_told__5 (by decide) rfl ?_
  refine jg_iload cx dX3_told__7 rfl ?_
  refine jg_if_ne cx (tgt := 19) dX3_told__9 (by decide) (fun c9 => ?_) (fun c9 => ?_)
  · refine jg_lload_n cx dX3_told__19 rfl ?_
    refine jg_lload cx dX3_told__20 rfl ?_
    refine jg_ldiv cx dX3_told__22 (jk_gcd_ne h0 hw) ?_
    exact jg_lret cx dX3_told__23 (⟨(by first | with_reducible rfl | (simp only [jk_tl, if_neg c9, ↓reduceIte, Bool.false_eq_true, Bool.true_eq_false, reduceCtorEq, eq_self, if_true, if_false, Bool.not_true, Bool.not_false]; first | done | rfl)), rfl⟩)
  · refine jg_lload_n cx dX3_told__12 rfl ?_
    refine jg_lload cx dX3_told__13 rfl ?_
    refine jg_ldiv cx dX3_told__15 (jk_gcd_ne h0 hw) ?_
    refine jg_goto cx (tgt := 23) dX3_told__16 (by decide) ?_
    exact jg_lret cx dX3_told__23 (⟨(by first | with_reducible rfl | (simp only [jk_tl, if_pos c9, ↓reduceIte, Bool.false_eq_true, Bool.true_eq_false, reduceCtorEq, eq_self, if_true, if_false, Bool.not_true, Bool.not_false]; first | done | rfl)), rfl⟩)
theorem lN_clamp {n : Nat} (h : n < 2 ^ 63) : (lN n).toNatClampNeg = n := by
  have h1 := pk_lT h
  unfold Int64.toNatClampNeg
  rw [h1]
  rfl
def jk_tR (U W : Int64) (pa : Int32) : Int64 := jk_tl U.toNatClampNeg W.toNatClampNeg pa
theorem jk_tR_n {u w : Nat} (hu : u < 2 ^ 63) (hw : w < 2 ^ 63) (pa : Int32) : jk_tR (lN u) (lN w) pa = jk_tl u w pa := by unfold jk_tR; rw [lN_clamp hu, lN_clamp hw]
/-- a fraction that can be told -/
def jk_fr (U W : Int64) : Prop := (∃ u, u < 2 ^ 63 ∧ U = lN u) ∧ ∃ w, w < 2 ^ 63 ∧ 0 < w ∧ W = lN w
def jk_uneven (pa : Int32) (M : jf_B) : Int32 × jf_B := if jf_within pa (nI 0) (nI 1) then ((jk_tR (jk_up M).toInt64 (jk_dn M).toInt64 pa).toInt32, jk_unev M) else (-2, M)
theorem jk_unev_6 (M : jf_B) : jk_unev M 0 6 = jk_up M := by unfold jk_unev; rw [jf_w_n _ _ (by omega), jf_w_s]
theorem jk_unev_7 (M : jf_B) : jk_unev M 0 7 = jk_dn M := by unfold jk_unev; rw [jf_w_s]
set_option maxHeartbeats 1000000 in
set_option maxRecDepth 100000 in
theorem jc_X3_uneven (E : jp_E) (l : Launch) {h : jp_H} {M : jf_B} {L : jf_L} {pa : Int32} (hf : jk_fr (jk_up M).toInt64 (jk_dn M).toInt64) : jc_M E l yX3_uneven wsX3_uneven ({ frames := 2, cells := 0, slots := 0, locals := 55 } : Room) [.ref (E.2.1 7 0), .int pa] (jp_u h 7 M L) (jp_R (some (.int (jk_uneven pa M).1)) (jp_u h 7 (jk_uneven pa M).2 L)) := by
  obtain ⟨⟨u, hu, eu⟩, w, hw, h0, ew⟩ := hf
  refine jc_of (cc := cX3_uneven) (maxL := 2) (ret := some .int) (own := RX3) (lv := [(0, _), (1, _)]) (by decide) rfl rfl (Nat.le_of_ble_eq_true rfl) rfl (fun X cx => ?_)
  have inX3 : ∀ w ∈ u_ws RX3 TX3 11, w ∈ wsX3_uneven := by decide +kernel
  have f113 : Cond.fieldLink RX3 113 "JobSpreadModel" "upper" "I" ∈ wsX3_uneven := by decide +kernel
  have f116 : Cond.fieldLink RX3 116 "JobSpreadModel" "lower" "I" ∈ wsX3_uneven := by decide +kernel
  refine jg_iload_n cx dX3_uneven_0 rfl ?_
  refine jg_iconst cx (v := nI 0) dX3_uneven_1 (by decide) ?_
  refine jg_iconst cx (v := nI 1) dX3_uneven_2 (by decide) ?_
  refine jg_callSi cx (n := 3) (jc_X3_in E l) gX3_uneven_X3_in rfl ⟨rfl, rfl⟩ ⟨(Nat.le_of_ble_eq_true rfl), (Nat.le_of_ble_eq_true rfl)⟩ (by decide +kernel) rfl rfl (Nat.le_of_ble_eq_true rfl) dX3_uneven_3 ?_
  refine jg_ifb_ne cx (tgt := 12) dX3_uneven_6 (by decide) (fun c6 => ?_) (fun c6 => ?_)
  · refine jg_aload_n cx dX3_uneven_12 rfl ?_
    refine jg_callVv cx (n := 0) (jc_X3_layUneven E l) gX3_uneven_X3_layUneven rfl ⟨rfl, rfl⟩ ⟨(Nat.le_of_ble_eq_true rfl), (Nat.le_of_ble_eq_true rfl)⟩ (by decide +kernel) jp_mo_o rfl rfl rfl (Nat.le_of_ble_eq_true rfl) dX3_uneven_13 ?_
    refine jg_aload_n cx dX3_uneven_16 rfl ?_
    refine jg_getU cx jp_mo_o rfl inX3 6 (by decide) f113 rfl dX3_uneven_17 ?_
    rw [jk_unev_6]
    refine jg_i2l cx dX3_uneven_20 ?_
    rw [eu]
    refine jg_aload_n cx dX3_uneven_21 rfl ?_
    refine jg_getU cx jp_mo_o rfl inX3 7 (by decide) f116 rfl dX3_uneven_22 ?_
    rw [jk_unev_7]
    refine jg_i2l cx dX3_uneven_25 ?_
    rw [ew]
    refine jg_iload_n cx dX3_uneven_26 rfl ?_
    refine jg_callSl cx (n := 3) (jc_X3_told_ E l hu hw h0) gX3_uneven_X3_told_ rfl ⟨rfl, rfl⟩ ⟨(Nat.le_of_ble_eq_true rfl), (Nat.le_of_ble_eq_true rfl)⟩ (by decide +kernel) rfl rfl (Nat.le_of_ble_eq_true rfl) dX3_uneven_27 ?_
    refine jg_l2i cx dX3_uneven_30 ?_
    exact jg_iret cx dX3_uneven_31 (⟨by simp only [jk_uneven, c6, eu, ew, jk_tR_n hu hw, ↓reduceIte], by simp only [jk_uneven, c6, ↓reduceIte]⟩)
  · refine jg_bipush cx (v := (-2)) dX3_uneven_9 (by decide) ?_
    exact jg_iret cx dX3_uneven_11 (⟨(by first | with_reducible rfl | (simp only [jk_uneven, c6, ↓reduceIte, Bool.false_eq_true, Bool.true_eq_false, reduceCtorEq, eq_self, if_true, if_false, Bool.not_true, Bool.not_false]; first | done | rfl)), (by first | with_reducible rfl | (simp only [jk_uneven, c6, ↓reduceIte, Bool.false_eq_true, Bool.true_eq_false, reduceCtorEq, eq_self, if_true, if_false, Bool.not_true, Bool.not_false]; first | done | rfl))⟩)
def jk_sum (M : jf_B) (r : Nat) : Nat → Int32
  | 0 => nI 0
  | i + 1 => jk_sum M r i + M 1 (r + i)
set_option maxHeartbeats 1000000 in
set_option maxRecDepth 100000 in
theorem jc_X3_sumOf (E : jp_E) (l : Launch) {h : jp_H} {M : jf_B} {L : jf_L} {r : Nat} (hr : r ≤ 8) : jc_M E l yX3_sumOf wsX3_sumOf ({ frames := 0, cells := 0, slots := 0, locals := 0 } : Room) [.ref (E.2.1 7 0), .int (nI r)] (jp_u h 7 M L) (jp_R (some (.int (jk_sum M r 8))) (jp_u h 7 (M) L)) := by
  refine jc_of (cc := cX3_sumOf) (maxL := 4) (ret := some .int) (own := RX3) (lv := [(0, _), (1, _)]) (by decide) rfl rfl (Nat.le_of_ble_eq_true rfl) rfl (fun X cx => ?_)
  have inX3 : ∀ w ∈ u_ws RX3 TX3 11, w ∈ wsX3_sumOf := by decide +kernel
  have f7 : Cond.fieldLink RX3 7 "JobSpreadModel" "state" "[I" ∈ wsX3_sumOf := by decide +kernel
  refine jg_iconst cx (v := nI 0) dX3_sumOf_0 (by decide) ?_
  refine jg_istore_n cx (lv' := [(0, _), (1, _), (2, _)]) dX3_sumOf_1 (by decide) rfl ?_
  refine jg_iconst cx (v := nI 0) dX3_sumOf_2 (by decide) ?_
  refine jg_istore_n cx (lv' := [(0, _), (1, _), (2, _), (3, _)]) dX3_sumOf_3 (by decide) rfl ?_
  have lp4 : ∀ (d4 i : Nat), i + d4 = 8 → X 4 [(0, .ref (E.2.1 7 0)), (1, .int (nI r)), (2, .int (jk_sum M r i)), (3, .int (nI i))] [] (jp_u h 7 M L) := by
    intro d4
    induction d4 with
    | zero =>
      intro i  hr4 
      obtain rfl : i = 8 := by omega
      refine jg_iload_n cx dX3_sumOf_4 rfl ?_
      refine jg_bipush cx (v := nI 8) dX3_sumOf_5 (by decide) ?_
      refine jg_icmpN_ge cx (tgt := 27) dX3_sumOf_7 (by decide) (by omega) (by omega) (fun c7 => ?_) (fun c7 => ?_)
      · refine jg_iload_n cx dX3_sumOf_27 rfl ?_
        exact jg_iret cx dX3_sumOf_28 (⟨rfl, rfl⟩)
      · exact absurd hr4 (by omega)
    | succ d4 ih4 =>
      intro i  hr4 
      refine jg_iload_n cx dX3_sumOf_4 rfl ?_
      refine jg_bipush cx (v := nI 8) dX3_sumOf_5 (by decide) ?_
      refine jg_icmpN_ge cx (tgt := 27) dX3_sumOf_7 (by decide) (by omega) (by omega) (fun c7 => ?_) (fun c7 => ?_)
      · exact absurd hr4 (by omega)
      · refine jg_iload_n cx dX3_sumOf_10 rfl ?_
        refine jg_aload_n cx dX3_sumOf_11 rfl ?_
        refine jg_get cx jp_mo_o rfl inX3 0 (by decide) f7 rfl dX3_sumOf_12 ?_
        refine jg_iload_n cx dX3_sumOf_15 rfl ?_
        refine jg_iload_n cx dX3_sumOf_16 rfl ?_
        refine jg_iaddN cx dX3_sumOf_17 ?_
        refine jg_ialdU cx dX3_sumOf_18 (jp_mo_1) rfl (by omega) ?_
        refine jg_iadd cx dX3_sumOf_19 ?_
        refine jg_istore_n cx (lv' := [(0, _), (1, _), (2, _), (3, _)]) dX3_sumOf_20 (by decide) rfl ?_
        refine jg_iincN cx (d := 1) (lv' := [(0, _), (1, _), (2, _), (3, _)]) dX3_sumOf_21 rfl (by decide) (by decide) rfl ?_
        refine jg_goto cx (tgt := 4) dX3_sumOf_24 (by decide) ?_
        exact jg_to (ih4 (i + 1)  (by omega) ) rfl rfl rfl
  exact jg_to (lp4 8 0  (by omega) ) rfl rfl rfl
def jk_share (x pa : Int32) (M : jf_B) : Int32 :=
  if jf_within x (nI 0) (nI 7) then
    (if jf_within pa (nI 0) (nI 1) then
      (if 0 ≤ jk_sum M 8 8 then (jk_tR (jk_sum M 8 8 * M 1 (0 + x.toNatClampNeg)).toInt64 (jk_sum M 0 8).toInt64 pa).toInt32 else -3)
    else -2)
  else -1
set_option maxHeartbeats 1000000 in
set_option maxRecDepth 100000 in
theorem jc_X3_share (E : jp_E) (l : Launch) {h : jp_H} {M : jf_B} {L : jf_L} {x pa : Int32} (hf : ∀ i, i < 8 → 0 ≤ jk_sum M 8 8 → jk_fr (jk_sum M 8 8 * M 1 (0 + i)).toInt64 (jk_sum M 0 8).toInt64) : jc_M E l yX3_share wsX3_share ({ frames := 2, cells := 0, slots := 0, locals := 55 } : Room) [.ref (E.2.1 7 0), .int x, .int pa] (jp_u h 7 M L) (jp_R (some (.int (jk_share x pa M))) (jp_u h 7 (M) L)) := by
  refine jc_of (cc := cX3_share) (maxL := 3) (ret := some .int) (own := RX3) (lv := [(0, _), (1, _), (2, _)]) (by decide) rfl rfl (Nat.le_of_ble_eq_true rfl) rfl (fun X cx => ?_)
  have inX3 : ∀ w ∈ u_ws RX3 TX3 11, w ∈ wsX3_share := by decide +kernel
  have f7 : Cond.fieldLink RX3 7 "JobSpreadModel" "state" "[I" ∈ wsX3_share := by decide +kernel
  refine jg_iload_n cx dX3_share_0 rfl ?_
  refine jg_callSi cx (n := 1) (jc_X3_isNode E l) gX3_share_X3_isNode rfl ⟨rfl, rfl⟩ ⟨(Nat.le_of_ble_eq_true rfl), (Nat.le_of_ble_eq_true rfl)⟩ (by decide +kernel) rfl rfl (Nat.le_of_ble_eq_true rfl) dX3_share_1 ?_
  refine jg_ifb_ne cx (tgt := 9) dX3_share_4 (by decide) (fun c4 => ?_) (fun c4 => ?_)
  · obtain ⟨i, hi, rfl⟩ := jf_node_of c4
    have ei : (nI i).toNatClampNeg = i := nI_clamp (by omega)
    refine jg_iload_n cx dX3_share_9 rfl ?_
    refine jg_iconst cx (v := nI 0) dX3_share_10 (by decide) ?_
    refine jg_iconst cx (v := nI 1) dX3_share_11 (by decide) ?_
    refine jg_callSi cx (n := 3) (jc_X3_in E l) gX3_share_X3_in rfl ⟨rfl, rfl⟩ ⟨(Nat.le_of_ble_eq_true rfl), (Nat.le_of_ble_eq_true rfl)⟩ (by decide +kernel) rfl rfl (Nat.le_of_ble_eq_true rfl) dX3_share_12 ?_
    refine jg_ifb_ne cx (tgt := 21) dX3_share_15 (by decide) (fun c15 => ?_) (fun c15 => ?_)
    · refine jg_aload_n cx dX3_share_21 rfl ?_
      refine jg_bipush cx (v := nI 8) dX3_share_22 (by decide) ?_
      refine jg_callVi cx (n := 1) (jc_X3_sumOf E l (by decide)) gX3_share_X3_sumOf rfl ⟨rfl, rfl⟩ ⟨(Nat.le_of_ble_eq_true rfl), (Nat.le_of_ble_eq_true rfl)⟩ (by decide +kernel) jp_mo_o rfl rfl rfl (Nat.le_of_ble_eq_true rfl) dX3_share_24 ?_
      refine jg_if_ge cx (tgt := 33) dX3_share_27 (by decide) (fun c27 => ?_) (fun c27 => ?_)
      · obtain ⟨⟨u, hu, eu⟩, w, hw, h0, ew⟩ := hf i hi c27
        refine jg_aload_n cx dX3_share_33 rfl ?_
        refine jg_bipush cx (v := nI 8) dX3_share_34 (by decide) ?_
        refine jg_callVi cx (n := 1) (jc_X3_sumOf E l (by decide)) gX3_share_X3_sumOf rfl ⟨rfl, rfl⟩ ⟨(Nat.le_of_ble_eq_true rfl), (Nat.le_of_ble_eq_true rfl)⟩ (by decide +kernel) jp_mo_o rfl rfl rfl (Nat.le_of_ble_eq_true rfl) dX3_share_36 ?_
        refine jg_aload_n cx dX3_share_39 rfl ?_
        refine jg_get cx jp_mo_o rfl inX3 0 (by decide) f7 rfl dX3_share_40 ?_
        refine jg_iconst cx (v := nI 0) dX3_share_43 (by decide) ?_
        refine jg_iload_n cx dX3_share_44 rfl ?_
        refine jg_iaddN cx dX3_share_45 ?_
        refine jg_ialdU cx dX3_share_46 (jp_mo_1) rfl (by omega) ?_
        refine jg_imul cx dX3_share_47 ?_
        refine jg_i2l cx dX3_share_48 ?_
        rw [eu]
        refine jg_aload_n cx dX3_share_49 rfl ?_
        refine jg_iconst cx (v := nI 0) dX3_share_50 (by decide) ?_
        refine jg_callVi cx (n := 1) (jc_X3_sumOf E l (by decide)) gX3_share_X3_sumOf rfl ⟨rfl, rfl⟩ ⟨(Nat.le_of_ble_eq_true rfl), (Nat.le_of_ble_eq_true rfl)⟩ (by decide +kernel) jp_mo_o rfl rfl rfl (Nat.le_of_ble_eq_true rfl) dX3_share_51 ?_
        refine jg_i2l cx dX3_share_54 ?_
        rw [ew]
        refine jg_iload_n cx dX3_share_55 rfl ?_
        refine jg_callSl cx (n := 3) (jc_X3_told_ E l hu hw h0) gX3_share_X3_told_ rfl ⟨rfl, rfl⟩ ⟨(Nat.le_of_ble_eq_true rfl), (Nat.le_of_ble_eq_true rfl)⟩ (by decide +kernel) rfl rfl (Nat.le_of_ble_eq_true rfl) dX3_share_56 ?_
        refine jg_l2i cx dX3_share_59 ?_
        exact jg_iret cx dX3_share_60 (⟨by simp only [jk_share, c4, c15, if_pos c27, ei, eu, ew, jk_tR_n hu hw, ↓reduceIte], rfl⟩)
      · refine jg_bipush cx (v := (-3)) dX3_share_30 (by decide) ?_
        exact jg_iret cx dX3_share_32 (⟨(by first | with_reducible rfl | (simp only [jk_share, c4, c15, if_neg c27, ↓reduceIte, Bool.false_eq_true, Bool.true_eq_false, reduceCtorEq, eq_self, if_true, if_false, Bool.not_true, Bool.not_false]; first | done | rfl)), rfl⟩)
    · refine jg_bipush cx (v := (-2)) dX3_share_18 (by decide) ?_
      exact jg_iret cx dX3_share_20 (⟨(by first | with_reducible rfl | (simp only [jk_share, c4, c15, ↓reduceIte, Bool.false_eq_true, Bool.true_eq_false, reduceCtorEq, eq_self, if_true, if_false, Bool.not_true, Bool.not_false]; first | done | rfl)), rfl⟩)
  · refine jg_iconst cx (v := (-1)) dX3_share_7 (by decide) ?_
    exact jg_iret cx dX3_share_8 (⟨(by first | with_reducible rfl | (simp only [jk_share, c4, ↓reduceIte, Bool.false_eq_true, Bool.true_eq_false, reduceCtorEq, eq_self, if_true, if_false, Bool.not_true, Bool.not_false]; first | done | rfl)), rfl⟩)
def jk_off (M : jf_B) (i : Nat) : Int64 := (M 1 (8 + i)).toInt64 * (jk_sum M 0 8).toInt64 - (jk_sum M 8 8).toInt64 * (M 1 (0 + i)).toInt64
def jk_pot (M : jf_B) : Nat → Int64
  | 0 => 0
  | n + 1 => jk_pot M n + jk_off M n * jk_off M n
set_option maxHeartbeats 1000000 in
set_option maxRecDepth 100000 in
theorem jc_X3_potential (E : jp_E) (l : Launch) {h : jp_H} {M : jf_B} {L : jf_L}  : jc_M E l yX3_potential wsX3_potential ({ frames := 1, cells := 0, slots := 0, locals := 23 } : Room) [.ref (E.2.1 7 0)] (jp_u h 7 M L) (jp_R (some (.long (jk_pot M 8))) (jp_u h 7 M L)) := by
  refine jc_of (cc := cX3_potential) (maxL := 6) (ret := some .long) (own := RX3) (lv := [(0, _)]) (by decide) rfl rfl (Nat.le_of_ble_eq_true rfl) rfl (fun X cx => ?_)
  have inX3 : ∀ w ∈ u_ws RX3 TX3 11, w ∈ wsX3_potential := by decide +kernel
  have f7 : Cond.fieldLink RX3 7 "JobSpreadModel" "state" "[I" ∈ wsX3_potential := by decide +kernel
  refine jg_lconst cx (v := 0) dX3_potential_0 rfl ?_
  refine jg_lstore_n cx (lv' := [(0, _), (1, _)]) dX3_potential_1 (by decide) rfl ?_
  refine jg_iconst cx (v := nI 0) dX3_potential_2 (by decide) ?_
  refine jg_istore_n cx (lv' := [(0, _), (1, _), (3, _)]) dX3_potential_3 (by decide) rfl ?_
  have lp4 : ∀ (d4 i : Nat), i + d4 = 8 → X 4 [(0, .ref (E.2.1 7 0)), (1, .long (jk_pot M i)), (3, .int (nI i))] [] (jp_u h 7 M L) := by
    intro d4
    induction d4 with
    | zero =>
      intro i  hr4 
      obtain rfl : i = 8 := by omega
      refine jg_iload_n cx dX3_potential_4 rfl ?_
      refine jg_bipush cx (v := nI 8) dX3_potential_5 (by decide) ?_
      refine jg_icmpN_ge cx (tgt := 61) dX3_potential_7 (by decide) (by omega) (by omega) (fun c7 => ?_) (fun c7 => ?_)
      · refine jg_lload_n cx dX3_potential_61 rfl ?_
        exact jg_lret cx dX3_potential_62 (⟨rfl, rfl⟩)
      · exact absurd hr4 (by omega)
    | succ d4 ih4 =>
      intro i  hr4 
      refine jg_iload_n cx dX3_potential_4 rfl ?_
      refine jg_bipush cx (v := nI 8) dX3_potential_5 (by decide) ?_
      refine jg_icmpN_ge cx (tgt := 61) dX3_potential_7 (by decide) (by omega) (by omega) (fun c7 => ?_) (fun c7 => ?_)
      · exact absurd hr4 (by omega)
      · refine jg_aload_n cx dX3_potential_10 rfl ?_
        refine jg_get cx jp_mo_o rfl inX3 0 (by decide) f7 rfl dX3_potential_11 ?_
        refine jg_bipush cx (v := nI 8) dX3_potential_14 (by decide) ?_
        refine jg_iload_n cx dX3_potential_16 rfl ?_
        refine jg_iaddN cx dX3_potential_17 ?_
        refine jg_ialdU cx dX3_potential_18 (jp_mo_1) rfl (by omega) ?_
        refine jg_i2l cx dX3_potential_19 ?_
        refine jg_aload_n cx dX3_potential_20 rfl ?_
        refine jg_iconst cx (v := nI 0) dX3_potential_21 (by decide) ?_
        refine jg_callVi cx (n := 1) (jc_X3_sumOf E l (by decide)) gX3_potential_X3_sumOf rfl ⟨rfl, rfl⟩ ⟨(Nat.le_of_ble_eq_true rfl), (Nat.le_of_ble_eq_true rfl)⟩ (by decide +kernel) jp_mo_o rfl rfl rfl (Nat.le_of_ble_eq_true rfl) dX3_potential_22 ?_
        refine jg_i2l cx dX3_potential_25 ?_
        refine jg_lmul cx dX3_potential_26 ?_
        refine jg_aload_n cx dX3_potential_27 rfl ?_
        refine jg_bipush cx (v := nI 8) dX3_potential_28 (by decide) ?_
        refine jg_callVi cx (n := 1) (jc_X3_sumOf E l (by decide)) gX3_potential_X3_sumOf rfl ⟨rfl, rfl⟩ ⟨(Nat.le_of_ble_eq_true rfl), (Nat.le_of_ble_eq_true rfl)⟩ (by decide +kernel) jp_mo_o rfl rfl rfl (Nat.le_of_ble_eq_true rfl) dX3_potential_30 ?_
        refine jg_i2l cx dX3_potential_33 ?_
        refine jg_aload_n cx dX3_potential_34 rfl ?_
        refine jg_get cx jp_mo_o rfl inX3 0 (by decide) f7 rfl dX3_potential_35 ?_
        refine jg_iconst cx (v := nI 0) dX3_potential_38 (by decide) ?_
        refine jg_iload_n cx dX3_potential_39 rfl ?_
        refine jg_iaddN cx dX3_potential_40 ?_
        refine jg_ialdU cx dX3_potential_41 (jp_mo_1) rfl (by omega) ?_
        refine jg_i2l cx dX3_potential_42 ?_
        refine jg_lmul cx dX3_potential_43 ?_
        refine jg_lsub cx dX3_potential_44 ?_
        refine jg_lstore cx (lv' := [(0, _), (1, _), (3, _), (4, _)]) dX3_potential_45 (by decide) rfl ?_
        refine jg_lload_n cx dX3_potential_47 rfl ?_
        refine jg_lload cx dX3_potential_48 rfl ?_
        refine jg_lload cx dX3_potential_50 rfl ?_
        refine jg_lmul cx dX3_potential_52 ?_
        refine jg_ladd cx dX3_potential_53 ?_
        refine jg_lstore_n cx (lv' := [(0, _), (1, _), (3, _), (4, _)]) dX3_potential_54 (by decide) rfl ?_
        refine jg_iincN cx (d := 1) (lv' := [(0, _), (1, _), (3, _), (4, _)]) dX3_potential_55 rfl (by decide) (by decide) rfl ?_
        refine jg_goto cx (tgt := 4) dX3_potential_58 (by decide) ?_
        refine jg_sub cx (lv' := [(0, _), (1, _), (3, _)]) [0, 1, 2] rfl ?_
        exact jg_to (ih4 (i + 1)  (by omega) ) (by first | with_reducible rfl | (simp only [jk_pot, jk_off, ↓reduceIte, Bool.false_eq_true, Bool.true_eq_false, reduceCtorEq, eq_self, if_true, if_false, Bool.not_true, Bool.not_false]; first | done | rfl)) (by first | with_reducible rfl | (simp only [jk_pot, jk_off, ↓reduceIte, Bool.false_eq_true, Bool.true_eq_false, reduceCtorEq, eq_self, if_true, if_false, Bool.not_true, Bool.not_false]; first | done | rfl)) (by first | with_reducible rfl | (simp only [jk_pot, jk_off, ↓reduceIte, Bool.false_eq_true, Bool.true_eq_false, reduceCtorEq, eq_self, if_true, if_false, Bool.not_true, Bool.not_false]; first | done | rfl))
  exact jg_to (lp4 8 0  (by omega) ) rfl rfl rfl
def jk_i1 (me : Int32) (n : Nat) (L : jf_L) : jf_L := jf_wL L 7 n (me.toInt64 * L 6 n)
def jk_iW (M : jf_B) (L : jf_L) (i : Nat) : Int64 := L 6 (i / 8) * (M 1 (0 + i % 8)).toInt64 - L 6 (i % 8) * (M 1 (0 + i / 8)).toInt64
def jk_i2 (M : jf_B) (i : Nat) (L : jf_L) : jf_L := if M 1 (24 + i) < 0 then L else jf_wL (jf_wL L 7 (i / 8) (L 7 (i / 8) - jk_iW M L i)) 7 (i % 8) (jf_wL L 7 (i / 8) (L 7 (i / 8) - jk_iW M L i) 7 (i % 8) + jk_iW M L i)
def jk_i3 (n : Nat) (L : jf_L) : jf_L := jf_wL L 6 n (L 7 n)
def jk_iA (me : Int32) (L : jf_L) (i : Nat) : jf_L := jf_it (jk_i1 me) L i
def jk_iB (M : jf_B) (me : Int32) (L : jf_L) (i : Nat) : jf_L := jf_it (jk_i2 M) (jk_iA me L 8) i
def jk_iC (M : jf_B) (me : Int32) (L : jf_L) (i : Nat) : jf_L := jf_it jk_i3 (jk_iB M me L 64) i
theorem jk_iB_s (M : jf_B) (me : Int32) (L : jf_L) (i : Nat) : jk_iB M me L (i + 1) = jk_i2 M i (jk_iB M me L i) := rfl
theorem jk_iB_0 (M : jf_B) (me : Int32) (L : jf_L) : jk_iB M me L 0 = jk_iA me L 8 := rfl
theorem jk_iC_0 (M : jf_B) (me : Int32) (L : jf_L) : jk_iC M me L 0 = jk_iB M me L 64 := rfl
def jk_iR (M : jf_B) (me : Int32) (L : jf_L) : jf_L := jk_iC M me L 8
set_option maxHeartbeats 1000000 in
set_option maxRecDepth 100000 in
theorem jc_X3_idealRound (E : jp_E) (l : Launch) {h : jp_H} {M : jf_B} {L : jf_L} {me : Int32} : jc_M E l yX3_idealRound wsX3_idealRound ({ frames := 0, cells := 0, slots := 0, locals := 0 } : Room) [.ref (E.2.1 7 0), .int me] (jp_u h 7 M L) (jp_R none (jp_u h 7 M (jk_iR M me L))) := by
  refine jc_of (cc := cX3_idealRound) (maxL := 5) (ret := none) (own := RX3) (lv := [(0, _), (1, _)]) (by decide) rfl rfl (Nat.le_of_ble_eq_true rfl) rfl (fun X cx => ?_)
  have inX3 : ∀ w ∈ u_ws RX3 TX3 11, w ∈ wsX3_idealRound := by decide +kernel
  have f7 : Cond.fieldLink RX3 7 "JobSpreadModel" "state" "[I" ∈ wsX3_idealRound := by decide +kernel
  have f26 : Cond.fieldLink RX3 26 "JobSpreadModel" "parts" "[J" ∈ wsX3_idealRound := by decide +kernel
  have f30 : Cond.fieldLink RX3 30 "JobSpreadModel" "partsNext" "[J" ∈ wsX3_idealRound := by decide +kernel
  refine jg_iconst cx (v := nI 0) dX3_idealRound_0 (by decide) ?_
  refine jg_istore_n cx (lv' := [(0, _), (1, _), (2, _)]) dX3_idealRound_1 (by decide) rfl ?_
  have lp2 : ∀ (d2 i : Nat), i + d2 = 8 → X 2 [(0, .ref (E.2.1 7 0)), (1, .int me), (2, .int (nI i))] [] (jp_u h 7 M (jk_iA me L i)) := by
    intro d2
    induction d2 with
    | zero =>
      intro i  hr2 
      obtain rfl : i = 8 := by omega
      refine jg_iload_n cx dX3_idealRound_2 rfl ?_
      refine jg_bipush cx (v := nI 8) dX3_idealRound_3 (by decide) ?_
      refine jg_icmpN_ge cx (tgt := 29) dX3_idealRound_5 (by decide) (by omega) (by omega) (fun c5 => ?_) (fun c5 => ?_)
      · refine jg_iconst cx (v := nI 0) dX3_idealRound_29 (by decide) ?_
        refine jg_istore_n cx (lv' := [(0, _), (1, _), (2, _)]) dX3_idealRound_30 (by decide) rfl ?_
        have lp31 : ∀ (d31 i : Nat), i + d31 = 64 → X 31 [(0, .ref (E.2.1 7 0)), (1, .int me), (2, .int (nI i))] [] (jp_u h 7 M (jk_iB M me L i)) := by
          intro d31
          induction d31 with
          | zero =>
            intro i  hr31 
            obtain rfl : i = 64 := by omega
            refine jg_iload_n cx dX3_idealRound_31 rfl ?_
            refine jg_bipush cx (v := nI 64) dX3_idealRound_32 (by decide) ?_
            refine jg_icmpN_ge cx (tgt := 127) dX3_idealRound_34 (by decide) (by omega) (by omega) (fun c34 => ?_) (fun c34 => ?_)
            · refine jg_iconst cx (v := nI 0) dX3_idealRound_127 (by decide) ?_
              refine jg_istore_n cx (lv' := [(0, _), (1, _), (2, _)]) dX3_idealRound_128 (by decide) rfl ?_
              have lp129 : ∀ (d129 i : Nat), i + d129 = 8 → X 129 [(0, .ref (E.2.1 7 0)), (1, .int me), (2, .int (nI i))] [] (jp_u h 7 M (jk_iC M me L i)) := by
                intro d129
                induction d129 with
                | zero =>
                  intro i  hr129 
                  obtain rfl : i = 8 := by omega
                  refine jg_iload_n cx dX3_idealRound_129 rfl ?_
                  refine jg_bipush cx (v := nI 8) dX3_idealRound_130 (by decide) ?_
                  refine jg_icmpN_ge cx (tgt := 153) dX3_idealRound_132 (by decide) (by omega) (by omega) (fun c132 => ?_) (fun c132 => ?_)
                  · exact jg_vret cx dX3_idealRound_153 (⟨rfl, (by first | with_reducible rfl | (simp only [jk_iR, ↓reduceIte, Bool.false_eq_true, Bool.true_eq_false, reduceCtorEq, eq_self, if_true, if_false, Bool.not_true, Bool.not_false]; first | done | rfl))⟩)
                  · exact absurd hr129 (by omega)
                | succ d129 ih129 =>
                  intro i  hr129 
                  refine jg_iload_n cx dX3_idealRound_129 rfl ?_
                  refine jg_bipush cx (v := nI 8) dX3_idealRound_130 (by decide) ?_
                  refine jg_icmpN_ge cx (tgt := 153) dX3_idealRound_132 (by decide) (by omega) (by omega) (fun c132 => ?_) (fun c132 => ?_)
                  · exact absurd hr129 (by omega)
                  · refine jg_aload_n cx dX3_idealRound_135 rfl ?_
                    refine jg_get cx jp_mo_o rfl inX3 8 (by decide) f26 rfl dX3_idealRound_136 ?_
                    refine jg_iload_n cx dX3_idealRound_139 rfl ?_
                    refine jg_aload_n cx dX3_idealRound_140 rfl ?_
                    refine jg_get cx jp_mo_o rfl inX3 9 (by decide) f30 rfl dX3_idealRound_141 ?_
                    refine jg_iload_n cx dX3_idealRound_144 rfl ?_
                    refine jg_laldU cx dX3_idealRound_145 (jp_mo_7) rfl (by omega) ?_
                    refine jg_lastU cx dX3_idealRound_146 (jp_mo_6) rfl (by omega) ?_
                    refine jg_iincN cx (d := 1) (lv' := [(0, _), (1, _), (2, _)]) dX3_idealRound_147 rfl (by decide) (by decide) rfl ?_
                    refine jg_goto cx (tgt := 129) dX3_idealRound_150 (by decide) ?_
                    exact jg_to (ih129 (i + 1)  (by omega) ) rfl rfl rfl
              exact jg_to (lp129 8 0  (by omega) ) rfl rfl (by first | with_reducible rfl | (simp only [jk_iC_0, ↓reduceIte, Bool.false_eq_true, Bool.true_eq_false, reduceCtorEq, eq_self, if_true, if_false, Bool.not_true, Bool.not_false]; first | done | rfl))
            · exact absurd hr31 (by omega)
          | succ d31 ih31 =>
            intro i  hr31 
            refine jg_iload_n cx dX3_idealRound_31 rfl ?_
            refine jg_bipush cx (v := nI 64) dX3_idealRound_32 (by decide) ?_
            refine jg_icmpN_ge cx (tgt := 127) dX3_idealRound_34 (by decide) (by omega) (by omega) (fun c34 => ?_) (fun c34 => ?_)
            · exact absurd hr31 (by omega)
            · refine jg_aload_n cx dX3_idealRound_37 rfl ?_
              refine jg_get cx jp_mo_o rfl inX3 0 (by decide) f7 rfl dX3_idealRound_38 ?_
              refine jg_bipush cx (v := nI 24) dX3_idealRound_41 (by decide) ?_
              refine jg_iload_n cx dX3_idealRound_43 rfl ?_
              refine jg_iaddN cx dX3_idealRound_44 ?_
              refine jg_ialdU cx dX3_idealRound_45 (jp_mo_1) rfl (by omega) ?_
              refine jg_if_lt cx (tgt := 121) dX3_idealRound_46 (by decide) (fun c46 => ?_) (fun c46 => ?_)
              · refine jg_iincN cx (d := 1) (lv' := [(0, _), (1, _), (2, _)]) dX3_idealRound_121 rfl (by decide) (by decide) rfl ?_
                refine jg_goto cx (tgt := 31) dX3_idealRound_124 (by decide) ?_
                exact jg_to (ih31 (i + 1)  (by omega) ) rfl rfl (by first | with_reducible rfl | (simp only [jk_iB_s, jk_i2, if_pos c46, ↓reduceIte, Bool.false_eq_true, Bool.true_eq_false, reduceCtorEq, eq_self, if_true, if_false, Bool.not_true, Bool.not_false]; first | done | rfl))
              · refine jg_aload_n cx dX3_idealRound_49 rfl ?_
                refine jg_get cx jp_mo_o rfl inX3 8 (by decide) f26 rfl dX3_idealRound_50 ?_
                refine jg_iload_n cx dX3_idealRound_53 rfl ?_
                refine jg_bipush cx (v := nI 8) dX3_idealRound_54 (by decide) ?_
                refine jg_idivN cx dX3_idealRound_56 (by omega) (by omega) (by omega) ?_
                refine jg_laldU cx dX3_idealRound_57 (jp_mo_6) rfl (by omega) ?_
                refine jg_aload_n cx dX3_idealRound_58 rfl ?_
                refine jg_get cx jp_mo_o rfl inX3 0 (by decide) f7 rfl dX3_idealRound_59 ?_
                refine jg_iconst cx (v := nI 0) dX3_idealRound_62 (by decide) ?_
                refine jg_iload_n cx dX3_idealRound_63 rfl ?_
                refine jg_bipush cx (v := nI 8) dX3_idealRound_64 (by decide) ?_
                refine jg_iremN cx dX3_idealRound_66 (by omega) (by omega) (by omega) ?_
                refine jg_iaddN cx dX3_idealRound_67 ?_
                refine jg_ialdU cx dX3_idealRound_68 (jp_mo_1) rfl (by omega) ?_
                refine jg_i2l cx dX3_idealRound_69 ?_
                refine jg_lmul cx dX3_idealRound_70 ?_
                refine jg_aload_n cx dX3_idealRound_71 rfl ?_
                refine jg_get cx jp_mo_o rfl inX3 8 (by decide) f26 rfl dX3_idealRound_72 ?_
                refine jg_iload_n cx dX3_idealRound_75 rfl ?_
                refine jg_bipush cx (v := nI 8) dX3_idealRound_76 (by decide) ?_
                refine jg_iremN cx dX3_idealRound_78 (by omega) (by omega) (by omega) ?_
                refine jg_laldU cx dX3_idealRound_79 (jp_mo_6) rfl (by omega) ?_
                refine jg_aload_n cx dX3_idealRound_80 rfl ?_
                refine jg_get cx jp_mo_o rfl inX3 0 (by decide) f7 rfl dX3_idealRound_81 ?_
                refine jg_iconst cx (v := nI 0) dX3_idealRound_84 (by decide) ?_
                refine jg_iload_n cx dX3_idealRound_85 rfl ?_
                refine jg_bipush cx (v := nI 8) dX3_idealRound_86 (by decide) ?_
                refine jg_idivN cx dX3_idealRound_88 (by omega) (by omega) (by omega) ?_
                refine jg_iaddN cx dX3_idealRound_89 ?_
                refine jg_ialdU cx dX3_idealRound_90 (jp_mo_1) rfl (by omega) ?_
                refine jg_i2l cx dX3_idealRound_91 ?_
                refine jg_lmul cx dX3_idealRound_92 ?_
                refine jg_lsub cx dX3_idealRound_93 ?_
                change X _ _ (.long (jk_iW M (jk_iB M me L i) i) :: []) _
                refine jg_lstore_n cx (lv' := [(0, _), (1, _), (2, _), (3, _)]) dX3_idealRound_94 (by decide) rfl ?_
                refine jg_aload_n cx dX3_idealRound_95 rfl ?_
                refine jg_get cx jp_mo_o rfl inX3 9 (by decide) f30 rfl dX3_idealRound_96 ?_
                refine jg_iload_n cx dX3_idealRound_99 rfl ?_
                refine jg_bipush cx (v := nI 8) dX3_idealRound_100 (by decide) ?_
                refine jg_idivN cx dX3_idealRound_102 (by omega) (by omega) (by omega) ?_
                refine jg_dup2 cx dX3_idealRound_103 rfl rfl ?_
                refine jg_laldU cx dX3_idealRound_104 (jp_mo_7) rfl (by omega) ?_
                refine jg_lload_n cx dX3_idealRound_105 rfl ?_
                refine jg_lsub cx dX3_idealRound_106 ?_
                refine jg_lastU cx dX3_idealRound_107 (jp_mo_7) rfl (by omega) ?_
                refine jg_aload_n cx dX3_idealRound_108 rfl ?_
                refine jg_get cx jp_mo_o rfl inX3 9 (by decide) f30 rfl dX3_idealRound_109 ?_
                refine jg_iload_n cx dX3_idealRound_112 rfl ?_
                refine jg_bipush cx (v := nI 8) dX3_idealRound_113 (by decide) ?_
                refine jg_iremN cx dX3_idealRound_115 (by omega) (by omega) (by omega) ?_
                refine jg_dup2 cx dX3_idealRound_116 rfl rfl ?_
                refine jg_laldU cx dX3_idealRound_117 (jp_mo_7) rfl (by omega) ?_
                refine jg_lload_n cx dX3_idealRound_118 rfl ?_
                refine jg_ladd cx dX3_idealRound_119 ?_
                refine jg_lastU cx dX3_idealRound_120 (jp_mo_7) rfl (by omega) ?_
                refine jg_iincN cx (d := 1) (lv' := [(0, _), (1, _), (2, _), (3, _)]) dX3_idealRound_121 rfl (by decide) (by decide) rfl ?_
                refine jg_goto cx (tgt := 31) dX3_idealRound_124 (by decide) ?_
                refine jg_sub cx (lv' := [(0, _), (1, _), (2, _)]) [0, 1, 2] rfl ?_
                exact jg_to (ih31 (i + 1)  (by omega) ) rfl rfl (by first | with_reducible rfl | (simp only [jk_iB_s, jk_i2, if_neg c46, ↓reduceIte, Bool.false_eq_true, Bool.true_eq_false, reduceCtorEq, eq_self, if_true, if_false, Bool.not_true, Bool.not_false]; first | done | rfl))
        exact jg_to (lp31 64 0  (by omega) ) rfl rfl (by first | with_reducible rfl | (simp only [jk_iB_0, ↓reduceIte, Bool.false_eq_true, Bool.true_eq_false, reduceCtorEq, eq_self, if_true, if_false, Bool.not_true, Bool.not_false]; first | done | rfl))
      · exact absurd hr2 (by omega)
    | succ d2 ih2 =>
      intro i  hr2 
      refine jg_iload_n cx dX3_idealRound_2 rfl ?_
      refine jg_bipush cx (v := nI 8) dX3_idealRound_3 (by decide) ?_
      refine jg_icmpN_ge cx (tgt := 29) dX3_idealRound_5 (by decide) (by omega) (by omega) (fun c5 => ?_) (fun c5 => ?_)
      · exact absurd hr2 (by omega)
      · refine jg_aload_n cx dX3_idealRound_8 rfl ?_
        refine jg_get cx jp_mo_o rfl inX3 9 (by decide) f30 rfl dX3_idealRound_9 ?_
        refine jg_iload_n cx dX3_idealRound_12 rfl ?_
        refine jg_iload_n cx dX3_idealRound_13 rfl ?_
        refine jg_i2l cx dX3_idealRound_14 ?_
        refine jg_aload_n cx dX3_idealRound_15 rfl ?_
        refine jg_get cx jp_mo_o rfl inX3 8 (by decide) f26 rfl dX3_idealRound_16 ?_
        refine jg_iload_n cx dX3_idealRound_19 rfl ?_
        refine jg_laldU cx dX3_idealRound_20 (jp_mo_6) rfl (by omega) ?_
        refine jg_lmul cx dX3_idealRound_21 ?_
        refine jg_lastU cx dX3_idealRound_22 (jp_mo_7) rfl (by omega) ?_
        refine jg_iincN cx (d := 1) (lv' := [(0, _), (1, _), (2, _)]) dX3_idealRound_23 rfl (by decide) (by decide) rfl ?_
        refine jg_goto cx (tgt := 2) dX3_idealRound_26 (by decide) ?_
        exact jg_to (ih2 (i + 1)  (by omega) ) rfl rfl rfl
  exact jg_to (lp2 8 0  (by omega) ) rfl rfl rfl
def jk_any (M : jf_B) : Nat → Bool
  | 0 => false
  | i + 1 => if jk_any M i then true else if 0 ≤ M 1 (8 + i) then false else true
set_option maxHeartbeats 1000000 in
set_option maxRecDepth 100000 in
theorem jc_X3_isAnyBelow (E : jp_E) (l : Launch) {h : jp_H} {M : jf_B} {L : jf_L}  : jc_M E l yX3_isAnyBelow wsX3_isAnyBelow ({ frames := 0, cells := 0, slots := 0, locals := 0 } : Room) [.ref (E.2.1 7 0)] (jp_u h 7 M L) (jp_R (some (.int (jp_b (jk_any M 8)))) (jp_u h 7 (M) L)) := by
  refine jc_of (cc := cX3_isAnyBelow) (maxL := 3) (ret := some .boolean) (own := RX3) (lv := [(0, _)]) (by decide) rfl rfl (Nat.le_of_ble_eq_true rfl) rfl (fun X cx => ?_)
  have inX3 : ∀ w ∈ u_ws RX3 TX3 11, w ∈ wsX3_isAnyBelow := by decide +kernel
  have f7 : Cond.fieldLink RX3 7 "JobSpreadModel" "state" "[I" ∈ wsX3_isAnyBelow := by decide +kernel
  refine jg_iconst cx (v := jp_b false) dX3_isAnyBelow_0 (by decide) ?_
  refine jg_istore_n cx (lv' := [(0, _), (1, _)]) dX3_isAnyBelow_1 (by decide) rfl ?_
  refine jg_iconst cx (v := nI 0) dX3_isAnyBelow_2 (by decide) ?_
  refine jg_istore_n cx (lv' := [(0, _), (1, _), (2, _)]) dX3_isAnyBelow_3 (by decide) rfl ?_
  have lp4 : ∀ (d4 i : Nat), i + d4 = 8 → X 4 [(0, .ref (E.2.1 7 0)), (1, .int (jp_b (jk_any M i))), (2, .int (nI i))] [] (jp_u h 7 M L) := by
    intro d4
    induction d4 with
    | zero =>
      intro i  hr4 
      obtain rfl : i = 8 := by omega
      refine jg_iload_n cx dX3_isAnyBelow_4 rfl ?_
      refine jg_bipush cx (v := nI 8) dX3_isAnyBelow_5 (by decide) ?_
      refine jg_icmpN_ge cx (tgt := 38) dX3_isAnyBelow_7 (by decide) (by omega) (by omega) (fun c7 => ?_) (fun c7 => ?_)
      · refine jg_iload_n cx dX3_isAnyBelow_38 rfl ?_
        exact jg_bret cx dX3_isAnyBelow_39 (⟨rfl, rfl⟩)
      · exact absurd hr4 (by omega)
    | succ d4 ih4 =>
      intro i  hr4 
      refine jg_iload_n cx dX3_isAnyBelow_4 rfl ?_
      refine jg_bipush cx (v := nI 8) dX3_isAnyBelow_5 (by decide) ?_
      refine jg_icmpN_ge cx (tgt := 38) dX3_isAnyBelow_7 (by decide) (by omega) (by omega) (fun c7 => ?_) (fun c7 => ?_)
      · exact absurd hr4 (by omega)
      · refine jg_iload_n cx dX3_isAnyBelow_10 rfl ?_
        refine jg_ifb_ne cx (tgt := 26) dX3_isAnyBelow_11 (by decide) (fun c11 => ?_) (fun c11 => ?_)
        · refine jg_iconst cx (v := jp_b true) dX3_isAnyBelow_26 (by decide) ?_
          refine jg_goto cx (tgt := 31) dX3_isAnyBelow_27 (by decide) ?_
          refine jg_istore_n cx (lv' := [(0, _), (1, _), (2, _)]) dX3_isAnyBelow_31 (by decide) rfl ?_
          refine jg_iincN cx (d := 1) (lv' := [(0, _), (1, _), (2, _)]) dX3_isAnyBelow_32 rfl (by decide) (by decide) rfl ?_
          refine jg_goto cx (tgt := 4) dX3_isAnyBelow_35 (by decide) ?_
          exact jg_to (ih4 (i + 1)  (by omega) ) (by first | with_reducible rfl | (simp only [jk_any, c11, ↓reduceIte, Bool.false_eq_true, Bool.true_eq_false, reduceCtorEq, eq_self, if_true, if_false, Bool.not_true, Bool.not_false]; first | done | rfl)) (by first | with_reducible rfl | (simp only [jk_any, c11, ↓reduceIte, Bool.false_eq_true, Bool.true_eq_false, reduceCtorEq, eq_self, if_true, if_false, Bool.not_true, Bool.not_false]; first | done | rfl)) (by first | with_reducible rfl | (simp only [jk_any, c11, ↓reduceIte, Bool.false_eq_true, Bool.true_eq_false, reduceCtorEq, eq_self, if_true, if_false, Bool.not_true, Bool.not_false]; first | done | rfl))
        · refine jg_aload_n cx dX3_isAnyBelow_14 rfl ?_
          refine jg_get cx jp_mo_o rfl inX3 0 (by decide) f7 rfl dX3_isAnyBelow_15 ?_
          refine jg_bipush cx (v := nI 8) dX3_isAnyBelow_18 (by decide) ?_
          refine jg_iload_n cx dX3_isAnyBelow_20 rfl ?_
          refine jg_iaddN cx dX3_isAnyBelow_21 ?_
          refine jg_ialdU cx dX3_isAnyBelow_22 (jp_mo_1) rfl (by omega) ?_
          refine jg_if_ge cx (tgt := 30) dX3_isAnyBelow_23 (by decide) (fun c23 => ?_) (fun c23 => ?_)
          · refine jg_iconst cx (v := jp_b false) dX3_isAnyBelow_30 (by decide) ?_
            refine jg_istore_n cx (lv' := [(0, _), (1, _), (2, _)]) dX3_isAnyBelow_31 (by decide) rfl ?_
            refine jg_iincN cx (d := 1) (lv' := [(0, _), (1, _), (2, _)]) dX3_isAnyBelow_32 rfl (by decide) (by decide) rfl ?_
            refine jg_goto cx (tgt := 4) dX3_isAnyBelow_35 (by decide) ?_
            exact jg_to (ih4 (i + 1)  (by omega) ) (by first | with_reducible rfl | (simp only [jk_any, c11, if_pos c23, ↓reduceIte, Bool.false_eq_true, Bool.true_eq_false, reduceCtorEq, eq_self, if_true, if_false, Bool.not_true, Bool.not_false]; first | done | rfl)) (by first | with_reducible rfl | (simp only [jk_any, c11, if_pos c23, ↓reduceIte, Bool.false_eq_true, Bool.true_eq_false, reduceCtorEq, eq_self, if_true, if_false, Bool.not_true, Bool.not_false]; first | done | rfl)) (by first | with_reducible rfl | (simp only [jk_any, c11, if_pos c23, ↓reduceIte, Bool.false_eq_true, Bool.true_eq_false, reduceCtorEq, eq_self, if_true, if_false, Bool.not_true, Bool.not_false]; first | done | rfl))
          · refine jg_iconst cx (v := jp_b true) dX3_isAnyBelow_26 (by decide) ?_
            refine jg_goto cx (tgt := 31) dX3_isAnyBelow_27 (by decide) ?_
            refine jg_istore_n cx (lv' := [(0, _), (1, _), (2, _)]) dX3_isAnyBelow_31 (by decide) rfl ?_
            refine jg_iincN cx (d := 1) (lv' := [(0, _), (1, _), (2, _)]) dX3_isAnyBelow_32 rfl (by decide) (by decide) rfl ?_
            refine jg_goto cx (tgt := 4) dX3_isAnyBelow_35 (by decide) ?_
            exact jg_to (ih4 (i + 1)  (by omega) ) (by first | with_reducible rfl | (simp only [jk_any, c11, if_neg c23, ↓reduceIte, Bool.false_eq_true, Bool.true_eq_false, reduceCtorEq, eq_self, if_true, if_false, Bool.not_true, Bool.not_false]; first | done | rfl)) (by first | with_reducible rfl | (simp only [jk_any, c11, if_neg c23, ↓reduceIte, Bool.false_eq_true, Bool.true_eq_false, reduceCtorEq, eq_self, if_true, if_false, Bool.not_true, Bool.not_false]; first | done | rfl)) (by first | with_reducible rfl | (simp only [jk_any, c11, if_neg c23, ↓reduceIte, Bool.false_eq_true, Bool.true_eq_false, reduceCtorEq, eq_self, if_true, if_false, Bool.not_true, Bool.not_false]; first | done | rfl))
  exact jg_to (lp4 8 0  (by omega) ) rfl rfl rfl
def jk_d1 (M : jf_B) (n : Nat) (L : jf_L) : jf_L := jf_wL L 6 n (M 1 (8 + n)).toInt64
def jk_dA (M : jf_B) (L : jf_L) (i : Nat) : jf_L := jf_it (jk_d1 M) L i
def jk_dB (M : jf_B) (L : jf_L) (r : Nat) : jf_L := jf_it (fun _ K => jk_iR M (nI (jk_meas M)) K) (jk_dA M L 8) r
theorem jk_dB_0 (M : jf_B) (L : jf_L) : jk_dB M L 0 = jk_dA M L 8 := rfl
def jk_dD (M : jf_B) (r : Nat) : Int64 := jf_it (fun _ x => x * (nI (jk_meas M)).toInt64) 1 r
def jk_ideal (x r pa : Int32) (M : jf_B) (L : jf_L) : Int64 × jf_L :=
  if jf_within x (nI 0) (nI 7) then
    (if jf_within r (nI 0) (nI 8) then
      (if jf_within pa (nI 0) (nI 1) then
        (if jk_any M 8 then (-3, L) else (jk_tR (jk_dB M L r.toNatClampNeg 6 x.toNatClampNeg) (jk_dD M r.toNatClampNeg) pa, jk_dB M L r.toNatClampNeg))
      else (-2, L))
    else (-2, L))
  else (-1, L)
set_option maxHeartbeats 1000000 in
set_option maxRecDepth 100000 in
theorem jc_X3_ideal (E : jp_E) (l : Launch) {h : jp_H} {M : jf_B} {L : jf_L} {x r pa : Int32} (hf : ∀ i k, i < 8 → k ≤ 8 → jk_any M 8 = false → jk_fr (jk_dB M L k 6 i) (jk_dD M k)) : jc_M E l yX3_ideal wsX3_ideal ({ frames := 4, cells := 0, slots := 0, locals := 88 } : Room) [.ref (E.2.1 7 0), .int x, .int r, .int pa] (jp_u h 7 M L) (jp_R (some (.long (jk_ideal x r pa M L).1)) (jp_u h 7 M (jk_ideal x r pa M L).2)) := by
  refine jc_of (cc := cX3_ideal) (maxL := 7) (ret := some .long) (own := RX3) (lv := [(0, _), (1, _), (2, _), (3, _)]) (by decide) rfl rfl (Nat.le_of_ble_eq_true rfl) rfl (fun X cx => ?_)
  have inX3 : ∀ w ∈ u_ws RX3 TX3 11, w ∈ wsX3_ideal := by decide +kernel
  have f7 : Cond.fieldLink RX3 7 "JobSpreadModel" "state" "[I" ∈ wsX3_ideal := by decide +kernel
  have f26 : Cond.fieldLink RX3 26 "JobSpreadModel" "parts" "[J" ∈ wsX3_ideal := by decide +kernel
  refine jg_iload_n cx dX3_ideal_0 rfl ?_
  refine jg_callSi cx (n := 1) (jc_X3_isNode E l) gX3_ideal_X3_isNode rfl ⟨rfl, rfl⟩ ⟨(Nat.le_of_ble_eq_true rfl), (Nat.le_of_ble_eq_true rfl)⟩ (by decide +kernel) rfl rfl (Nat.le_of_ble_eq_true rfl) dX3_ideal_1 ?_
  refine jg_ifb_ne cx (tgt := 11) dX3_ideal_4 (by decide) (fun c4 => ?_) (fun c4 => ?_)
  · obtain ⟨i, hi, rfl⟩ := jf_node_of c4
    have ei : (nI i).toNatClampNeg = i := nI_clamp (by omega)
    refine jg_iload_n cx dX3_ideal_11 rfl ?_
    refine jg_iconst cx (v := nI 0) dX3_ideal_12 (by decide) ?_
    refine jg_bipush cx (v := nI 8) dX3_ideal_13 (by decide) ?_
    refine jg_callSi cx (n := 3) (jc_X3_in E l) gX3_ideal_X3_in rfl ⟨rfl, rfl⟩ ⟨(Nat.le_of_ble_eq_true rfl), (Nat.le_of_ble_eq_true rfl)⟩ (by decide +kernel) rfl rfl (Nat.le_of_ble_eq_true rfl) dX3_ideal_15 ?_
    refine jg_ifb_eq cx (tgt := 30) dX3_ideal_18 (by decide) (fun c18 => ?_) (fun c18 => ?_)
    · refine jg_ldc2 cx (v := (-2)) (by decide +kernel) dX3_ideal_30 ?_
      exact jg_lret cx dX3_ideal_33 (⟨(by first | with_reducible rfl | (simp only [jk_ideal, c4, c18, ↓reduceIte, Bool.false_eq_true, Bool.true_eq_false, reduceCtorEq, eq_self, if_true, if_false, Bool.not_true, Bool.not_false]; first | done | rfl)), (by first | with_reducible rfl | (simp only [jk_ideal, c4, c18, ↓reduceIte, Bool.false_eq_true, Bool.true_eq_false, reduceCtorEq, eq_self, if_true, if_false, Bool.not_true, Bool.not_false]; first | done | rfl))⟩)
    · obtain ⟨k, hk, rfl⟩ := jf_within_of (by decide) c18
      have ek : (nI k).toNatClampNeg = k := nI_clamp (by omega)
      refine jg_iload_n cx dX3_ideal_21 rfl ?_
      refine jg_iconst cx (v := nI 0) dX3_ideal_22 (by decide) ?_
      refine jg_iconst cx (v := nI 1) dX3_ideal_23 (by decide) ?_
      refine jg_callSi cx (n := 3) (jc_X3_in E l) gX3_ideal_X3_in rfl ⟨rfl, rfl⟩ ⟨(Nat.le_of_ble_eq_true rfl), (Nat.le_of_ble_eq_true rfl)⟩ (by decide +kernel) rfl rfl (Nat.le_of_ble_eq_true rfl) dX3_ideal_24 ?_
      refine jg_ifb_ne cx (tgt := 34) dX3_ideal_27 (by decide) (fun c27 => ?_) (fun c27 => ?_)
      · refine jg_aload_n cx dX3_ideal_34 rfl ?_
        refine jg_callVi cx (n := 0) (jc_X3_isAnyBelow E l) gX3_ideal_X3_isAnyBelow rfl ⟨rfl, rfl⟩ ⟨(Nat.le_of_ble_eq_true rfl), (Nat.le_of_ble_eq_true rfl)⟩ (by decide +kernel) jp_mo_o rfl rfl rfl (Nat.le_of_ble_eq_true rfl) dX3_ideal_35 ?_
        refine jg_ifb_eq cx (tgt := 45) dX3_ideal_38 (by decide) (fun c38 => ?_) (fun c38 => ?_)
        · obtain ⟨⟨u, hu, eu⟩, w, hw, h0, ew⟩ := hf i k hi hk c38
          refine jg_iconst cx (v := nI 0) dX3_ideal_45 (by decide) ?_
          refine jg_istore cx (lv' := [(0, _), (1, _), (2, _), (3, _), (4, _)]) dX3_ideal_46 (by decide) rfl ?_
          have lp48 : ∀ (d48 j : Nat), j + d48 = 8 → X 48 [(0, .ref (E.2.1 7 0)), (1, .int (nI i)), (2, .int (nI k)), (3, .int pa), (4, .int (nI j))] [] (jp_u h 7 M (jk_dA M L j)) := by
            intro d48
            induction d48 with
            | zero =>
              intro j  hr48 
              obtain rfl : j = 8 := by omega
              refine jg_iload cx dX3_ideal_48 rfl ?_
              refine jg_bipush cx (v := nI 8) dX3_ideal_50 (by decide) ?_
              refine jg_icmpN_ge cx (tgt := 79) dX3_ideal_52 (by decide) (by omega) (by omega) (fun c52 => ?_) (fun c52 => ?_)
              · refine jg_lconst cx (v := 1) dX3_ideal_79 rfl ?_
                refine jg_lstore cx (lv' := [(0, _), (1, _), (2, _), (3, _), (4, _)]) dX3_ideal_80 (by decide) rfl ?_
                refine jg_iconst cx (v := nI 0) dX3_ideal_82 (by decide) ?_
                refine jg_istore cx (lv' := [(0, _), (1, _), (2, _), (3, _), (4, _), (6, _)]) dX3_ideal_83 (by decide) rfl ?_
                have lp85 : ∀ (d85 q : Nat), q + d85 = k → X 85 [(0, .ref (E.2.1 7 0)), (1, .int (nI i)), (2, .int (nI k)), (3, .int pa), (4, .long (jk_dD M q)), (6, .int (nI q))] [] (jp_u h 7 M (jk_dB M L q)) := by
                  intro d85
                  induction d85 with
                  | zero =>
                    intro q  hr85 
                    refine jg_iload cx dX3_ideal_85 rfl ?_
                    refine jg_iload_n cx dX3_ideal_87 rfl ?_
                    refine jg_icmpN_ge cx (tgt := 115) dX3_ideal_88 (by decide) (by omega) (by omega) (fun c88 => ?_) (fun c88 => ?_)
                    · obtain rfl : q = k := by omega
                      refine jg_aload_n cx dX3_ideal_115 rfl ?_
                      refine jg_get cx jp_mo_o rfl inX3 8 (by decide) f26 rfl dX3_ideal_116 ?_
                      refine jg_iload_n cx dX3_ideal_119 rfl ?_
                      refine jg_laldU cx dX3_ideal_120 (jp_mo_6) rfl (by omega) ?_
                      rw [eu]
                      refine jg_lload cx dX3_ideal_121 rfl ?_
                      rw [ew]
                      refine jg_iload_n cx dX3_ideal_123 rfl ?_
                      refine jg_callSl cx (n := 3) (jc_X3_told_ E l hu hw h0) gX3_ideal_X3_told_ rfl ⟨rfl, rfl⟩ ⟨(Nat.le_of_ble_eq_true rfl), (Nat.le_of_ble_eq_true rfl)⟩ (by decide +kernel) rfl rfl (Nat.le_of_ble_eq_true rfl) dX3_ideal_124 ?_
                      exact jg_lret cx dX3_ideal_127 (⟨by simp only [jk_ideal, c4, c18, c27, c38, ei, ek, eu, ew, jk_tR_n hu hw, ↓reduceIte, Bool.false_eq_true], by simp only [jk_ideal, c4, c18, c27, c38, ei, ek, ↓reduceIte, Bool.false_eq_true]⟩)
                    · exact absurd hr85 (by omega)
                  | succ d85 ih85 =>
                    intro q  hr85 
                    refine jg_iload cx dX3_ideal_85 rfl ?_
                    refine jg_iload_n cx dX3_ideal_87 rfl ?_
                    refine jg_icmpN_ge cx (tgt := 115) dX3_ideal_88 (by decide) (by omega) (by omega) (fun c88 => ?_) (fun c88 => ?_)
                    · exact absurd hr85 (by omega)
                    · refine jg_aload_n cx dX3_ideal_91 rfl ?_
                      refine jg_aload_n cx dX3_ideal_92 rfl ?_
                      refine jg_callVi cx (n := 0) (jc_X3_measure E l) gX3_ideal_X3_measure rfl ⟨rfl, rfl⟩ ⟨(Nat.le_of_ble_eq_true rfl), (Nat.le_of_ble_eq_true rfl)⟩ (by decide +kernel) jp_mo_o rfl rfl rfl (Nat.le_of_ble_eq_true rfl) dX3_ideal_93 ?_
                      refine jg_callVv cx (n := 1) (jc_X3_idealRound E l) gX3_ideal_X3_idealRound rfl ⟨rfl, rfl⟩ ⟨(Nat.le_of_ble_eq_true rfl), (Nat.le_of_ble_eq_true rfl)⟩ (by decide +kernel) jp_mo_o rfl rfl rfl (Nat.le_of_ble_eq_true rfl) dX3_ideal_96 ?_
                      refine jg_lload cx dX3_ideal_99 rfl ?_
                      refine jg_aload_n cx dX3_ideal_101 rfl ?_
                      refine jg_callVi cx (n := 0) (jc_X3_measure E l) gX3_ideal_X3_measure rfl ⟨rfl, rfl⟩ ⟨(Nat.le_of_ble_eq_true rfl), (Nat.le_of_ble_eq_true rfl)⟩ (by decide +kernel) jp_mo_o rfl rfl rfl (Nat.le_of_ble_eq_true rfl) dX3_ideal_102 ?_
                      refine jg_i2l cx dX3_ideal_105 ?_
                      refine jg_lmul cx dX3_ideal_106 ?_
                      refine jg_lstore cx (lv' := [(0, _), (1, _), (2, _), (3, _), (4, _), (6, _)]) dX3_ideal_107 (by decide) rfl ?_
                      refine jg_iincN cx (d := 1) (lv' := [(0, _), (1, _), (2, _), (3, _), (4, _), (6, _)]) dX3_ideal_109 rfl (by decide) (by decide) rfl ?_
                      refine jg_goto cx (tgt := 85) dX3_ideal_112 (by decide) ?_
                      exact jg_to (ih85 (q + 1)  (by omega) ) rfl rfl rfl
                exact jg_to (lp85 k 0  (by omega) ) rfl rfl (by first | with_reducible rfl | (simp only [jk_dB_0, c4, c18, c27, c38, ↓reduceIte, Bool.false_eq_true, Bool.true_eq_false, reduceCtorEq, eq_self, if_true, if_false, Bool.not_true, Bool.not_false]; first | done | rfl))
              · exact absurd hr48 (by omega)
            | succ d48 ih48 =>
              intro j  hr48 
              refine jg_iload cx dX3_ideal_48 rfl ?_
              refine jg_bipush cx (v := nI 8) dX3_ideal_50 (by decide) ?_
              refine jg_icmpN_ge cx (tgt := 79) dX3_ideal_52 (by decide) (by omega) (by omega) (fun c52 => ?_) (fun c52 => ?_)
              · exact absurd hr48 (by omega)
              · refine jg_aload_n cx dX3_ideal_55 rfl ?_
                refine jg_get cx jp_mo_o rfl inX3 8 (by decide) f26 rfl dX3_ideal_56 ?_
                refine jg_iload cx dX3_ideal_59 rfl ?_
                refine jg_aload_n cx dX3_ideal_61 rfl ?_
                refine jg_get cx jp_mo_o rfl inX3 0 (by decide) f7 rfl dX3_ideal_62 ?_
                refine jg_bipush cx (v := nI 8) dX3_ideal_65 (by decide) ?_
                refine jg_iload cx dX3_ideal_67 rfl ?_
                refine jg_iaddN cx dX3_ideal_69 ?_
                refine jg_ialdU cx dX3_ideal_70 (jp_mo_1) rfl (by omega) ?_
                refine jg_i2l cx dX3_ideal_71 ?_
                refine jg_lastU cx dX3_ideal_72 (jp_mo_6) rfl (by omega) ?_
                refine jg_iincN cx (d := 1) (lv' := [(0, _), (1, _), (2, _), (3, _), (4, _)]) dX3_ideal_73 rfl (by decide) (by decide) rfl ?_
                refine jg_goto cx (tgt := 48) dX3_ideal_76 (by decide) ?_
                exact jg_to (ih48 (j + 1)  (by omega) ) rfl rfl rfl
          exact jg_to (lp48 8 0  (by omega) ) rfl rfl rfl
        · refine jg_ldc2 cx (v := (-3)) (by decide +kernel) dX3_ideal_41 ?_
          exact jg_lret cx dX3_ideal_44 (⟨by simp only [jk_ideal, c4, c18, c27, c38, ↓reduceIte], by simp only [jk_ideal, c4, c18, c27, c38, ↓reduceIte]⟩)
      · refine jg_ldc2 cx (v := (-2)) (by decide +kernel) dX3_ideal_30 ?_
        exact jg_lret cx dX3_ideal_33 (⟨(by first | with_reducible rfl | (simp only [jk_ideal, c4, c18, c27, ↓reduceIte, Bool.false_eq_true, Bool.true_eq_false, reduceCtorEq, eq_self, if_true, if_false, Bool.not_true, Bool.not_false]; first | done | rfl)), (by first | with_reducible rfl | (simp only [jk_ideal, c4, c18, c27, ↓reduceIte, Bool.false_eq_true, Bool.true_eq_false, reduceCtorEq, eq_self, if_true, if_false, Bool.not_true, Bool.not_false]; first | done | rfl))⟩)
  · refine jg_ldc2 cx (v := (-1)) (by decide +kernel) dX3_ideal_7 ?_
    exact jg_lret cx dX3_ideal_10 (⟨(by first | with_reducible rfl | (simp only [jk_ideal, c4, ↓reduceIte, Bool.false_eq_true, Bool.true_eq_false, reduceCtorEq, eq_self, if_true, if_false, Bool.not_true, Bool.not_false]; first | done | rfl)), (by first | with_reducible rfl | (simp only [jk_ideal, c4, ↓reduceIte, Bool.false_eq_true, Bool.true_eq_false, reduceCtorEq, eq_self, if_true, if_false, Bool.not_true, Bool.not_false]; first | done | rfl))⟩)
