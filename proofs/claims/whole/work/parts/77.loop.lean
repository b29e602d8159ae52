/-! ===== the law's loop, and the whole of it ===== -/
set_option maxRecDepth 100000 in
theorem jv_loop {E : jp_E} {l : Launch} {b L : Nat} {xs : Nat → Int32} {X : jp_X} (cx : jv_C E l b L xs X) (hL : L ≤ 2048) : ∀ (d i : Nat) (h : jp_H), 4 * i ≤ L → L < 4 * i + 4 * d → jr (50 * i) h.1 → X 18 [(0, .ref b), (1, .ref (E.2.1 0 0)), (2, .ref (E.2.1 7 0)), (3, .int (nI (4 * i)))] [] h := by
  intro d
  have hL31 : L < 2 ^ 31 := by omega
  induction d with
  | zero => intro i h h1 h2; omega
  | succ d ih =>
    intro i h h1 h2 hr
    refine jv_iload_n cx dL_law_18 rfl ?_
    refine jv_aload_n cx dL_law_19 rfl ?_
    refine jv_slen cx dL_law_20 ?_
    refine jv_iconst cx (v := nI 4) dL_law_21 (by decide) ?_
    refine jv_isub cx dL_law_22 ?_
    refine jv_icmp_gt cx (tgt := 666) dL_law_23 (by decide) (fun _ => ?_) (fun c9 => ?_)
    · refine jv_iconst cx (v := 1) dL_law_666 (by decide) ?_
      exact jv_end cx dL_law_667
    · have e1 : (nI L).toInt = (L : Int) := nI_toInt hL31
      have e2 : (nI 4).toInt = ((4 : Nat) : Int) := nI_toInt (by decide)
      have e3 : (nI (4 * i)).toInt = ((4 * i : Nat) : Int) := nI_toInt (by omega)
      have hlt : 4 * i + 3 < L := by
        rw [Int32.lt_iff_toInt_lt, jm_sub (by omega) (by omega), e1, e2, e3] at c9
        omega
      refine jv_aload_n cx dL_law_26 rfl ?_
      refine jv_iload_n cx dL_law_27 rfl ?_
      refine jv_sld cx (by omega) hL31 dL_law_28 ?_
      refine jv_bipush cx (v := 31) dL_law_29 (by decide) ?_
      refine jv_iand cx dL_law_31 ?_
      obtain ⟨n, hn, en⟩ := jv_and31 (xs (4 * i))
      rw [en]
      have K : ∀ h' : jp_H, jr (50 * i + 50) h'.1 → X 660 [(0, .ref b), (1, .ref (E.2.1 0 0)), (2, .ref (E.2.1 7 0)), (3, .int (nI (4 * i)))] [] h' := fun h' r' => by
        refine jv_iincN cx (d := 4) (lv' := [(0, .ref b), (1, .ref (E.2.1 0 0)), (2, .ref (E.2.1 7 0)), (3, .int (nI (4 * i + 4)))]) dL_law_660 rfl (by decide) (by decide) rfl ?_
        refine jv_goto cx (tgt := 18) dL_law_663 (by decide) ?_
        exact ih (i + 1) h' (by omega) (by omega) r'
      rcases (show n = 0 ∨ n = 1 ∨ n = 2 ∨ n = 3 ∨ n = 4 ∨ n = 5 ∨ n = 6 ∨ n = 7 ∨ n = 8 ∨ n = 9 ∨ n = 10 ∨ n = 11 ∨ n = 12 ∨ n = 13 ∨ n = 14 ∨ n = 15 ∨ n = 16 ∨ n = 17 ∨ n = 18 ∨ n = 19 ∨ 20 ≤ n by omega) with e | e | e | e | e | e | e | e | e | e | e | e | e | e | e | e | e | e | e | e | e
      · subst e
        exact jv_table cx (tgt := 128) (by decide) rfl (by decide) (jv_op_node cx hL31 hr (by omega) K)
      · subst e
        exact jv_table cx (tgt := 171) (by decide) rfl (by decide) (jv_op_edge cx hL31 hr (by omega) K)
      · subst e
        exact jv_table cx (tgt := 214) (by decide) rfl (by decide) (jv_op_say cx hL31 hr (by omega) K)
      · subst e
        exact jv_table cx (tgt := 237) (by decide) rfl (by decide) (jv_op_wipe cx hL31 hr (by omega) K)
      · subst e
        exact jv_table cx (tgt := 250) (by decide) rfl (by decide) (jv_op_fault cx hL31 hr (by omega) K)
      · subst e
        exact jv_table cx (tgt := 263) (by decide) rfl (by decide) (jv_op_net cx hL31 hr (by omega) K)
      · subst e
        exact jv_table cx (tgt := 276) (by decide) rfl (by decide) (jv_op_jobs cx hL31 hr (by omega) K)
      · subst e
        exact jv_table cx (tgt := 299) (by decide) rfl (by decide) (jv_op_told cx hL31 hr (by omega) K)
      · subst e
        exact jv_table cx (tgt := 332) (by decide) rfl (by decide) (jv_op_carry cx hL31 hr (by omega) K)
      · subst e
        exact jv_table cx (tgt := 365) (by decide) rfl (by decide) (jv_op_run cx hL31 (by omega) hr (by omega) K)
      · subst e
        exact jv_table cx (tgt := 398) (by decide) rfl (by decide) (jv_op_reset cx hL31 hr (by omega) K)
      · subst e
        exact jv_table cx (tgt := 411) (by decide) rfl (by decide) (jv_op_uneven cx hL31 (by omega) hr (by omega) K)
      · subst e
        exact jv_table cx (tgt := 434) (by decide) rfl (by decide) (jv_op_share cx hL31 (by omega) hr (by omega) K)
      · subst e
        exact jv_table cx (tgt := 467) (by decide) rfl (by decide) (jv_op_potential cx hL31 (by omega) hr (by omega) K)
      · subst e
        exact jv_table cx (tgt := 481) (by decide) rfl (by decide) (jv_op_ideal cx hL31 (by omega) hr (by omega) K)
      · subst e
        exact jv_table cx (tgt := 525) (by decide) rfl (by decide) (jv_op_until cx hL31 (by omega) hr (by omega) K)
      · subst e
        exact jv_table cx (tgt := 558) (by decide) rfl (by decide) (jv_op_ring cx hL31 (by omega) hr (by omega) K)
      · subst e
        exact jv_table cx (tgt := 591) (by decide) rfl (by decide) (jv_op_image cx hL31 hr (by omega) K)
      · subst e
        exact jv_table cx (tgt := 614) (by decide) rfl (by decide) (jv_op_restore cx hL31 hr (by omega) K)
      · subst e
        exact jv_table cx (tgt := 637) (by decide) rfl (by decide) (jv_op_count cx hL31 (by omega) hr (by omega) K)
      · exact jv_tableOut cx e hn (K h (jr_le (Nat.le_add_right _ 50) hr))
